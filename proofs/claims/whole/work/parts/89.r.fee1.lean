/-! forFee -/
def acrS (T : Nat → Nat → Nat) (s c : Nat) : Nat := if T 2 s = c then T 3 s else T 2 s
def atS (T : Nat → Nat → Nat) (s c : Nat) : Prop := T 2 s = c ∨ T 3 s = c
/-- he leads from h to the goal c for just f more -/
def LfC (T : Nat → Nat → Nat) (g c : Nat) : Nat → Nat → Nat → Nat → Prop
  | 0, _, _, _ => False
  | k + 1, h, f, M => (h = c ∧ f = 0) ∨ (h ≠ c ∧ ∃ s, s < T 0 1 ∧ (T 7 g).testBit s = true ∧ atS T s h ∧ (M ||| 2 ^ h).testBit (acrS T s h) = false ∧ T 6 g * (T 4 s + T 5 g) ≤ f ∧ LfC T g c k (acrS T s h) (f - T 6 g * (T 4 s + T 5 g)) (M ||| 2 ^ h))
/-- the same, by what was spent -/
def LfD (T : Nat → Nat → Nat) (g c F : Nat) : Nat → Nat → Nat → Nat → Prop
  | 0, _, _, _ => False
  | k + 1, h, sp, M => (h = c ∧ T 6 g * sp = F) ∨ (h ≠ c ∧ ∃ s, s < T 0 1 ∧ (T 7 g).testBit s = true ∧ atS T s h ∧ (M ||| 2 ^ h).testBit (acrS T s h) = false ∧ LfD T g c F k (acrS T s h) (sp + T 4 s + T 5 g) (M ||| 2 ^ h))
theorem lfCD {T : Nat → Nat → Nat} {g c F : Nat} : ∀ k h sp M, LfD T g c F k h sp M ↔ (T 6 g * sp ≤ F ∧ LfC T g c k h (F - T 6 g * sp) M) := by
  intro k
  induction k with
  | zero => intro h sp M; exact ⟨fun q => q.elim, fun q => q.2.elim⟩
  | succ k ih =>
    intro h sp M
    constructor
    · rintro (⟨h1, h2⟩ | ⟨h1, s, hs, a1, a2, a3, a4⟩)
      · exact ⟨by omega, Or.inl ⟨h1, by omega⟩⟩
      · obtain ⟨b1, b2⟩ := (ih _ _ _).mp a4
        have e : T 6 g * (sp + T 4 s + T 5 g) = T 6 g * sp + T 6 g * (T 4 s + T 5 g) := by rw [Nat.add_assoc, Nat.mul_add]
        rw [e] at b1 b2
        refine ⟨by omega, Or.inr ⟨h1, s, hs, a1, a2, a3, by omega, ?_⟩⟩
        rw [Nat.sub_sub]
        exact b2
    · rintro ⟨h0, (⟨h1, h2⟩ | ⟨h1, s, hs, a1, a2, a3, a4, a5⟩)⟩
      · exact Or.inl ⟨h1, by omega⟩
      · refine Or.inr ⟨h1, s, hs, a1, a2, a3, (ih _ _ _).mpr ?_⟩
        have e : T 6 g * (sp + T 4 s + T 5 g) = T 6 g * sp + T 6 g * (T 4 s + T 5 g) := by rw [Nat.add_assoc, Nat.mul_add]
        rw [e]
        rw [Nat.sub_sub] at a5
        exact ⟨by omega, a5⟩
section FEE
variable {T : Nat → Nat → Nat} {nc ns ng nb hd : Int32} {mk ea eb ln pa fe kn hi bl tw : Nat → Int32}
theorem acrS_lt (hO : TOk T) {s c : Nat} (hs : s < T 0 1) : acrS T s c < T 0 0 := by
  have h := hO.2.2.2.2.2.2.1 s hs
  unfold acrS
  split
  · exact h.2.1
  · exact h.1
/-- the class's loop over the streets -/
theorem fee41 (hO : TOk T) (h6 : TwA T nc ns ng nb hd mk ea eb ln pa fe kn hi bl) {fu g c h f M d k : Nat} {self : Int32 → Int32 → (Nat → Int32) → (Nat → Int32) → (Nat → Int32) → (Nat → Int32) → (Nat → Int32) → (Nat → Int32) → Int32 → Int32 → Int32 → Int32 → Int32 → Int32 → Option R_X4_leadsFor} (hg : g < T 0 2) (hh : h < T 0 0) (hf : f ≤ 999) (hM : M < 128) (hself : ∀ (h' f' : Nat), h' < T 0 0 → f' ≤ 999 → ∃ b : Bool, self ns ng ea eb ln pa fe kn (nI g) (nI h') (nI c) (nI f') (nI M) (nI d + 1) = some (bi b) ∧ (b = true ↔ LfC T g c k h' f' M)) (hneg : ∀ (h' : Nat) (x4 : Int32), x4 < 0 → self ns ng ea eb ln pa fe kn (nI g) (nI h') (nI c) x4 (nI M) (nI d + 1) = some 0) : ∀ (e x n : Nat), x + e = T 0 1 → e < n → ∃ b : Bool, f_X4_leadsFor_L41 fu self n ns ng ea eb ln pa fe kn (nI g) (nI h) (nI c) (nI f) (nI d) (nI M) (nI x) = some (bi b) ∧ (b = true ↔ ∃ s, x ≤ s ∧ s < T 0 1 ∧ (T 7 g).testBit s = true ∧ atS T s h ∧ M.testBit (acrS T s h) = false ∧ T 6 g * (T 4 s + T 5 g) ≤ f ∧ LfC T g c k (acrS T s h) (f - T 6 g * (T 4 s + T 5 g)) M) := by
  have o1 := hO.1
  have o2 := hO.2.1
  have o3 := hO.2.2.1
  intro e
  induction e with
  | zero =>
    intro x n hx hn
    obtain ⟨n, rfl⟩ : ∃ k, n = k + 1 := ⟨n - 1, by omega⟩
    refine ⟨false, ?_, fun q => (by cases q), fun ⟨s, h1, h2, _⟩ => by omega⟩
    show f_X4_leadsFor_L41b fu self (f_X4_leadsFor_L41 fu self n) ns ng ea eb ln pa fe kn (nI g) (nI h) (nI c) (nI f) (nI d) (nI M) (nI x) = _
    unfold f_X4_leadsFor_L41b
    rw [if_pos (by rw [h6.2.1]; exact nI_le (by omega) (by omega))]
    rfl
  | succ e ih =>
    intro x n hx hn
    obtain ⟨n, rfl⟩ : ∃ k, n = k + 1 := ⟨n - 1, by omega⟩
    obtain ⟨b, hb1, hb2⟩ := ih (x + 1) n (by omega) (by omega)
    have hxs : x < T 0 1 := by omega
    have os := hO.2.2.2.2.2.2.1 x hxs
    have og := hO.2.2.2.2.2.2.2.1 g hg
    have hgg := h6.2.2.2.2.2.2.2.1 g hg
    have hac := acrS_lt (c := h) hO hxs
    have hfe : T 6 g * (T 4 x + T 5 g) ≤ 9 * 14 := Nat.mul_le_mul og.2.1 (by omega)
    have skip : ¬ ((T 7 g).testBit x = true ∧ atS T x h ∧ M.testBit (acrS T x h) = false ∧ T 6 g * (T 4 x + T 5 g) ≤ f ∧ LfC T g c k (acrS T x h) (f - T 6 g * (T 4 x + T 5 g)) M) → (b = true ↔ ∃ s, x ≤ s ∧ s < T 0 1 ∧ (T 7 g).testBit s = true ∧ atS T s h ∧ M.testBit (acrS T s h) = false ∧ T 6 g * (T 4 s + T 5 g) ≤ f ∧ LfC T g c k (acrS T s h) (f - T 6 g * (T 4 s + T 5 g)) M) := by
      intro hno
      refine hb2.trans ⟨fun ⟨s, a, r⟩ => ⟨s, by omega, r⟩, fun ⟨s, a, r1, r2⟩ => ?_⟩
      by_cases q : s = x
      · subst q
        exact absurd r2 hno
      · exact ⟨s, by omega, r1, r2⟩
    show ∃ b : Bool, f_X4_leadsFor_L41b fu self (f_X4_leadsFor_L41 fu self n) ns ng ea eb ln pa fe kn (nI g) (nI h) (nI c) (nI f) (nI d) (nI M) (nI x) = some (bi b) ∧ _
    unfold f_X4_leadsFor_L41b
    rw [if_neg (by rw [h6.2.1]; exact nI_ge (by omega) (by omega)), kno6 hO h6 hg hxs, at6 hO h6 hxs (by omega), acr6 hO h6 hxs (by omega), led6 hO h6 hg hxs, show nI x + 1 = nI (x + 1) from nI_add x 1, hb1]
    simp only [bnd, b01i]
    rw [show (if T 2 x = h then T 3 x else T 2 x) = acrS T x h from rfl, bit1 (by omega) (by omega), xb_nI _ (by omega) (by decide), cl g (by omega), hgg.2.1, pk_mul, show nI d + 1 = nI d + 1 from rfl]
    by_cases c1 : (T 7 g).testBit x = true
    · rw [if_pos c1]
      by_cases c2 : T 2 x = h ∨ T 3 x = h
      · rw [if_pos c2]
        cases c3 : M.testBit (acrS T x h) with
        | true =>
          rw [if_pos rfl]
          exact ⟨b, rfl, skip (fun q => by rw [c3] at q; exact absurd q.2.2.1 (by decide))⟩
        | false =>
          rw [if_neg (by decide)]
          by_cases c4 : T 6 g * (T 4 x + T 5 g) ≤ f
          · rw [pk_sub c4]
            obtain ⟨b', hs1, hs2⟩ := hself (acrS T x h) (f - T 6 g * (T 4 x + T 5 g)) hac (by omega)
            rw [hs1, bnd, bi0]
            cases b' with
            | true =>
              rw [if_pos rfl]
              exact ⟨true, rfl, fun _ => ⟨x, by omega, hxs, c1, c2, c3, c4, hs2.mp rfl⟩, fun _ => rfl⟩
            | false =>
              rw [if_neg (by decide)]
              exact ⟨b, rfl, skip (fun q => absurd (hs2.mpr q.2.2.2.2) (by decide))⟩
          · rw [hneg _ _ (pk_sneg (by omega) (by omega)), bnd, if_pos rfl]
            exact ⟨b, rfl, skip (fun q => c4 q.2.2.2.1)⟩
      · rw [if_neg c2]
        exact ⟨b, rfl, skip (fun q => c2 q.2.1)⟩
    · rw [if_neg c1]
      exact ⟨b, rfl, skip (fun q => c1 q.1)⟩
theorem feeNeg {fu n : Nat} {x4 : Int32} {a1 a2 a3 a5 a6 : Int32} (hx : x4 < 0) : f_X4_leadsFor fu (n + 1) ns ng ea eb ln pa fe kn a1 a2 a3 x4 a5 a6 = some 0 := by
  show f_X4_leadsForb fu (f_X4_leadsFor fu n) ns ng ea eb ln pa fe kn a1 a2 a3 x4 a5 a6 = _
  unfold f_X4_leadsForb
  rw [if_pos hx]
theorem leads6 (hO : TOk T) (h6 : TwA T nc ns ng nb hd mk ea eb ln pa fe kn hi bl) {fu g c : Nat} (hfu : 50 ≤ fu) (hg : g < T 0 2) (hc : c < T 0 0) : ∀ (k n d h f M : Nat), d + k = 7 → k < n → h < T 0 0 → f ≤ 999 → M < 128 → ∃ b : Bool, f_X4_leadsFor fu n ns ng ea eb ln pa fe kn (nI g) (nI h) (nI c) (nI f) (nI M) (nI d) = some (bi b) ∧ (b = true ↔ LfC T g c k h f M) := by
  have o1 := hO.1
  have o2 := hO.2.1
  intro k
  induction k with
  | zero =>
    intro n d h f M hd hn hh hf hM
    obtain ⟨n, rfl⟩ : ∃ k, n = k + 1 := ⟨n - 1, by omega⟩
    refine ⟨false, ?_, fun q => (by cases q), fun q => q.elim⟩
    show f_X4_leadsForb fu (f_X4_leadsFor fu n) ns ng ea eb ln pa fe kn (nI g) (nI h) (nI c) (nI f) (nI M) (nI d) = _
    unfold f_X4_leadsForb
    rw [if_neg (nI_pos (by omega)), if_neg (by rw [show (7 : Int32) = nI 7 from rfl]; exact nI_nlt (by omega) (by omega))]
    rfl
  | succ k ih =>
    intro n d h f M hd hn hh hf hM
    obtain ⟨n, rfl⟩ : ∃ k, n = k + 1 := ⟨n - 1, by omega⟩
    have hM' : M ||| 2 ^ h < 128 := or_lt7 hM (by omega)
    show ∃ b : Bool, f_X4_leadsForb fu (f_X4_leadsFor fu n) ns ng ea eb ln pa fe kn (nI g) (nI h) (nI c) (nI f) (nI M) (nI d) = _ ∧ _
    unfold f_X4_leadsForb
    rw [if_neg (nI_pos (by omega)), show (7 : Int32) = nI 7 from rfl, ltE (by omega) (by decide), if_pos (by omega), eqE (by omega) (by omega), if0 (by omega), oneShl (by omega), fa_or]
    by_cases c1 : h = c
    · rw [if_pos c1]
      by_cases c2 : f = 0
      · rw [if_pos c2]
        exact ⟨true, rfl, fun _ => Or.inl ⟨c1, c2⟩, fun _ => rfl⟩
      · rw [if_neg c2]
        exact ⟨false, rfl, fun q => (by cases q), fun q => q.elim (fun r => absurd r.2 c2) (fun r => absurd c1 r.1)⟩
    · rw [if_neg c1]
      obtain ⟨n', rfl⟩ : ∃ k, n = k + 1 := ⟨n - 1, by omega⟩
      obtain ⟨b, hb1, hb2⟩ := fee41 (fu := fu) (c := c) (d := d) (k := k) (self := f_X4_leadsFor fu (n' + 1)) hO h6 hg hh hf hM' (fun h' f' a b => by
        rw [show nI d + 1 = nI (d + 1) from nI_add d 1]
        exact ih (n' + 1) (d + 1) h' f' (M ||| 2 ^ h) (by omega) (by omega) a b hM') (fun h' x4 hx => feeNeg hx) (T 0 1) 0 fu (by omega) (by omega)
      refine ⟨b, hb1, hb2.trans ⟨fun ⟨s, _, r⟩ => Or.inr ⟨c1, s, r⟩, fun q => ?_⟩⟩
      rcases q with q | ⟨_, s, r⟩
      · exact absurd q.1 c1
      · exact ⟨s, by omega, r⟩
theorem can6 (hO : TOk T) (h6 : TwA T nc ns ng nb hd mk ea eb ln pa fe kn hi bl) {fu g c h F : Nat} (hfu : 50 ≤ fu) (hg : g < T 0 2) (hc : c < T 0 0) (hh : h < T 0 0) (hF : F ≤ 999) : ∃ b : Bool, f_X4_canLeadFor fu ns ng ea eb ln pa fe kn (nI g) (nI h) (nI c) (nI F) = some (bi b) ∧ (b = true ↔ LfD T g c F 7 h 0 0) := by
  obtain ⟨b, h1, h2⟩ := leads6 hO h6 hfu hg hc 7 9 0 h F 0 (by omega) (by omega) hh hF (by omega)
  refine ⟨b, ?_, ?_⟩
  · unfold f_X4_canLeadFor
    rw [show f_X4_leadsFor fu 9 ns ng ea eb ln pa fe kn (nI g) (nI h) (nI c) (nI F) 0 0 = some (bi b) from h1, bnd]
    unfold bi
    rw [xz_b]
  · rw [h2, lfCD]
    simp only [Nat.mul_zero, Nat.sub_zero, Nat.zero_le, true_and]
end FEE
