theorem bitOr {a k i : Nat} : (a ||| 2 ^ k).testBit i = true ↔ a.testBit i = true ∨ k = i := by
  rw [Nat.testBit_or, Nat.testBit_two_pow]
  simp
theorem le0 {α : Type} {a : Nat} (ha : a < 2 ^ 31) (A B : α) : (if nI a ≤ 0 then A else B) = if 0 < a then B else A := by
  rw [show (0 : Int32) = nI 0 from rfl, leE ha (by decide)]
  by_cases h : 0 < a
  · rw [if_pos h, if_neg (by omega)]
  · rw [if_neg h, if_pos (by omega)]
/-- a mask and what its bits mean -/
def MaskP (M : Nat) (v : Int32) (Q : Nat → Prop) : Prop := ∃ q, q < M ∧ v = nI q ∧ ∀ i, (q.testBit i = true ↔ Q i)
theorem MaskP.eq {M M' : Nat} {v w : Int32} {Q Q' : Nat → Prop} (h : MaskP M v Q) (h' : MaskP M' w Q') (e : ∀ i, Q i ↔ Q' i) : v = w := by
  obtain ⟨q, _, rfl, hq⟩ := h
  obtain ⟨q', _, rfl, hq'⟩ := h'
  congr 1
  apply Nat.eq_of_testBit_eq
  intro i
  have := (hq i).trans ((e i).trans (hq' i).symm)
  cases h1 : q.testBit i <;> cases h2 : q'.testBit i
  · rfl
  · rw [h1, h2] at this
    exact absurd (this.mpr rfl) (by decide)
  · rw [h1, h2] at this
    exact absurd (this.mp rfl) (by decide)
  · rfl
theorem MaskP.zero {M : Nat} (hM : 0 < M) {Q : Nat → Prop} (h : ∀ i, ¬ Q i) : MaskP M 0 Q := ⟨0, hM, rfl, fun i => by rw [Nat.zero_testBit]; exact ⟨fun e => (by cases e), fun e => absurd e (h i)⟩⟩
theorem MaskP.congr {M : Nat} {v : Int32} {Q Q' : Nat → Prop} (h : MaskP M v Q) (e : ∀ i, Q i ↔ Q' i) : MaskP M v Q' := by
  obtain ⟨q, h1, h2, h3⟩ := h
  exact ⟨q, h1, h2, fun i => (h3 i).trans (e i)⟩
theorem MaskP.or {n : Nat} {v w : Int32} {Q Q' : Nat → Prop} (h : MaskP (2 ^ n) v Q) (h' : MaskP (2 ^ n) w Q') : MaskP (2 ^ n) (v ||| w) (fun i => Q i ∨ Q' i) := by
  obtain ⟨q, h1, rfl, h3⟩ := h
  obtain ⟨q', h1', rfl, h3'⟩ := h'
  refine ⟨q ||| q', Nat.or_lt_two_pow h1 h1', fa_or _ _, fun i => ?_⟩
  rw [Nat.testBit_or, Bool.or_eq_true, h3 i, h3' i]
theorem MaskP.one {n k : Nat} (hk : k < n) (hn : n < 31) : MaskP (2 ^ n) ((1 : Int32) <<< (nI k &&& 31)) (fun i => k = i) := by
  refine ⟨2 ^ k, p2lt hk, oneShl (by omega), fun i => ?_⟩
  rw [Nat.testBit_two_pow]
  simp
section FITS
variable {T : Nat → Nat → Nat} {nc ns ng nb hd : Int32} {mk ea eb ln pa fe kn hi bl tw : Nat → Int32}
theorem ends6 (hO : TOk T) {fu n : Nat} {mm : Nat → Nat} {R : Nat → Int32} (hn : n ≤ 6) (hf : 50 ≤ fu) (hR : ∀ d, d < 7 → R d = nI (rowsN T mm n d)) : ∃ v, f_X3_rowEnds fu R = some v ∧ MaskP 128 v (fun i => 0 < rowsN T mm n i) := by
  obtain ⟨s, h1, h2⟩ := rel_loop (fun q (s : Int32) x => f_X3_rowEnds_L4 fu q R s x) (fun s => some s) (fun x s => MaskP (2 ^ 7) s (fun i => i < x ∧ 0 < rowsN T mm n i)) 7 (by
    intro q x s hx hP
    show ∃ s', f_X3_rowEnds_L4b fu (f_X3_rowEnds_L4 fu q) R s (nI x) = _ ∧ _
    unfold f_X3_rowEnds_L4b
    have hb := rowsN_le hO mm hn x
    rw [if_neg (by rw [show (7 : Int32) = nI 7 from rfl]; exact nI_ge hx (by omega)), xb_nI _ hx (by decide), cl x (by omega), hR x hx, show nI x + 1 = nI (x + 1) from nI_add x 1, le0 (by omega)]
    by_cases e : 0 < rowsN T mm n x
    · rw [if_pos e]
      refine ⟨_, rfl, (hP.or (MaskP.one hx (by decide))).congr (fun i => ⟨?_, ?_⟩)⟩
      · rintro (⟨a, b⟩ | rfl)
        · exact ⟨by omega, b⟩
        · exact ⟨by omega, e⟩
      · rintro ⟨a, b⟩
        by_cases q : x = i
        · exact Or.inr q
        · exact Or.inl ⟨by omega, b⟩
    · rw [if_neg e]
      refine ⟨_, rfl, hP.congr (fun i => ⟨fun ⟨a, b⟩ => ⟨by omega, b⟩, fun ⟨a, b⟩ => ⟨?_, b⟩⟩)⟩
      by_cases q : x = i
      · rw [q] at e
        exact absurd b e
      · omega) (by
    intro q s hP
    show f_X3_rowEnds_L4b fu (f_X3_rowEnds_L4 fu q) R s (nI 7) = _
    unfold f_X3_rowEnds_L4b
    rw [if_pos (by decide)]) 7 0 fu 0 (by omega) (by omega) (MaskP.zero (by decide) (fun i h => by omega))
  refine ⟨s, h1, h2.congr (fun i => ⟨fun h => h.2, fun h => ⟨?_, h⟩⟩)⟩
  have o1 := hO.1
  unfold rowsN at h
  by_cases e : i < T 0 0 ∧ 0 < n
  · omega
  · rw [if_neg e] at h
    exact absurd h (by decide)
theorem sum6 (hO : TOk T) {fu n : Nat} {mm : Nat → Nat} {R NR fm : Nat → Int32} {f : Int32} (hf : 50 ≤ fu) (hR : ∀ d, d < 7 → R d = nI (rowsN T mm n d)) : f_X3_rowCount_L10 fu fu f fm R NR nc ns mk ea eb 0 0 = some (nI (sumTo (rowsN T mm n) 7), R, NR) := by
  obtain ⟨s, h1, h2⟩ := rel_loop (fun q (s : Int32) x => f_X3_rowCount_L10 fu q f fm R NR nc ns mk ea eb s x) (fun s => some (s, R, NR)) (fun x s => s = nI (sumTo (rowsN T mm n) x)) 7 (by
    intro q x s hx hP
    refine ⟨nI (sumTo (rowsN T mm n) (x + 1)), ?_, rfl⟩
    show f_X3_rowCount_L10b fu (f_X3_rowCount_L10 fu q) f fm R NR nc ns mk ea eb s (nI x) = _
    unfold f_X3_rowCount_L10b
    rw [if_neg (by rw [show (7 : Int32) = nI 7 from rfl]; exact nI_ge hx (by omega)), xb_nI _ hx (by decide), cl x (by omega), hR x hx, show nI x + 1 = nI (x + 1) from nI_add x 1, hP, nI_add]
    rfl) (by
    intro q s hP
    show f_X3_rowCount_L10b fu (f_X3_rowCount_L10 fu q) f fm R NR nc ns mk ea eb s (nI 7) = _
    unfold f_X3_rowCount_L10b
    rw [if_pos (by decide)]) 7 0 fu 0 (by omega) (by omega) rfl
  rw [← h2]
  exact h1
/-- the marks that may be felt one street further on -/
def TolM (T : Nat → Nat → Nat) (r : Nat → Nat) (x i : Nat) : Prop := ∃ c, c < x ∧ 0 < r c ∧ ∃ b, b < T 0 0 ∧ Bes T c b = true ∧ T 1 b = i
theorem around6 (hO : TOk T) (h6 : TwA T nc ns ng nb hd mk ea eb ln pa fe kn hi bl) {fu e : Nat} {r : Nat → Nat} (hf : 50 ≤ fu) (he : e < 128) (hb : ∀ i, (e.testBit i = true ↔ 0 < r i)) : ∃ t, t < 16 ∧ f_X4_marksAround fu nc ns mk ea eb (nI e) = some (cntI t) ∧ ∀ i, (t.testBit i = true ↔ TolM T r (T 0 0) i) := by
  have o1 := hO.1
  unfold f_X4_marksAround
  obtain ⟨s, h1, h2⟩ := rel_loop (fun q (s : Int32) x => f_X4_marksAround_L4 fu q nc ns mk ea eb (nI e) s x) (fun s => f_X4_marksAround_L40 fu fu nc ns mk ea eb s 0 0) (fun x s => MaskP (2 ^ 7) s (fun i => ∃ c, c < x ∧ 0 < r c ∧ Bes T c i = true)) (T 0 0) (by
    intro q x s hx hP
    show ∃ s', f_X4_marksAround_L4b fu (f_X4_marksAround_L4 fu q) nc ns mk ea eb (nI e) s (nI x) = _ ∧ _
    unfold f_X4_marksAround_L4b
    obtain ⟨m, hm, em, hbit⟩ := nextTo6 (fu := fu) hO h6 (c := x) (by omega) (by omega)
    rw [if_neg (by rw [h6.1]; exact nI_ge (by omega) (by omega)), bit1 (by omega) (by omega), em, bnd, show nI x + 1 = nI (x + 1) from nI_add x 1]
    by_cases c1 : e.testBit x = true
    · rw [if_pos c1]
      refine ⟨_, rfl, (hP.or (⟨m, hm, rfl, fun i => Iff.rfl⟩ : MaskP (2 ^ 7) (nI m) (fun i => m.testBit i = true))).congr (fun i => ⟨?_, ?_⟩)⟩
      · rintro (⟨c, a, b, d⟩ | a)
        · exact ⟨c, by omega, b, d⟩
        · rw [hbit] at a
          exact ⟨x, by omega, (hb x).mp c1, a⟩
      · rintro ⟨c, a, b, d⟩
        by_cases q : c = x
        · rw [q] at d
          exact Or.inr (by show m.testBit i = true; rw [hbit]; exact d)
        · exact Or.inl ⟨c, by omega, b, d⟩
    · rw [if_neg c1]
      refine ⟨_, rfl, hP.congr (fun i => ⟨fun ⟨c, a, b⟩ => ⟨c, by omega, b⟩, fun ⟨c, a, b⟩ => ⟨c, ?_, b⟩⟩)⟩
      by_cases q : c = x
      · rw [q] at b
        exact absurd ((hb x).mpr b.1) c1
      · omega) (by
    intro q s hP
    show f_X4_marksAround_L4b fu (f_X4_marksAround_L4 fu q) nc ns mk ea eb (nI e) s (nI (T 0 0)) = _
    unfold f_X4_marksAround_L4b
    rw [if_pos (by rw [h6.1]; exact nI_le (Nat.le_refl _) (by omega))]) (T 0 0) 0 fu 0 (by omega) (by omega) (MaskP.zero (by decide) (fun i ⟨c, h, _⟩ => by omega))
  obtain ⟨g, hg, rfl, hgb⟩ := h2
  obtain ⟨s, h3, h4⟩ := rel_loop (fun q (s : Int32) x => f_X4_marksAround_L40 fu q nc ns mk ea eb (nI g) s x) (fun s => (f_J6_bitCount_0f7a4 s).bind (fun r2 => some r2)) (fun x s => MaskP (2 ^ 4) s (fun i => ∃ b, b < x ∧ g.testBit b = true ∧ T 1 b = i)) (T 0 0) (by
    intro q x s hx hP
    show ∃ s', f_X4_marksAround_L40b fu (f_X4_marksAround_L40 fu q) nc ns mk ea eb (nI g) s (nI x) = _ ∧ _
    unfold f_X4_marksAround_L40b
    have hmk := hO.2.2.2.2.2.1 x hx
    rw [if_neg (by rw [h6.1]; exact nI_ge (by omega) (by omega)), bit1 (by omega) (by omega), xb_nI _ (by omega) (by decide), cl x (by omega), h6.2.2.2.2.2.1 x hx, show nI x + 1 = nI (x + 1) from nI_add x 1]
    by_cases c1 : g.testBit x = true
    · rw [if_pos c1]
      refine ⟨_, rfl, (hP.or (MaskP.one hmk (by decide))).congr (fun i => ⟨?_, ?_⟩)⟩
      · rintro (⟨c, a, b, d⟩ | a)
        · exact ⟨c, by omega, b, d⟩
        · exact ⟨x, by omega, c1, a⟩
      · rintro ⟨c, a, b, d⟩
        by_cases q : c = x
        · rw [q] at d
          exact Or.inr d
        · exact Or.inl ⟨c, by omega, b, d⟩
    · rw [if_neg c1]
      refine ⟨_, rfl, hP.congr (fun i => ⟨fun ⟨c, a, b⟩ => ⟨c, by omega, b⟩, fun ⟨c, a, b⟩ => ⟨c, ?_, b⟩⟩)⟩
      by_cases q : c = x
      · rw [q] at b
        exact absurd b.1 c1
      · omega) (by
    intro q s hP
    show f_X4_marksAround_L40b fu (f_X4_marksAround_L40 fu q) nc ns mk ea eb (nI g) s (nI (T 0 0)) = _
    unfold f_X4_marksAround_L40b
    rw [if_pos (by rw [h6.1]; exact nI_le (Nat.le_refl _) (by omega))]) (T 0 0) 0 fu 0 (by omega) (by omega) (MaskP.zero (by decide) (fun i ⟨c, h, _⟩ => by omega))
  obtain ⟨t, ht, rfl, htb⟩ := h4
  refine ⟨t, ht, ?_, fun i => (htb i).trans ⟨?_, ?_⟩⟩
  · refine h1.trans (h3.trans ?_)
    rw [cntI_e, bnd]
  · rintro ⟨b, hb1, hb2, hb3⟩
    obtain ⟨c, hc1, hc2, hc3⟩ := (hgb b).mp hb2
    exact ⟨c, hc1, hc2, b, hb1, hc3, hb3⟩
  · rintro ⟨c, hc1, hc2, b, hb1, hb2, hb3⟩
    exact ⟨b, hb1, (hgb b).mpr ⟨c, hc1, hc2, hb2⟩, hb3⟩
/-! the reference -/
theorem fit125 (hO : TOk T) (h7 : TwB T tw) {fu k c n : Nat} {mm : Nat → Nat} {R NR FR NF fm : Nat → Int32} {k89 : (Nat → Int32) → Int32 → (Nat → Int32) → (Nat → Int32) → (Nat → Int32) → (Nat → Int32) → (Nat → Int32) → Int32 → Option R_X7_fit} {k99 : (Nat → Int32) → Int32 → (Nat → Int32) → (Nat → Int32) → (Nat → Int32) → (Nat → Int32) → (Nat → Int32) → Int32 → Int32 → Option R_X7_fit} (hf : 50 ≤ fu) (hk : k + 1 < 6) (hc : c < T 0 0) (hmm : mm (k + 1) < 4) (hfm : fm (k + 1) = nI (mm (k + 1))) (hR : ∀ d, d < T 0 0 → R d = nI (cntR T mm k d)) (hF : ∀ d, d < T 0 0 → MaskP (2 ^ 7) (FR d) (fun i => RowP T mm k i d)) (z1 : NR c = 0) (z2 : NF c = 0) : ∃ NR' NF', f_X7_fit_L125 fu k89 k99 fu tw (nI n) fm R NR FR NF (nI (k + 1)) (nI c) 0 = k99 tw (nI n) fm R NR' FR NF' (nI (k + 1)) (nI (c + 1)) ∧ NR' c = nI (cntR T mm (k + 1) c) ∧ MaskP (2 ^ 7) (NF' c) (fun i => RowP T mm (k + 1) i c) ∧ ∀ d, d ≠ c → NR' d = NR d ∧ NF' d = NF d := by
  have o1 := hO.1
  have hmk := hO.2.2.2.2.2.1 c hc
  have q0 : ∀ {α : Type} (A : Option α), xb (0 : Int32) 64 A = A := fun A => xb_l (by decide)
  have qc : ∀ {α : Type} (A : Option α), xb (nI c) 7 A = A := fun A => xb_nI A (by omega) (by decide)
  have qk : ∀ {α : Type} (A : Option α), xb (nI (k + 1)) 6 A = A := fun A => xb_nI A (by omega) (by decide)
  have q6 : ∀ {α : Type} (A : Option α), xb (nI (6 + c)) 64 A = A := fun A => xb_nI A (by omega) (by decide)
  by_cases e1 : T 1 c = mm (k + 1)
  · obtain ⟨s, h1, h2, h3, h4⟩ := rel_loop (fun q (s : (Nat → Int32) × (Nat → Int32)) x => f_X7_fit_L125 fu k89 k99 q tw (nI n) fm R s.1 FR s.2 (nI (k + 1)) (nI c) x) (fun s => k99 tw (nI n) fm R s.1 FR s.2 (nI (k + 1)) (nI (c + 1))) (fun x s => s.1 c = nI (sumTo (fun d => if Bes T c d then cntR T mm k d else 0) x) ∧ MaskP (2 ^ 7) (s.2 c) (fun i => ∃ b, b < x ∧ Bes T b c = true ∧ RowP T mm k i b) ∧ ∀ d, d ≠ c → s.1 d = NR d ∧ s.2 d = NF d) (T 0 0) (by
      intro q x s hx hP
      obtain ⟨hP1, hP2, hP3⟩ := hP
      have qx : ∀ {α : Type} (A : Option α), xb (nI x) 7 A = A := fun A => xb_nI A (by omega) (by decide)
      show ∃ s', f_X7_fit_L125b fu k89 k99 (f_X7_fit_L125 fu k89 k99 q) tw (nI n) fm R s.1 FR s.2 (nI (k + 1)) (nI c) (nI x) = _ ∧ _
      unfold f_X7_fit_L125b f_X7_fit_J183
      simp only [q0, qc, qk, qx, show (6 : Int32) + nI c = nI (6 + c) from nI_add 6 c, q6, show ((0 : Int32).toNatClampNeg) = 0 from rfl, cl (6 + c) (show 6 + c < 2 ^ 31 by omega), cl (k + 1) (show k + 1 < 2 ^ 31 by omega), cl c (show c < 2 ^ 31 by omega), cl x (show x < 2 ^ 31 by omega), h7.1, h7.2.2.2.2.2.1 c hc, hfm, show nI x + 1 = nI (x + 1) from nI_add x 1]
      rw [if_neg (nI_ge (by omega) (by omega)), eqE (by omega) (by omega), if_pos e1, beside7 hO h7 (by omega) (by omega) (by omega), bnd]
      simp only [bi0]
      have us : ∀ (f : Nat → Int32) (y : Int32), upd f c y c = y := fun f y => by unfold upd; rw [if_pos rfl]
      have un : ∀ (f : Nat → Int32) (y : Int32) (d : Nat), d ≠ c → upd f c y d = f d := fun f y d hd => by unfold upd; rw [if_neg hd]
      by_cases e2 : Bes T x c = true
      · rw [if_pos e2, if_pos e2]
        refine ⟨(_, _), rfl, ?_, ?_, fun d hd => ?_⟩
        · show upd s.1 c (s.1 c + R x) c = nI (sumTo (fun d => if Bes T c d then cntR T mm k d else 0) x + (if Bes T c x then cntR T mm k x else 0))
          rw [us, hP1, hR x hx, nI_add, if_pos (show Bes T c x = true by rw [bes_sym hO]; exact e2)]
        · show MaskP (2 ^ 7) (upd s.2 c (s.2 c ||| FR x) c) _
          rw [us]
          refine (hP2.or (hF x hx)).congr (fun i => ⟨?_, ?_⟩)
          · rintro (⟨b, a1, a2, a3⟩ | a)
            · exact ⟨b, by omega, a2, a3⟩
            · exact ⟨x, by omega, e2, a⟩
          · rintro ⟨b, a1, a2, a3⟩
            by_cases q : b = x
            · rw [q] at a3
              exact Or.inr a3
            · exact Or.inl ⟨b, by omega, a2, a3⟩
        · show upd s.1 c _ d = _ ∧ upd s.2 c _ d = _
          rw [un _ _ d hd, un _ _ d hd]
          exact hP3 d hd
      · rw [if_neg e2, if_neg e2]
        refine ⟨(_, _), rfl, ?_, ?_, fun d hd => ?_⟩
        · show upd s.1 c (s.1 c + 0) c = nI (sumTo (fun d => if Bes T c d then cntR T mm k d else 0) x + (if Bes T c x then cntR T mm k x else 0))
          rw [us, hP1, Int32.add_zero, if_neg (show ¬ Bes T c x = true by rw [bes_sym hO]; exact e2), Nat.add_zero]
        · show MaskP (2 ^ 7) (upd s.2 c (s.2 c ||| 0) c) _
          rw [us, or0]
          refine hP2.congr (fun i => ⟨fun ⟨b, a1, a⟩ => ⟨b, by omega, a⟩, fun ⟨b, a1, a⟩ => ⟨b, ?_, a⟩⟩)
          by_cases q : b = x
          · rw [q] at a
            exact absurd a.1 e2
          · omega
        · show upd s.1 c _ d = _ ∧ upd s.2 c _ d = _
          rw [un _ _ d hd, un _ _ d hd]
          exact hP3 d hd) (by
      intro q s hP
      show f_X7_fit_L125b fu k89 k99 (f_X7_fit_L125 fu k89 k99 q) tw (nI n) fm R s.1 FR s.2 (nI (k + 1)) (nI c) (nI (T 0 0)) = _
      unfold f_X7_fit_L125b
      rw [q0, show ((0 : Int32).toNatClampNeg) = 0 from rfl, h7.1, if_pos (nI_le (Nat.le_refl _) (by omega)), show nI c + 1 = nI (c + 1) from nI_add c 1]) (T 0 0) 0 fu (NR, NF) (by omega) (by omega) ⟨z1, by show MaskP (2 ^ 7) (NF c) _; rw [z2]; exact MaskP.zero (by decide) (fun i ⟨b, h, _⟩ => by omega), fun d _ => ⟨rfl, rfl⟩⟩
    refine ⟨s.1, s.2, h1, ?_, h3.congr (fun i => ⟨fun ⟨b, a1, a2, a3⟩ => ⟨hc, e1, b, a1, a2, a3⟩, fun ⟨_, _, b, a1, a2, a3⟩ => ⟨b, a1, a2, a3⟩⟩), h4⟩
    rw [h2]
    show _ = nI (if T 1 c = mm (k + 1) then sumTo (fun d => if Bes T c d then cntR T mm k d else 0) (T 0 0) else 0)
    rw [if_pos e1]
  · refine ⟨NR, NF, ?_, ?_, ?_, fun d _ => ⟨rfl, rfl⟩⟩
    · obtain ⟨f, rfl⟩ : ∃ f, fu = f + 1 := ⟨fu - 1, by omega⟩
      show f_X7_fit_L125b (f + 1) k89 k99 (f_X7_fit_L125 (f + 1) k89 k99 f) tw (nI n) fm R NR FR NF (nI (k + 1)) (nI c) 0 = _
      unfold f_X7_fit_L125b
      rw [q0, show ((0 : Int32).toNatClampNeg) = 0 from rfl, h7.1, if_neg (by rw [show (0 : Int32) = nI 0 from rfl]; exact nI_ge (by omega) (by omega)), show (6 : Int32) + nI c = nI (6 + c) from nI_add 6 c, q6, qk, cl (6 + c) (by omega), cl (k + 1) (by omega), h7.2.2.2.2.2.1 c hc, hfm, eqE (by omega) (by omega), if_neg e1, show nI c + 1 = nI (c + 1) from nI_add c 1]
    · rw [z1]
      show 0 = nI (if T 1 c = mm (k + 1) then sumTo (fun d => if Bes T c d then cntR T mm k d else 0) (T 0 0) else 0)
      rw [if_neg e1]
      rfl
    · rw [z2]
      exact MaskP.zero (by decide) (fun i h => e1 h.2.1)
theorem fit99 (hO : TOk T) (h7 : TwB T tw) {fu k n : Nat} {mm : Nat → Nat} {R NR FR NF fm : Nat → Int32} {k89 : (Nat → Int32) → Int32 → (Nat → Int32) → (Nat → Int32) → (Nat → Int32) → (Nat → Int32) → (Nat → Int32) → Int32 → Option R_X7_fit} (hf : 50 ≤ fu) (hk : k + 1 < 6) (hmm : mm (k + 1) < 4) (hfm : fm (k + 1) = nI (mm (k + 1))) (hR : ∀ d, d < T 0 0 → R d = nI (cntR T mm k d)) (hF : ∀ d, d < T 0 0 → MaskP (2 ^ 7) (FR d) (fun i => RowP T mm k i d)) : ∃ R' NR' FR' NF', f_X7_fit_L99 fu k89 fu tw (nI n) fm R NR FR NF (nI (k + 1)) 0 = k89 tw (nI n) fm R' NR' FR' NF' (nI (k + 2)) ∧ (∀ d, d < T 0 0 → R' d = nI (cntR T mm (k + 1) d) ∧ MaskP (2 ^ 7) (FR' d) (fun i => RowP T mm (k + 1) i d)) ∧ ∀ d, T 0 0 ≤ d → R' d = R d ∧ FR' d = FR d := by
  have o1 := hO.1
  have q0 : ∀ {α : Type} (A : Option α), xb (0 : Int32) 64 A = A := fun A => xb_l (by decide)
  obtain ⟨s, h1, h2⟩ := rel_loop (fun q (s : (Nat → Int32) × (Nat → Int32)) x => f_X7_fit_L99 fu k89 q tw (nI n) fm R s.1 FR s.2 (nI (k + 1)) x) (fun s => f_X7_fit_L223 fu k89 fu tw (nI n) fm R s.1 FR s.2 (nI (k + 1)) 0) (fun x s => ∀ d, d < x → s.1 d = nI (cntR T mm (k + 1) d) ∧ MaskP (2 ^ 7) (s.2 d) (fun i => RowP T mm (k + 1) i d)) (T 0 0) (by
    intro q x s hx hP
    have us : ∀ (f : Nat → Int32) (y : Int32), upd f x y x = y := fun f y => by unfold upd; rw [if_pos rfl]
    obtain ⟨NR', NF', e1, e2, e3, e4⟩ := fit125 (n := n) (k89 := k89) (k99 := f_X7_fit_L99 fu k89 q) hO h7 hf hk hx hmm hfm hR hF (us s.1 0) (us s.2 0)
    refine ⟨(NR', NF'), ?_, fun d hd => ?_⟩
    · show f_X7_fit_L99b fu k89 (f_X7_fit_L99 fu k89 q) tw (nI n) fm R s.1 FR s.2 (nI (k + 1)) (nI x) = _
      unfold f_X7_fit_L99b
      rw [q0, show ((0 : Int32).toNatClampNeg) = 0 from rfl, h7.1, if_neg (nI_ge (by omega) (by omega)), xb_nI _ (by omega) (by decide), xb_nI _ (by omega) (by decide), cl x (by omega)]
      exact e1
    · by_cases e : d = x
      · rw [e]
        exact ⟨e2, e3⟩
      · obtain ⟨a, b⟩ := e4 d e
        show NR' d = _ ∧ MaskP (2 ^ 7) (NF' d) _
        rw [a, b]
        have un : ∀ (f : Nat → Int32) (y : Int32), upd f x y d = f d := fun f y => by unfold upd; rw [if_neg e]
        rw [un, un]
        exact hP d (by omega)) (by
    intro q s hP
    show f_X7_fit_L99b fu k89 (f_X7_fit_L99 fu k89 q) tw (nI n) fm R s.1 FR s.2 (nI (k + 1)) (nI (T 0 0)) = _
    unfold f_X7_fit_L99b
    rw [q0, show ((0 : Int32).toNatClampNeg) = 0 from rfl, h7.1, if_pos (nI_le (Nat.le_refl _) (by omega))]) (T 0 0) 0 fu (NR, NF) (by omega) (by omega) (fun d hd => by omega)
  obtain ⟨s', h3, h4, h5⟩ := rel_loop (fun q (u : (Nat → Int32) × (Nat → Int32)) x => f_X7_fit_L223 fu k89 q tw (nI n) fm u.1 s.1 u.2 s.2 (nI (k + 1)) x) (fun u => k89 tw (nI n) fm u.1 s.1 u.2 s.2 (nI (k + 2))) (fun x u => (∀ d, d < x → u.1 d = s.1 d ∧ u.2 d = s.2 d) ∧ ∀ d, x ≤ d → u.1 d = R d ∧ u.2 d = FR d) (T 0 0) (by
    intro q x u hx hP
    refine ⟨(upd u.1 x (s.1 x), upd u.2 x (s.2 x)), ?_, fun d hd => ?_, fun d hd => ?_⟩
    · show f_X7_fit_L223b fu k89 (f_X7_fit_L223 fu k89 q) tw (nI n) fm u.1 s.1 u.2 s.2 (nI (k + 1)) (nI x) = _
      unfold f_X7_fit_L223b
      rw [q0, show ((0 : Int32).toNatClampNeg) = 0 from rfl, h7.1, if_neg (nI_ge (by omega) (by omega)), xb_nI _ (by omega) (by decide), xb_nI _ (by omega) (by decide), xb_nI _ (by omega) (by decide), xb_nI _ (by omega) (by decide), cl x (by omega), show nI x + 1 = nI (x + 1) from nI_add x 1]
    · show upd u.1 x (s.1 x) d = _ ∧ upd u.2 x (s.2 x) d = _
      unfold upd
      by_cases e : d = x
      · rw [if_pos e, if_pos e, e]
        exact ⟨rfl, rfl⟩
      · rw [if_neg e, if_neg e]
        exact hP.1 d (by omega)
    · show upd u.1 x (s.1 x) d = _ ∧ upd u.2 x (s.2 x) d = _
      unfold upd
      rw [if_neg (by omega), if_neg (by omega)]
      exact hP.2 d (by omega)) (by
    intro q u hP
    show f_X7_fit_L223b fu k89 (f_X7_fit_L223 fu k89 q) tw (nI n) fm u.1 s.1 u.2 s.2 (nI (k + 1)) (nI (T 0 0)) = _
    unfold f_X7_fit_L223b
    rw [q0, show ((0 : Int32).toNatClampNeg) = 0 from rfl, h7.1, if_pos (nI_le (Nat.le_refl _) (by omega)), show nI (k + 1) + 1 = nI (k + 2) from nI_add (k + 1) 1]) (T 0 0) 0 fu (R, FR) (by omega) (by omega) ⟨fun d hd => by omega, fun d _ => ⟨rfl, rfl⟩⟩
  refine ⟨s'.1, s.1, s'.2, s.2, h1.trans h3, fun d hd => ?_, h5⟩
  obtain ⟨a, b⟩ := h4 d hd
  rw [a, b]
  exact h2 d hd
end FITS
