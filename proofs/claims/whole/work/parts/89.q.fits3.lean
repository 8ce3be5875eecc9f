section FITS
variable {T : Nat → Nat → Nat} {nc ns ng nb hd : Int32} {mk ea eb ln pa fe kn hi bl tw : Nat → Int32}
theorem fit0 (hO : TOk T) (h7 : TwB T tw) {fu n : Nat} {m : Nat → Nat} {R NR FR NF fm : Nat → Int32} (hf : 50 ≤ fu) (hn : n ≤ 6) (hm : ∀ k, k < n → m k < 4 ∧ fm k = nI (m k)) : ∃ R' FR', f_X7_fit fu tw (nI n) fm R NR FR NF = f_X7_fit_L89 fu fu tw (nI n) fm R' NR FR' NF 1 ∧ ∀ d, d < 7 → if d < T 0 0 ∧ 0 < n ∧ T 1 d = m 0 then R' d = 1 ∧ FR' d = nI (2 ^ d) else R' d = 0 ∧ FR' d = 0 := by
  have o1 := hO.1
  have q0 : ∀ {α : Type} (A : Option α), xb (0 : Int32) 64 A = A := fun A => xb_l (by decide)
  have q06 : ∀ {α : Type} (A : Option α), xb (0 : Int32) 6 A = A := fun A => xb_l (by decide)
  obtain ⟨s, h1, h2⟩ := rel_loop (fun q (s : (Nat → Int32) × (Nat → Int32)) x => f_X7_fit_L2 fu q tw (nI n) fm s.1 NR s.2 NF x) (fun s => f_X7_fit_L89 fu fu tw (nI n) fm s.1 NR s.2 NF 1) (fun x s => ∀ d, d < x → if d < T 0 0 ∧ 0 < n ∧ T 1 d = m 0 then s.1 d = 1 ∧ s.2 d = nI (2 ^ d) else s.1 d = 0 ∧ s.2 d = 0) 7 (by
    intro q x s hx hP
    have qx : ∀ {α : Type} (A : Option α), xb (nI x) 7 A = A := fun A => xb_nI A (by omega) (by decide)
    have j1 : f_X7_fit_J48 fu (f_X7_fit_L2 fu q) tw (nI n) fm s.1 NR s.2 NF (nI x) 1 = f_X7_fit_L2 fu q tw (nI n) fm (upd s.1 x 1) NR (upd s.2 x (nI (2 ^ x))) NF (nI (x + 1)) := by
      unfold f_X7_fit_J48 f_X7_fit_J63
      rw [if_neg (by decide), if_neg (by decide), qx, qx, cl x (by omega), oneShl (by omega), show nI x + 1 = nI (x + 1) from nI_add x 1]
    have j0 : f_X7_fit_J48 fu (f_X7_fit_L2 fu q) tw (nI n) fm s.1 NR s.2 NF (nI x) 0 = f_X7_fit_L2 fu q tw (nI n) fm (upd s.1 x 0) NR (upd s.2 x 0) NF (nI (x + 1)) := by
      unfold f_X7_fit_J48 f_X7_fit_J63
      rw [if_pos rfl, if_pos rfl, qx, qx, cl x (by omega), show nI x + 1 = nI (x + 1) from nI_add x 1]
    have hb : f_X7_fit_L2b fu (f_X7_fit_L2 fu q) tw (nI n) fm s.1 NR s.2 NF (nI x) = if x < T 0 0 ∧ 0 < n ∧ T 1 x = m 0 then f_X7_fit_L2 fu q tw (nI n) fm (upd s.1 x 1) NR (upd s.2 x (nI (2 ^ x))) NF (nI (x + 1)) else f_X7_fit_L2 fu q tw (nI n) fm (upd s.1 x 0) NR (upd s.2 x 0) NF (nI (x + 1)) := by
      unfold f_X7_fit_L2b
      rw [j0, j1, if_neg (by rw [show (7 : Int32) = nI 7 from rfl]; exact nI_ge hx (by omega)), q0, show ((0 : Int32).toNatClampNeg) = 0 from rfl, h7.1, leE (by omega) (by omega), le0 (by omega)]
      by_cases c1 : x < T 0 0
      · rw [if_neg (by omega)]
        by_cases c2 : 0 < n
        · have hmk := hO.2.2.2.2.2.1 x c1
          have h0 := hm 0 c2
          rw [if_pos c2, show (6 : Int32) + nI x = nI (6 + x) from nI_add 6 x, xb_nI _ (by omega) (by decide), q06, cl (6 + x) (by omega), h7.2.2.2.2.2.1 x c1, h0.2, eqE (by omega) (by omega)]
          by_cases c3 : T 1 x = m 0
          · rw [if_pos c3]
            exact (if_pos ⟨c1, c2, c3⟩).symm
          · rw [if_neg c3]
            exact (if_neg (fun h => c3 h.2.2)).symm
        · rw [if_neg c2]
          exact (if_neg (fun h => c2 h.2.1)).symm
      · rw [if_pos (by omega)]
        exact (if_neg (fun h => c1 h.1)).symm
    have us : ∀ (f : Nat → Int32) (y : Int32), upd f x y x = y := fun f y => by unfold upd; rw [if_pos rfl]
    have un : ∀ (f : Nat → Int32) (y : Int32) (d : Nat), d ≠ x → upd f x y d = f d := fun f y d hd => by unfold upd; rw [if_neg hd]
    by_cases c : x < T 0 0 ∧ 0 < n ∧ T 1 x = m 0
    · rw [if_pos c] at hb
      refine ⟨(_, _), hb, fun d hd => ?_⟩
      by_cases e : d = x
      · subst e
        rw [if_pos c]
        exact ⟨us _ _, us _ _⟩
      · show if d < T 0 0 ∧ 0 < n ∧ T 1 d = m 0 then upd s.1 x 1 d = 1 ∧ upd s.2 x _ d = nI (2 ^ d) else upd s.1 x 1 d = 0 ∧ upd s.2 x _ d = 0
        rw [un _ _ d e, un _ _ d e]
        exact hP d (by omega)
    · rw [if_neg c] at hb
      refine ⟨(_, _), hb, fun d hd => ?_⟩
      by_cases e : d = x
      · subst e
        rw [if_neg c]
        exact ⟨us _ _, us _ _⟩
      · show if d < T 0 0 ∧ 0 < n ∧ T 1 d = m 0 then upd s.1 x 0 d = 1 ∧ upd s.2 x _ d = nI (2 ^ d) else upd s.1 x 0 d = 0 ∧ upd s.2 x _ d = 0
        rw [un _ _ d e, un _ _ d e]
        exact hP d (by omega)) (by
    intro q s hP
    show f_X7_fit_L2b fu (f_X7_fit_L2 fu q) tw (nI n) fm s.1 NR s.2 NF (nI 7) = _
    unfold f_X7_fit_L2b
    rw [if_pos (by decide)]) 7 0 fu (R, FR) (by omega) (by omega) (fun d hd => by omega)
  exact ⟨s.1, s.2, h1, h2⟩
theorem fit7 (hO : TOk T) (h7 : TwB T tw) {fu n : Nat} {m : Nat → Nat} {R NR FR NF fm : Nat → Int32} (hf : 50 ≤ fu) (hn : n ≤ 6) (hm : ∀ k, k < n → m k < 4 ∧ fm k = nI (m k)) : ∃ R' NR' FR' NF', f_X7_fit fu tw (nI n) fm R NR FR NF = some (R', NR', FR', NF') ∧ ∀ d, d < 7 → R' d = nI (rowsN T m n d) ∧ MaskP (2 ^ 7) (FR' d) (fun i => 0 < n ∧ RowP T m (n - 1) i d) := by
  have o1 := hO.1
  obtain ⟨R0, F0, e0, h0⟩ := fit0 (R := R) (NR := NR) (FR := FR) (NF := NF) hO h7 hf hn hm
  rw [e0]
  by_cases z : n = 0
  · subst z
    obtain ⟨f, rfl⟩ : ∃ f, fu = f + 1 := ⟨fu - 1, by omega⟩
    refine ⟨R0, NR, F0, NF, ?_, fun d hd => ?_⟩
    · show f_X7_fit_L89b (f + 1) (f_X7_fit_L89 (f + 1) f) tw (nI 0) fm R0 NR F0 NF 1 = _
      unfold f_X7_fit_L89b
      rw [if_pos (by decide)]
    · have h := h0 d hd
      rw [if_neg (fun q => by omega)] at h
      rw [h.1, h.2]
      unfold rowsN
      rw [if_neg (fun q => by omega)]
      exact ⟨rfl, MaskP.zero (by decide) (fun i q => by omega)⟩
  · obtain ⟨s, h1, h2⟩ := rel_loop (fun q (s : (Nat → Int32) × (Nat → Int32) × (Nat → Int32) × (Nat → Int32)) x => f_X7_fit_L89 fu q tw (nI n) fm s.1 s.2.1 s.2.2.1 s.2.2.2 x) (fun s => some s) (fun x s => 0 < x ∧ ∀ d, d < 7 → s.1 d = nI (rowsN T m x d) ∧ MaskP (2 ^ 7) (s.2.2.1 d) (fun i => 0 < x ∧ RowP T m (x - 1) i d)) n (by
      intro q x s hx hP
      obtain ⟨k, rfl⟩ : ∃ k, x = k + 1 := ⟨x - 1, by omega⟩
      have hmx := hm (k + 1) hx
      obtain ⟨R', NR', FR', NF', e1, e2, e3⟩ := fit99 (n := n) (NR := s.2.1) (NF := s.2.2.2) (FR := s.2.2.1) (R := s.1) (k89 := f_X7_fit_L89 fu q) hO h7 hf (k := k) (by omega) hmx.1 hmx.2 (fun d hd => by
        rw [(hP.2 d (by omega)).1]
        unfold rowsN
        rw [if_pos ⟨hd, by omega⟩]
        rfl) (fun d hd => (hP.2 d (by omega)).2.congr (fun i => ⟨fun h => h.2, fun h => ⟨by omega, h⟩⟩))
      refine ⟨(R', NR', FR', NF'), ?_, by omega, fun d hd => ?_⟩
      · show f_X7_fit_L89b fu (f_X7_fit_L89 fu q) tw (nI n) fm s.1 s.2.1 s.2.2.1 s.2.2.2 (nI (k + 1)) = _
        unfold f_X7_fit_L89b
        rw [if_neg (nI_ge hx (by omega))]
        exact e1
      · show R' d = _ ∧ MaskP (2 ^ 7) (FR' d) _
        by_cases e : d < T 0 0
        · unfold rowsN
          rw [if_pos ⟨e, by omega⟩]
          exact ⟨(e2 d e).1, (e2 d e).2.congr (fun i => ⟨fun h => ⟨by omega, h⟩, fun h => h.2⟩)⟩
        · obtain ⟨a, b⟩ := e3 d (by omega)
          rw [a, b]
          obtain ⟨u1, u2⟩ := hP.2 d hd
          refine ⟨?_, u2.congr (fun i => ⟨fun h => ?_, fun h => ?_⟩)⟩
          · rw [u1]
            unfold rowsN
            rw [if_neg (fun q => e q.1), if_neg (fun q => e q.1)]
          · cases k with
            | zero => obtain ⟨_, rfl, w, _⟩ := h; exact absurd w e
            | succ k => exact absurd h.2.1 e
          · exact absurd h.2.1 e) (by
      intro q s hP
      show f_X7_fit_L89b fu (f_X7_fit_L89 fu q) tw (nI n) fm s.1 s.2.1 s.2.2.1 s.2.2.2 (nI n) = _
      unfold f_X7_fit_L89b
      rw [if_pos (nI_le (Nat.le_refl _) (by omega))]) (n - 1) 1 fu (R0, NR, F0, NF) (by omega) (by omega) ⟨by omega, fun d hd => by
        have h := h0 d hd
        show R0 d = _ ∧ MaskP (2 ^ 7) (F0 d) _
        unfold rowsN
        by_cases e : d < T 0 0
        · rw [if_pos ⟨e, by omega⟩]
          show R0 d = nI (if T 1 d = m 0 then 1 else 0) ∧ MaskP (2 ^ 7) (F0 d) (fun i => 0 < 1 ∧ i = d ∧ i < T 0 0 ∧ T 1 i = m 0)
          by_cases e2 : T 1 d = m 0
          · rw [if_pos ⟨e, by omega, e2⟩] at h
            rw [if_pos e2, h.1, h.2]
            refine ⟨rfl, 2 ^ d, p2lt (by omega), rfl, fun i => ?_⟩
            rw [Nat.testBit_two_pow]
            simp only [decide_eq_true_eq]
            exact ⟨fun q => by subst q; exact ⟨by omega, rfl, e, e2⟩, fun q => q.2.1.symm⟩
          · rw [if_neg (fun q => e2 q.2.2)] at h
            rw [if_neg e2, h.1, h.2]
            exact ⟨rfl, MaskP.zero (by decide) (fun i q => e2 (by rw [← q.2.1]; exact q.2.2.2))⟩
        · rw [if_neg (fun q => e q.1)] at h
          rw [if_neg (fun q => e q.1), h.1, h.2]
          exact ⟨rfl, MaskP.zero (by decide) (fun i q => e (by have := q.2.2.1; rw [q.2.1] at this; exact this))⟩⟩
    exact ⟨s.1, s.2.1, s.2.2.1, s.2.2.2, h1, h2.2⟩
theorem told88 (hO : TOk T) (h7 : TwB T tw) {fu c : Nat} {r : Nat → Nat} {R NR FR NF fm : Nat → Int32} {f x1 x2 x3 x4 x5 : Int32} {k31 : (Nat → Int32) → Int32 → (Nat → Int32) → (Nat → Int32) → (Nat → Int32) → (Nat → Int32) → (Nat → Int32) → Int32 → Int32 → Int32 → Int32 → Int32 → Int32 → Option R_X7_fits} (hf : 50 ≤ fu) (hc : c < T 0 0) (hr : r c < 2 ^ 31) (hR : R c = nI (r c)) (h5 : MaskP (2 ^ 4) x5 (TolM T r c)) : ∃ v, f_X7_fits_L88 fu k31 fu tw f fm R NR FR NF x1 x2 x3 x4 x5 (nI c) 0 = k31 tw f fm R NR FR NF x1 x2 x3 x4 v (nI (c + 1)) ∧ MaskP (2 ^ 4) v (TolM T r (c + 1)) := by
  have o1 := hO.1
  have q0 : ∀ {α : Type} (A : Option α), xb (0 : Int32) 64 A = A := fun A => xb_l (by decide)
  have qc : ∀ {α : Type} (A : Option α), xb (nI c) 7 A = A := fun A => xb_nI A (by omega) (by decide)
  by_cases e1 : 0 < r c
  · obtain ⟨s, h1, h2⟩ := rel_loop (fun q (s : Int32) x => f_X7_fits_L88 fu k31 q tw f fm R NR FR NF x1 x2 x3 x4 s (nI c) x) (fun s => k31 tw f fm R NR FR NF x1 x2 x3 x4 s (nI (c + 1))) (fun x s => MaskP (2 ^ 4) s (fun i => TolM T r c i ∨ ∃ b, b < x ∧ Bes T c b = true ∧ T 1 b = i)) (T 0 0) (by
      intro q x s hx hP
      have hmk := hO.2.2.2.2.2.1 x hx
      show ∃ s', f_X7_fits_L88b fu k31 (f_X7_fits_L88 fu k31 q) tw f fm R NR FR NF x1 x2 x3 x4 s (nI c) (nI x) = _ ∧ _
      unfold f_X7_fits_L88b
      rw [q0, show ((0 : Int32).toNatClampNeg) = 0 from rfl, h7.1, if_neg (nI_ge (by omega) (by omega)), qc, cl c (by omega), hR, le0 hr, if_pos e1, beside7 hO h7 (by omega) (by omega) (by omega), bnd, bi0, show (6 : Int32) + nI x = nI (6 + x) from nI_add 6 x, xb_nI _ (by omega) (by decide), cl (6 + x) (by omega), h7.2.2.2.2.2.1 x hx, or0, show nI x + 1 = nI (x + 1) from nI_add x 1]
      by_cases e2 : Bes T c x = true
      · rw [if_pos e2]
        refine ⟨_, rfl, (hP.or (MaskP.one hmk (by decide))).congr (fun i => ⟨?_, ?_⟩)⟩
        · rintro ((a | ⟨b, a1, a2, a3⟩) | a)
          · exact Or.inl a
          · exact Or.inr ⟨b, by omega, a2, a3⟩
          · exact Or.inr ⟨x, by omega, e2, a⟩
        · rintro (a | ⟨b, a1, a2, a3⟩)
          · exact Or.inl (Or.inl a)
          · by_cases q : b = x
            · rw [q] at a3
              exact Or.inr a3
            · exact Or.inl (Or.inr ⟨b, by omega, a2, a3⟩)
      · rw [if_neg e2]
        refine ⟨_, rfl, hP.congr (fun i => ⟨?_, ?_⟩)⟩
        · rintro (a | ⟨b, a1, a2⟩)
          · exact Or.inl a
          · exact Or.inr ⟨b, by omega, a2⟩
        · rintro (a | ⟨b, a1, a2⟩)
          · exact Or.inl a
          · by_cases q : b = x
            · rw [q] at a2
              exact absurd a2.1 e2
            · exact Or.inr ⟨b, by omega, a2⟩) (by
      intro q s hP
      show f_X7_fits_L88b fu k31 (f_X7_fits_L88 fu k31 q) tw f fm R NR FR NF x1 x2 x3 x4 s (nI c) (nI (T 0 0)) = _
      unfold f_X7_fits_L88b
      rw [q0, show ((0 : Int32).toNatClampNeg) = 0 from rfl, h7.1, if_pos (nI_le (Nat.le_refl _) (by omega)), show nI c + 1 = nI (c + 1) from nI_add c 1]) (T 0 0) 0 fu x5 (by omega) (by omega) (h5.congr (fun i => ⟨fun h => Or.inl h, fun h => h.resolve_right (fun ⟨b, q, _⟩ => by omega)⟩))
    refine ⟨s, h1, h2.congr (fun i => ⟨?_, ?_⟩)⟩
    · rintro (⟨d, a, b⟩ | ⟨b, a⟩)
      · exact ⟨d, by omega, b⟩
      · exact ⟨c, by omega, e1, b, a⟩
    · rintro ⟨d, a, b1, b2⟩
      by_cases q : d = c
      · rw [q] at b2
        exact Or.inr b2
      · exact Or.inl ⟨d, by omega, b1, b2⟩
  · refine ⟨x5, ?_, h5.congr (fun i => ⟨fun ⟨d, a, b⟩ => ⟨d, by omega, b⟩, fun ⟨d, a, b⟩ => ⟨d, ?_, b⟩⟩)⟩
    · obtain ⟨f', hf'⟩ : ∃ f, fu = f + 1 := ⟨fu - 1, by omega⟩
      have : f_X7_fits_L88 fu k31 fu tw f fm R NR FR NF x1 x2 x3 x4 x5 (nI c) 0 = f_X7_fits_L88b fu k31 (f_X7_fits_L88 fu k31 f') tw f fm R NR FR NF x1 x2 x3 x4 x5 (nI c) 0 := by
        conv => lhs; arg 3; rw [hf']
        rfl
      rw [this]
      unfold f_X7_fits_L88b
      rw [q0, show ((0 : Int32).toNatClampNeg) = 0 from rfl, h7.1, if_neg (by rw [show (0 : Int32) = nI 0 from rfl]; exact nI_ge (by omega) (by omega)), qc, cl c (by omega), hR, le0 hr, if_neg e1, show nI c + 1 = nI (c + 1) from nI_add c 1]
    · by_cases q : d = c
      · rw [q] at b
        exact absurd b.1 e1
      · omega
/-- what 'fits' answers of the reference -/
theorem fits31 (hO : TOk T) (h7 : TwB T tw) {n : Nat} {m : Nat → Nat} {R NR FR NF fm : Nat → Int32} {f x1 : Int32} (hn : n ≤ 6) (hR : ∀ d, d < 7 → R d = nI (rowsN T m n d) ∧ MaskP (2 ^ 7) (FR d) (fun i => 0 < n ∧ RowP T m (n - 1) i d)) : ∃ e g t, MaskP 128 e (fun i => i < T 0 0 ∧ 0 < rowsN T m n i) ∧ MaskP 128 g (fun i => ∃ c, c < T 0 0 ∧ 0 < n ∧ RowP T m (n - 1) i c) ∧ t < 16 ∧ (∀ i, (t.testBit i = true ↔ TolM T (rowsN T m n) (T 0 0) i)) ∧ f_X7_fits_L31 50 50 tw f fm R NR FR NF x1 0 0 0 0 0 = some (if x1 = 0 then nI (sumTo (rowsN T m n) (T 0 0)) else if x1 = 1 then e else if x1 = 2 then g else cntI t, R, NR, FR, NF) := by
  have o1 := hO.1
  have q0 : ∀ {α : Type} (A : Option α), xb (0 : Int32) 64 A = A := fun A => xb_l (by decide)
  obtain ⟨s, h1, h2, h3, h4, h5⟩ := rel_loop (fun q (s : Int32 × Int32 × Int32 × Int32) x => f_X7_fits_L31 50 q tw f fm R NR FR NF x1 s.1 s.2.1 s.2.2.1 s.2.2.2 x) (fun s => if x1 = 0 then some (s.1, R, NR, FR, NF) else if x1 = 1 then some (s.2.1, R, NR, FR, NF) else if x1 = 2 then some (s.2.2.1, R, NR, FR, NF) else (f_X7_many 50 s.2.2.2).bind (fun r14 => some (r14, R, NR, FR, NF))) (fun x s => s.1 = nI (sumTo (rowsN T m n) x) ∧ MaskP (2 ^ 7) s.2.1 (fun i => i < x ∧ 0 < rowsN T m n i) ∧ MaskP (2 ^ 7) s.2.2.1 (fun i => ∃ c, c < x ∧ 0 < n ∧ RowP T m (n - 1) i c) ∧ MaskP (2 ^ 4) s.2.2.2 (TolM T (rowsN T m n) x)) (T 0 0) (by
    intro q x s hx hP
    obtain ⟨p1, p2, p3, p4⟩ := hP
    obtain ⟨hRx, hFx⟩ := hR x (by omega)
    have hb := rowsN_le hO m hn x
    have qx : ∀ {α : Type} (A : Option α), xb (nI x) 7 A = A := fun A => xb_nI A (by omega) (by decide)
    have hend : ∃ e, MaskP (2 ^ 7) e (fun i => i < x + 1 ∧ 0 < rowsN T m n i) ∧ f_X7_fits_L31b 50 (f_X7_fits_L31 50 q) tw f fm R NR FR NF x1 s.1 s.2.1 s.2.2.1 s.2.2.2 (nI x) = f_X7_fits_L88 50 (f_X7_fits_L31 50 q) 50 tw f fm R NR FR NF x1 (nI (sumTo (rowsN T m n) (x + 1))) e (s.2.2.1 ||| FR x) s.2.2.2 (nI x) 0 := by
      unfold f_X7_fits_L31b f_X7_fits_J71
      rw [q0, show ((0 : Int32).toNatClampNeg) = 0 from rfl, h7.1, if_neg (nI_ge (by omega) (by omega))]
      simp only [qx, cl x (show x < 2 ^ 31 by omega)]
      rw [hRx, p1, nI_add, le0 (by omega)]
      by_cases e1 : 0 < rowsN T m n x
      · rw [if_pos e1]
        refine ⟨_, (p2.or (MaskP.one (by omega) (by decide))).congr (fun i => ⟨?_, ?_⟩), rfl⟩
        · rintro (⟨a, b⟩ | rfl)
          · exact ⟨by omega, b⟩
          · exact ⟨by omega, e1⟩
        · rintro ⟨a, b⟩
          by_cases q : x = i
          · exact Or.inr q
          · exact Or.inl ⟨by omega, b⟩
      · rw [if_neg e1, or0]
        refine ⟨_, p2.congr (fun i => ⟨fun ⟨a, b⟩ => ⟨by omega, b⟩, fun ⟨a, b⟩ => ⟨?_, b⟩⟩), rfl⟩
        by_cases q : x = i
        · rw [q] at e1
          exact absurd b e1
        · omega
    obtain ⟨e, he, heq⟩ := hend
    obtain ⟨v, hv1, hv2⟩ := told88 (fu := 50) (f := f) (fm := fm) (R := R) (NR := NR) (FR := FR) (NF := NF) (x1 := x1) (x2 := nI (sumTo (rowsN T m n) (x + 1))) (x3 := e) (x4 := s.2.2.1 ||| FR x) (k31 := f_X7_fits_L31 50 q) hO h7 (by decide) hx (by omega) hRx p4
    refine ⟨(nI (sumTo (rowsN T m n) (x + 1)), e, s.2.2.1 ||| FR x, v), heq.trans hv1, rfl, he, (p3.or hFx).congr (fun i => ⟨?_, ?_⟩), hv2⟩
    · rintro (⟨c, a, b⟩ | a)
      · exact ⟨c, by omega, b⟩
      · exact ⟨x, by omega, a⟩
    · rintro ⟨c, a, b⟩
      by_cases q : c = x
      · rw [q] at b
        exact Or.inr b
      · exact Or.inl ⟨c, by omega, b⟩) (by
    intro q s hP
    show f_X7_fits_L31b 50 (f_X7_fits_L31 50 q) tw f fm R NR FR NF x1 s.1 s.2.1 s.2.2.1 s.2.2.2 (nI (T 0 0)) = _
    unfold f_X7_fits_L31b
    rw [q0, show ((0 : Int32).toNatClampNeg) = 0 from rfl, h7.1, if_pos (nI_le (Nat.le_refl _) (by omega))]) (T 0 0) 0 50 (0, 0, 0, 0) (by omega) (by omega) ⟨rfl, MaskP.zero (by decide) (fun i h => by omega), MaskP.zero (by decide) (fun i ⟨c, h, _⟩ => by omega), MaskP.zero (by decide) (fun i ⟨c, h, _⟩ => by omega)⟩
  obtain ⟨t, ht, et, htb⟩ := h5
  refine ⟨s.2.1, s.2.2.1, t, h3, h4, ht, htb, ?_⟩
  refine h1.trans ?_
  rw [et, h2, manyE t (by omega), cntI_e, bnd]
  by_cases c0 : x1 = 0
  · simp [c0]
  · by_cases c1 : x1 = 1
    · simp [c1]
    · by_cases c2 : x1 = 2
      · simp [c2]
      · simp [c0, c1, c2]
end FITS
theorem sumTo_ext {g : Nat → Nat} : ∀ (d x : Nat), (∀ k, x ≤ k → g k = 0) → sumTo g (x + d) = sumTo g x := by
  intro d
  induction d with
  | zero => intro x _; rfl
  | succ d ih =>
    intro x h
    show sumTo g (x + d) + g (x + d) = sumTo g x
    rw [ih x h, h (x + d) (by omega)]
    rfl
theorem st_fits : St_fits Sim := by
  intro I F as J G tr x1 h
  obtain ⟨T, hO, h6, h7, ha, r1, r2, r3, r4, ⟨n, hn, e6, e7, ht⟩, r5⟩ := h
  have o1 := hO.1
  have hm' := feltN ht (by decide)
  have a2 : ∀ k, k < n → (F 26 k).toNatClampNeg < 4 ∧ F 26 k = nI (F 26 k).toNatClampNeg := fun k hk => ⟨(hm' k hk).1, (hm' k hk).2.1⟩
  have a4 : ∀ k, k < n → (F 26 k).toNatClampNeg < 4 ∧ G 12 k = nI (F 26 k).toNatClampNeg := fun k hk => ⟨(hm' k hk).1, (hm' k hk).2.2⟩
  have hmm : (fun i => if (0 : Int32) = 0 then (fun k => (F 26 k).toNatClampNeg) i else (fun k => (F 26 k).toNatClampNeg) (n - 1 - i)) = fun k => (F 26 k).toNatClampNeg := by
    funext i
    rw [if_pos rfl]
  have hmr : (fun i => if (1 : Int32) = 0 then (fun k => (F 26 k).toNatClampNeg) i else (fun k => (F 26 k).toNatClampNeg) (n - 1 - i)) = fun i => (F 26 (n - 1 - i)).toNatClampNeg := by
    funext i
    rw [if_neg (by decide)]
  by_cases hx : 0 ≤ x1.toInt ∧ x1.toInt ≤ 3
  · obtain ⟨w, hw, rfl⟩ : ∃ w : Nat, w < 4 ∧ x1 = nI w := of_in hx.1 (by omega)
    obtain ⟨R', NR', FR', NF', f1, f2⟩ := fit7 (fu := 50) (R := G 14) (NR := G 15) (FR := G 16) (NF := G 17) hO h7 (by decide) hn a4
    obtain ⟨e, g, t, he, hg, ht16, htb, q7'⟩ := fits31 (NR := NR') (NF := NF') (fm := G 12) (f := nI n) (x1 := nI w) hO h7 hn f2
    have q7 : f_X7_fits 50 (G 2) (J 7) (G 12) (G 14) (G 15) (G 16) (G 17) (nI w) = some (if nI w = 0 then nI (sumTo (rowsN T (fun k => (F 26 k).toNatClampNeg) n) (T 0 0)) else if nI w = 1 then e else if nI w = 2 then g else cntI t, R', NR', FR', NF') := by
      unfold f_X7_fits
      rw [in7n (nI w) 0 3 0 3 rfl rfl, bnd, b01i, if_pos hx, e7, f1, bnd]
      exact q7'
    obtain ⟨A, NA, c1, c2⟩ := count6 (fu := 50) (R := F 28) (NR := F 29) (x2 := 0) hO h6 (Or.inl rfl) (by decide) hn a2
    rw [hmm] at c2
    obtain ⟨v, v1, v2⟩ := ends6 hO hn (by decide : 50 ≤ 50) c2
    rcases (show w = 0 ∨ w = 1 ∨ w = 2 ∨ w = 3 by omega) with rfl | rfl | rfl | rfl
    · have q6 : f_X6_fits 50 (I 6) (I 7) (F 2) (F 3) (F 4) (I 26) (F 26) (F 28) (F 29) (nI 0) = some (nI (sumTo (rowsN T (fun k => (F 26 k).toNatClampNeg) n) 7), A, NA) := by
        unfold f_X6_fits f_X3_rowCount
        rw [if_pos (show nI 0 = 0 from rfl), e6, c1, bnd, sum6 hO (by decide) c2, bnd]
      refine ⟨50, _, 50, _, q6, q7, ?_, T, hO, h6, h7, ha, r1, r2, r3, r4, ⟨n, hn, e6, e7, ht⟩, r5⟩
      show nI (sumTo (rowsN T (fun k => (F 26 k).toNatClampNeg) n) 7) = nI (sumTo (rowsN T (fun k => (F 26 k).toNatClampNeg) n) (T 0 0))
      congr 1
      have := sumTo_ext (g := rowsN T (fun k => (F 26 k).toNatClampNeg) n) (7 - T 0 0) (T 0 0) (fun k hk => by unfold rowsN; rw [if_neg (fun q => by omega)])
      rw [show T 0 0 + (7 - T 0 0) = 7 by omega] at this
      exact this
    · have q6 : f_X6_fits 50 (I 6) (I 7) (F 2) (F 3) (F 4) (I 26) (F 26) (F 28) (F 29) (nI 1) = some (v, A, NA) := by
        unfold f_X6_fits f_X3_lastCorners
        rw [if_neg (by decide), if_pos (show nI 1 = 1 from rfl), e6, c1, bnd, v1, bnd, bnd]
      refine ⟨50, _, 50, _, q6, q7, ?_, T, hO, h6, h7, ha, r1, r2, r3, r4, ⟨n, hn, e6, e7, ht⟩, r5⟩
      refine v2.eq he (fun i => ⟨fun h => ⟨?_, h⟩, fun h => h.2⟩)
      unfold rowsN at h
      by_cases q : i < T 0 0 ∧ 0 < n
      · exact q.1
      · rw [if_neg q] at h
        exact absurd h (by decide)
    · obtain ⟨A2, NA2, d1, d2⟩ := count6 (fu := 50) (R := F 28) (NR := F 29) (x2 := 1) hO h6 (Or.inr rfl) (by decide) hn a2
      rw [hmr] at d2
      obtain ⟨v', w1, w2⟩ := ends6 hO hn (by decide : 50 ≤ 50) d2
      have q6 : f_X6_fits 50 (I 6) (I 7) (F 2) (F 3) (F 4) (I 26) (F 26) (F 28) (F 29) (nI 2) = some (v', A2, NA2) := by
        unfold f_X6_fits f_X3_firstCorners
        rw [if_neg (by decide), if_neg (by decide), if_pos (show nI 2 = 2 from rfl), e6, d1, bnd, w1, bnd, bnd]
      refine ⟨50, _, 50, _, q6, q7, ?_, T, hO, h6, h7, ha, r1, r2, r3, r4, ⟨n, hn, e6, e7, ht⟩, r5⟩
      refine w2.eq hg (fun i => ⟨fun h => ?_, fun ⟨c, hc, hn0, hr⟩ => ?_⟩)
      · unfold rowsN at h
        by_cases q : i < T 0 0 ∧ 0 < n
        · rw [if_pos q] at h
          obtain ⟨a, hra⟩ := (cntR_row hO _ (n - 1) i q.1).mp h
          have hrev := row_rev hO _ _ _ _ hra
          have ee : (fun k => (fun k => (F 26 (n - 1 - k)).toNatClampNeg) (n - 1 - k)) = fun k => (F 26 (n - 1 - (n - 1 - k))).toNatClampNeg := rfl
          have hcong : RowP T (fun k => (F 26 k).toNatClampNeg) (n - 1) i a := by
            have hgen : ∀ (k : Nat) (m1 m2 : Nat → Nat) (a e : Nat), (∀ j, j ≤ k → m1 j = m2 j) → RowP T m1 k a e → RowP T m2 k a e := by
              intro k
              induction k with
              | zero => rintro m1 m2 a e hj ⟨rfl, h1, h2⟩; exact ⟨rfl, h1, by rw [← hj 0 (by omega)]; exact h2⟩
              | succ k ih => rintro m1 m2 a e hj ⟨h1, h2, b, h3, h4, h5⟩; exact ⟨h1, by rw [← hj (k + 1) (by omega)]; exact h2, b, h3, h4, ih m1 m2 a b (fun j hjk => hj j (by omega)) h5⟩
            refine hgen _ _ _ _ _ (fun j hj => ?_) hrev
            show (F 26 (n - 1 - (n - 1 - j))).toNatClampNeg = (F 26 j).toNatClampNeg
            rw [show n - 1 - (n - 1 - j) = j by omega]
          refine ⟨a, ?_, q.2, hcong⟩
          cases hn1 : n - 1 with
          | zero => rw [hn1] at hcong; obtain ⟨rfl, h1, _⟩ := hcong; exact h1
          | succ k => rw [hn1] at hcong; exact hcong.1
        · rw [if_neg q] at h
          exact absurd h (by decide)
      · have hrev := row_rev hO _ _ _ _ hr
        have hi : i < T 0 0 := by
          cases hn1 : n - 1 with
          | zero => rw [hn1] at hrev; obtain ⟨rfl, h1, _⟩ := hrev; exact h1
          | succ k => rw [hn1] at hrev; exact hrev.1
        show 0 < rowsN T (fun i => (F 26 (n - 1 - i)).toNatClampNeg) n i
        unfold rowsN
        rw [if_pos ⟨hi, hn0⟩]
        exact (cntR_row hO _ (n - 1) i hi).mpr ⟨c, hrev⟩
    · obtain ⟨ev, hev, rfl, hevb⟩ := v2
      obtain ⟨t', ht', s1, s2⟩ := around6 (fu := 50) hO h6 (by decide) hev hevb
      have q6 : f_X6_fits 50 (I 6) (I 7) (F 2) (F 3) (F 4) (I 26) (F 26) (F 28) (F 29) (nI 3) = some (cntI t', A, NA) := by
        unfold f_X6_fits f_X3_lastCorners
        rw [if_neg (by decide), if_neg (by decide), if_neg (by decide), if_pos (show nI 3 = 3 from rfl), e6, c1, bnd, v1, bnd, bnd, s1, bnd]
      refine ⟨50, _, 50, _, q6, q7, ?_, T, hO, h6, h7, ha, r1, r2, r3, r4, ⟨n, hn, e6, e7, ht⟩, r5⟩
      show cntI t' = cntI t
      congr 1
      apply Nat.eq_of_testBit_eq
      intro i
      have := (s2 i).trans (htb i).symm
      cases h1 : t'.testBit i <;> cases h2 : t.testBit i
      · rfl
      · rw [h1, h2] at this
        exact absurd (this.mpr rfl) (by decide)
      · rw [h1, h2] at this
        exact absurd (this.mp rfl) (by decide)
      · rfl
  · have q6 : f_X6_fits 50 (I 6) (I 7) (F 2) (F 3) (F 4) (I 26) (F 26) (F 28) (F 29) x1 = some (-1, F 28, F 29) := by
      unfold f_X6_fits
      rw [if_neg (fun e => hx (by rw [e]; decide)), if_neg (fun e => hx (by rw [e]; decide)), if_neg (fun e => hx (by rw [e]; decide)), if_neg (fun e => hx (by rw [e]; decide))]
    have q7 : f_X7_fits 50 (G 2) (J 7) (G 12) (G 14) (G 15) (G 16) (G 17) x1 = some (-1, G 14, G 15, G 16, G 17) := by
      unfold f_X7_fits
      rw [in7n x1 0 3 0 3 rfl rfl, bnd, b01i, if_neg hx]
    exact ⟨50, _, 50, _, q6, q7, rfl, T, hO, h6, h7, ha, r1, r2, r3, r4, ⟨n, hn, e6, e7, ht⟩, r5⟩
