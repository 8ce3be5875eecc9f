/-! the text: streets, guides, fog -/
theorem bits5 : ∀ a, a < 32 → ∀ b, b < 16 → nI a ||| (nI b <<< ((5 : Int32) &&& 31)) = nI (a + 32 * b) := by decide +kernel
section ITEMS
variable {n : Nat} {t : Nat → Nat} {t6 t7 : Nat → Int32} {fu : Nat} {c s g f h ht : Nat} {mk ea eb ln pa fe kn hi bl rd : Nat → Int32}
theorem RdS.street (hS : RdS c s g f h ht mk ea eb ln pa fe kn hi bl rd) (hs9 : s < 9) {x y l : Nat} (hx : x < c) (hy : y < c) (hxy : x ≠ y) (hl1 : 1 ≤ l) (hl2 : l ≤ 9) {rd' : Nat → Int32} (hr : ∀ j, j ≠ 1 → j ≠ 13 + 3 * s → j ≠ 14 + 3 * s → j ≠ 15 + 3 * s → rd' j = rd j) (h1 : rd' 1 = nI (s + 1)) (h13 : rd' (13 + 3 * s) = nI x) (h14 : rd' (14 + 3 * s) = nI y) (h15 : rd' (15 + 3 * s) = nI l) : RdS c (s + 1) g f h ht mk (upd ea s (nI x)) (upd eb s (nI y)) (upd ln s (nI l)) pa fe kn hi bl rd' := by
  obtain ⟨⟨o1, o2, o3, o4, o5, o6⟩, ⟨r0, r1, r2, r3, r4, r5⟩, hm, hs, hg, hb⟩ := hS
  refine ⟨⟨o1, by omega, o3, o4, o5, o6⟩, ⟨?_, h1, ?_, ?_, ?_, ?_⟩, ?_, ?_, ?_, ?_⟩
  · rw [hr 0 (by omega) (by omega) (by omega) (by omega)]
    exact r0
  · rw [hr 2 (by omega) (by omega) (by omega) (by omega)]
    exact r2
  · rw [hr 3 (by omega) (by omega) (by omega) (by omega)]
    exact r3
  · rw [hr 4 (by omega) (by omega) (by omega) (by omega)]
    exact r4
  · rw [hr 5 (by omega) (by omega) (by omega) (by omega)]
    exact r5
  · intro k hk
    obtain ⟨m, m1, m2, m3⟩ := hm k hk
    exact ⟨m, m1, m2, (hr _ (by omega) (by omega) (by omega) (by omega)).trans m3⟩
  · intro k hk
    by_cases e : k = s
    · subst e
      exact ⟨x, y, l, hx, hy, hxy, hl1, hl2, upd_eq, upd_eq, upd_eq, h13, h14, h15⟩
    · obtain ⟨x, y, l, z1, z2, z3, z4, z5, z6, z7, z8, z9, z10, z11⟩ := hs k (by omega)
      exact ⟨x, y, l, z1, z2, z3, z4, z5, (upd_ne e).trans z6, (upd_ne e).trans z7, (upd_ne e).trans z8, (hr _ (by omega) (by omega) (by omega) (by omega)).trans z9, (hr _ (by omega) (by omega) (by omega) (by omega)).trans z10, (hr _ (by omega) (by omega) (by omega) (by omega)).trans z11⟩
  · intro k hk
    obtain ⟨a1, a2, a3, a4, z1, z2, z3, z4, z5, z6, z7, z8, z9, z10, z11, z12⟩ := hg k hk
    exact ⟨a1, a2, a3, a4, z1, z2, z3, z4, z5, z6, z7, z8, (hr _ (by omega) (by omega) (by omega) (by omega)).trans z9, (hr _ (by omega) (by omega) (by omega) (by omega)).trans z10, (hr _ (by omega) (by omega) (by omega) (by omega)).trans z11, (hr _ (by omega) (by omega) (by omega) (by omega)).trans z12⟩
  · intro k hk
    obtain ⟨m, m1, m2, m3⟩ := hb k hk
    exact ⟨m, m1, m2, (hr _ (by omega) (by omega) (by omega) (by omega)).trans m3⟩
theorem RdS.guide (hS : RdS c s g f h ht mk ea eb ln pa fe kn hi bl rd) (hg4 : g < 4) {A B U V : Nat} (hA : A ≤ 5) (hB : B ≤ 9) (hU : U < 512) (hV : V < 128) {pa' fe' kn' hi' rd' : Nat → Int32} (hr : ∀ j, j ≠ 2 → j ≠ 40 + 4 * g → j ≠ 41 + 4 * g → j ≠ 42 + 4 * g → j ≠ 43 + 4 * g → rd' j = rd j) (h2 : rd' 2 = nI (g + 1)) (h40 : rd' (40 + 4 * g) = nI A) (h41 : rd' (41 + 4 * g) = nI B) (h42 : rd' (42 + 4 * g) = nI U) (h43 : rd' (43 + 4 * g) = nI V) (p1 : pa' g = nI A) (p2 : fe' g = nI B) (p3 : kn' g = nI U) (p4 : hi' g = nI V) (w : ∀ j, j ≠ g → pa' j = pa j ∧ fe' j = fe j ∧ kn' j = kn j ∧ hi' j = hi j) : RdS c s (g + 1) f h ht mk ea eb ln pa' fe' kn' hi' bl rd' := by
  obtain ⟨⟨o1, o2, o3, o4, o5, o6⟩, ⟨r0, r1, r2, r3, r4, r5⟩, hm, hs, hg, hb⟩ := hS
  refine ⟨⟨o1, o2, by omega, o4, o5, o6⟩, ⟨?_, ?_, h2, ?_, ?_, ?_⟩, ?_, ?_, ?_, ?_⟩
  · rw [hr 0 (by omega) (by omega) (by omega) (by omega) (by omega)]
    exact r0
  · rw [hr 1 (by omega) (by omega) (by omega) (by omega) (by omega)]
    exact r1
  · rw [hr 3 (by omega) (by omega) (by omega) (by omega) (by omega)]
    exact r3
  · rw [hr 4 (by omega) (by omega) (by omega) (by omega) (by omega)]
    exact r4
  · rw [hr 5 (by omega) (by omega) (by omega) (by omega) (by omega)]
    exact r5
  · intro k hk
    obtain ⟨m, m1, m2, m3⟩ := hm k hk
    exact ⟨m, m1, m2, (hr _ (by omega) (by omega) (by omega) (by omega) (by omega)).trans m3⟩
  · intro k hk
    obtain ⟨x, y, l, z1, z2, z3, z4, z5, z6, z7, z8, z9, z10, z11⟩ := hs k hk
    exact ⟨x, y, l, z1, z2, z3, z4, z5, z6, z7, z8, (hr _ (by omega) (by omega) (by omega) (by omega) (by omega)).trans z9, (hr _ (by omega) (by omega) (by omega) (by omega) (by omega)).trans z10, (hr _ (by omega) (by omega) (by omega) (by omega) (by omega)).trans z11⟩
  · intro k hk
    by_cases e : k = g
    · subst e
      exact ⟨A, B, U, V, hA, hB, hU, hV, p1, p2, p3, p4, h40, h41, h42, h43⟩
    · obtain ⟨a1, a2, a3, a4, z1, z2, z3, z4, z5, z6, z7, z8, z9, z10, z11, z12⟩ := hg k (by omega)
      obtain ⟨w1, w2, w3, w4⟩ := w k e
      exact ⟨a1, a2, a3, a4, z1, z2, z3, z4, w1.trans z5, w2.trans z6, w3.trans z7, w4.trans z8, (hr _ (by omega) (by omega) (by omega) (by omega) (by omega)).trans z9, (hr _ (by omega) (by omega) (by omega) (by omega) (by omega)).trans z10, (hr _ (by omega) (by omega) (by omega) (by omega) (by omega)).trans z11, (hr _ (by omega) (by omega) (by omega) (by omega) (by omega)).trans z12⟩
  · intro k hk
    obtain ⟨m, m1, m2, m3⟩ := hb k hk
    exact ⟨m, m1, m2, (hr _ (by omega) (by omega) (by omega) (by omega) (by omega)).trans m3⟩
theorem RdS.bell (hS : RdS c s g f h ht mk ea eb ln pa fe kn hi bl rd) (hf8 : f < 8) {m : Nat} (hm2 : m < 2) : RdS c s g (f + 1) h ht mk ea eb ln pa fe kn hi (upd bl f (nI m)) (upd (upd rd (56 + f) (nI m)) 4 (nI (f + 1))) := by
  obtain ⟨⟨o1, o2, o3, o4, o5, o6⟩, ⟨r0, r1, r2, r3, r4, r5⟩, hm, hs, hg, hb⟩ := hS
  have hr : ∀ j, j ≠ 4 → j ≠ 56 + f → upd (upd rd (56 + f) (nI m)) 4 (nI (f + 1)) j = rd j := fun j j1 j2 => (upd_ne j1).trans (upd_ne j2)
  refine ⟨⟨o1, o2, o3, by omega, o5, o6⟩, ⟨?_, ?_, ?_, ?_, upd_eq, ?_⟩, ?_, ?_, ?_, ?_⟩
  · rw [hr 0 (by omega) (by omega)]
    exact r0
  · rw [hr 1 (by omega) (by omega)]
    exact r1
  · rw [hr 2 (by omega) (by omega)]
    exact r2
  · rw [hr 3 (by omega) (by omega)]
    exact r3
  · rw [hr 5 (by omega) (by omega)]
    exact r5
  · intro k hk
    obtain ⟨m, m1, m2, m3⟩ := hm k hk
    exact ⟨m, m1, m2, (hr _ (by omega) (by omega)).trans m3⟩
  · intro k hk
    obtain ⟨x, y, l, z1, z2, z3, z4, z5, z6, z7, z8, z9, z10, z11⟩ := hs k hk
    exact ⟨x, y, l, z1, z2, z3, z4, z5, z6, z7, z8, (hr _ (by omega) (by omega)).trans z9, (hr _ (by omega) (by omega)).trans z10, (hr _ (by omega) (by omega)).trans z11⟩
  · intro k hk
    obtain ⟨a1, a2, a3, a4, z1, z2, z3, z4, z5, z6, z7, z8, z9, z10, z11, z12⟩ := hg k hk
    exact ⟨a1, a2, a3, a4, z1, z2, z3, z4, z5, z6, z7, z8, (hr _ (by omega) (by omega)).trans z9, (hr _ (by omega) (by omega)).trans z10, (hr _ (by omega) (by omega)).trans z11, (hr _ (by omega) (by omega)).trans z12⟩
  · intro k hk
    by_cases e : k = f
    · subst e
      exact ⟨m, hm2, upd_eq, (upd_ne (by omega)).trans upd_eq⟩
    · obtain ⟨m', m1, m2, m3⟩ := hb k (by omega)
      exact ⟨m', m1, (upd_ne e).trans m2, (hr _ (by omega) (by omega)).trans m3⟩
theorem street67 (hT : Txt n t t6 t7) {p b0 : Nat} (hp : p ≤ n) (hb0 : b0 ≤ n) (hf : 201 < fu) (tk6 va6 tk7 to7 : Int32) (hS : RdS c s g f h ht mk ea eb ln pa fe kn hi bl rd) : (∃ b p6 k6 a6 v6 s' ea' eb' ln' p7 k7 v7 rd', b ≤ n ∧ f_X2_readStreet fu t6 (nI n) (nI p) tk6 (nI b0) va6 (-1) (nI c) (nI s) ea eb ln = some (p6, k6, a6, v6, nI b, s', ea', eb', ln') ∧ f_X7_readStreet fu t7 (nI n) (nI p) (nI b0) tk7 to7 rd = some (0, p7, nI b, k7, v7, rd')) ∨ (∃ q k6 a6 v6 ea' eb' ln' b7 k7 v7 rd', p < q ∧ q ≤ n ∧ f_X2_readStreet fu t6 (nI n) (nI p) tk6 (nI b0) va6 (-1) (nI c) (nI s) ea eb ln = some (nI q, k6, a6, v6, -1, nI (s + 1), ea', eb', ln') ∧ f_X7_readStreet fu t7 (nI n) (nI p) (nI b0) tk7 to7 rd = some (1, nI q, b7, k7, v7, rd') ∧ RdS c (s + 1) g f h ht mk ea' eb' ln' pa fe kn hi bl rd') := by
  have hn := hT.1
  have hS' := hS
  obtain ⟨⟨o1, o2, o3, o4, o5, o6⟩, ⟨r0, r1, r2, r3, r4, r5⟩, _⟩ := hS'
  have q0 : ∀ {α : Type} (X : Option α), xb (0 : Int32) 64 X = X := fun X => xb_l (by decide)
  have q1 : ∀ {α : Type} (X : Option α), xb (1 : Int32) 64 X = X := fun X => xb_l (by decide)
  generalize h6 : f_X2_readStreet fu t6 (nI n) (nI p) tk6 (nI b0) va6 (-1) (nI c) (nI s) ea eb ln = x6
  generalize h7 : f_X7_readStreet fu t7 (nI n) (nI p) (nI b0) tk7 to7 rd = x7
  unfold f_X2_readStreet f_X2_readStreet_J69 at h6
  unfold f_X7_readStreet at h7
  have hi0 : (13 : Int32) + 3 * nI s = nI (13 + 3 * s) := by rw [show (3 : Int32) = nI 3 from rfl, pk_mul, show (13 : Int32) = nI 13 from rfl, nI_add]
  have hi1 : nI (13 + 3 * s) + 1 = nI (14 + 3 * s) := by
    rw [show (1 : Int32) = nI 1 from rfl, nI_add]
    congr 1
    omega
  have hi2 : nI (13 + 3 * s) + 2 = nI (15 + 3 * s) := by
    rw [show (2 : Int32) = nI 2 from rfl, nI_add]
    congr 1
    omega
  have hhi : (nI c - 1).toInt = (c : Int) - 1 := pk_sub_toInt (a := c) (b := 1) (by omega) (by decide)
  simp only [q0, q1, show ((0 : Int32).toNatClampNeg) = 0 from rfl, show ((1 : Int32).toNatClampNeg) = 1 from rfl, r0, r1, hi0, hi1, hi2] at h7
  rw [show (9 : Int32) = nI 9 from rfl, ltE (by omega) (by decide)] at h6
  rw [show (9 : Int32) = nI 9 from rfl, eqE (by omega) (by decide)] at h7
  by_cases hs9 : s < 9
  · rw [if_pos hs9] at h6
    rw [if_neg (by omega)] at h7
    have q9 : ∀ {α : Type} (X : Option α), xb (nI s) 9 X = X := fun X => xb_nI X hs9 (by decide)
    have qa : ∀ {α : Type} (X : Option α), xb (nI (13 + 3 * s)) 64 X = X := fun X => xb_nI X (by omega) (by decide)
    have qb : ∀ {α : Type} (X : Option α), xb (nI (14 + 3 * s)) 64 X = X := fun X => xb_nI X (by omega) (by decide)
    have qc : ∀ {α : Type} (X : Option α), xb (nI (15 + 3 * s)) 64 X = X := fun X => xb_nI X (by omega) (by decide)
    simp only [q9, cl s (show s < 2 ^ 31 by omega), upd_eq] at h6
    simp only [qa, qb, qc, cl (13 + 3 * s) (show 13 + 3 * s < 2 ^ 31 by omega), cl (14 + 3 * s) (show 14 + 3 * s < 2 ^ 31 by omega), cl (15 + 3 * s) (show 15 + 3 * s < 2 ^ 31 by omega), upd_eq, upd_ne (show (0 : Nat) ≠ 13 + 3 * s by omega), upd_ne (show (1 : Nat) ≠ 13 + 3 * s by omega), upd_ne (show (1 : Nat) ≠ 14 + 3 * s by omega), upd_ne (show (1 : Nat) ≠ 15 + 3 * s by omega), r0, r1, show nI s + 1 = nI (s + 1) from nI_add s 1] at h7
    obtain ⟨b, hbn, ⟨v, q, v1, v2, v3, hq1, hq2, e6, e7⟩ | ⟨p6, k6, v6, p7, k7, v7, e6, e7⟩⟩ := num67 hT hp hf tk6 (nI b0) va6 (nI b0) tk7 to7 0 (nI c - 1)
    · rw [hhi] at v3
      rw [e6] at h6
      rw [e7] at h7
      simp only [bnd] at h6
      simp only [bnd, if_neg (show ¬ (1 : Int32) = 0 by decide)] at h7
      obtain ⟨b', hbn', ⟨v', q', w1, w2, w3, hq3, hq4, e6', e7'⟩ | ⟨p6, k6, v6, p7, k7, v7, e6', e7'⟩⟩ := num67 hT hq2 hf 2 (nI b) (nI v) (nI b) 2 (nI v) 0 (nI c - 1)
      · rw [hhi] at w3
        rw [e6'] at h6
        rw [e7'] at h7
        simp only [bnd, rf_t, rn_f (show b' < 2 ^ 31 by omega), rs_f (show b' < 2 ^ 31 by omega), eqE (show v' < 2 ^ 31 by omega) (show v < 2 ^ 31 by omega)] at h6
        simp only [bnd, if_neg (show ¬ (1 : Int32) = 0 by decide), eqE (show v' < 2 ^ 31 by omega) (show v < 2 ^ 31 by omega)] at h7
        by_cases ev : v' = v
        · rw [if_pos ev] at h6 h7
          exact .inl ⟨b', _, _, _, _, _, _, _, _, _, _, _, _, hbn', h6.symm, h7.symm⟩
        · rw [if_neg ev] at h6 h7
          obtain ⟨b2, hb2, ⟨l, q2, l1, l2, l3, hq5, hq6, e6'', e7''⟩ | ⟨p6, k6, v6, p7, k7, v7, e6'', e7''⟩⟩ := num67 hT hq4 hf 2 (nI b') (nI v') (nI b') 2 (nI v') 1 (nI 9)
          · have l2 : (1 : Int) ≤ l := l2
            have l3 : (l : Int) ≤ 9 := l3
            rw [e6''] at h6
            rw [e7''] at h7
            simp only [bnd] at h6
            simp only [bnd, if_neg (show ¬ (1 : Int32) = 0 by decide)] at h7
            obtain ⟨b3, hb3, ⟨q3, y6, y7, hq7, hq8, e6', e7'⟩ | ⟨p6, k6, v6, p7, k7, v7, e6', e7'⟩⟩ := stop67 hT hq6 hf 2 (nI b2) (nI l) (nI b2) 2 (nI l)
            · rw [e6'] at h6
              rw [e7'] at h7
              simp only [bnd, show nI s + 1 = nI (s + 1) from nI_add s 1] at h6
              simp only [bnd, xz_1] at h7
              refine .inr ⟨q3, _, _, _, _, _, _, _, _, _, _, by omega, hq8, h6.symm, h7.symm, hS.street hs9 (x := v) (y := v') (l := l) (by omega) (by omega) (fun q => ev q.symm) (by omega) (by omega) (fun j j1 j2 j3 j4 => ?_) upd_eq ?_ ?_ ?_⟩
              · rw [upd_ne j1, upd_ne j4, upd_ne j3, upd_ne j2]
              · rw [upd_ne (by omega), upd_ne (by omega), upd_ne (by omega), upd_eq]
              · rw [upd_ne (by omega), upd_ne (by omega), upd_eq]
              · rw [upd_ne (by omega), upd_eq]
            · rw [e6'] at h6
              rw [e7'] at h7
              simp only [bnd] at h6
              simp only [bnd, xz_0] at h7
              exact .inl ⟨b3, _, _, _, _, _, _, _, _, _, _, _, _, hb3, h6.symm, h7.symm⟩
          · rw [e6''] at h6
            rw [e7''] at h7
            simp only [bnd, rs_f (show b2 < 2 ^ 31 by omega)] at h6
            simp only [bnd, if_true] at h7
            exact .inl ⟨b2, _, _, _, _, _, _, _, _, _, _, _, _, hb2, h6.symm, h7.symm⟩
      · rw [e6'] at h6
        rw [e7'] at h7
        simp only [bnd, rf_f (show b' < 2 ^ 31 by omega), rn_f (show b' < 2 ^ 31 by omega), rs_f (show b' < 2 ^ 31 by omega), ite_self] at h6
        simp only [bnd, if_true] at h7
        exact .inl ⟨b', _, _, _, _, _, _, _, _, _, _, _, _, hbn', h6.symm, h7.symm⟩
    · rw [e6] at h6
      rw [e7] at h7
      simp only [bnd, rf_f (show b < 2 ^ 31 by omega), rn_f (show b < 2 ^ 31 by omega), rs_f (show b < 2 ^ 31 by omega), if_true] at h6
      simp only [bnd, if_true] at h7
      exact .inl ⟨b, _, _, _, _, _, _, _, _, _, _, _, _, hbn, h6.symm, h7.symm⟩
  · rw [if_neg hs9, rf_t, bnd] at h6
    rw [if_pos (by omega)] at h7
    exact .inl ⟨b0, _, _, _, _, _, _, _, _, _, _, _, _, hb0, h6.symm, h7.symm⟩
theorem guide67 (hT : Txt n t t6 t7) {p b0 : Nat} (hp : p ≤ n) (hb0 : b0 ≤ n) (hf : 201 < fu) (tk6 va6 tk7 to7 : Int32) (hS : RdS c s g f h ht mk ea eb ln pa fe kn hi bl rd) : (∃ b p6 k6 a6 v6 g' pa' fe' kn' hi' p7 k7 v7 rd', b ≤ n ∧ f_X2_readGuide fu t6 (nI n) (nI p) tk6 (nI b0) va6 (-1) (nI g) pa fe kn hi = some (p6, k6, a6, v6, nI b, g', pa', fe', kn', hi') ∧ f_X7_readGuide fu t7 (nI n) (nI p) (nI b0) tk7 to7 rd = some (0, p7, nI b, k7, v7, rd')) ∨ (∃ q k6 a6 v6 pa' fe' kn' hi' b7 k7 v7 rd', p < q ∧ q ≤ n ∧ f_X2_readGuide fu t6 (nI n) (nI p) tk6 (nI b0) va6 (-1) (nI g) pa fe kn hi = some (nI q, k6, a6, v6, -1, nI (g + 1), pa', fe', kn', hi') ∧ f_X7_readGuide fu t7 (nI n) (nI p) (nI b0) tk7 to7 rd = some (1, nI q, b7, k7, v7, rd') ∧ RdS c s (g + 1) f h ht mk ea eb ln pa' fe' kn' hi' bl rd') := by
  have hn := hT.1
  have hS' := hS
  obtain ⟨⟨o1, o2, o3, o4, o5, o6⟩, ⟨r0, r1, r2, r3, r4, r5⟩, _⟩ := hS'
  have q2 : ∀ {α : Type} (X : Option α), xb (2 : Int32) 64 X = X := fun X => xb_l (by decide)
  generalize h6 : f_X2_readGuide fu t6 (nI n) (nI p) tk6 (nI b0) va6 (-1) (nI g) pa fe kn hi = x6
  generalize h7 : f_X7_readGuide fu t7 (nI n) (nI p) (nI b0) tk7 to7 rd = x7
  unfold f_X2_readGuide at h6
  unfold f_X7_readGuide f_X7_bits at h7
  have hi0 : (40 : Int32) + 4 * nI g = nI (40 + 4 * g) := by rw [show (4 : Int32) = nI 4 from rfl, pk_mul, show (40 : Int32) = nI 40 from rfl, nI_add]
  have hi1 : nI (40 + 4 * g) + 1 = nI (41 + 4 * g) := by
    rw [show (1 : Int32) = nI 1 from rfl, nI_add]
    congr 1
    omega
  have hi2 : nI (40 + 4 * g) + 2 = nI (42 + 4 * g) := by
    rw [show (2 : Int32) = nI 2 from rfl, nI_add]
    congr 1
    omega
  have hi3 : nI (40 + 4 * g) + 3 = nI (43 + 4 * g) := by
    rw [show (3 : Int32) = nI 3 from rfl, nI_add]
    congr 1
    omega
  have n32 : ∀ a b : Nat, nI a + 32 * nI b = nI (a + 32 * b) := fun a b => by rw [show (32 : Int32) = nI 32 from rfl, pk_mul, nI_add]
  have ne1 : ¬ (1 : Int32) = 0 := by decide
  simp only [q2, show ((2 : Int32).toNatClampNeg) = 2 from rfl, r2, hi0, hi1, hi2, hi3] at h7
  rw [show (4 : Int32) = nI 4 from rfl, ltE (by omega) (by decide)] at h6
  rw [show (4 : Int32) = nI 4 from rfl, eqE (by omega) (by decide)] at h7
  by_cases hg4 : g < 4
  · rw [if_pos hg4] at h6
    rw [if_neg (by omega)] at h7
    have q4 : ∀ {α : Type} (X : Option α), xb (nI g) 4 X = X := fun X => xb_nI X hg4 (by decide)
    have qa : ∀ {α : Type} (X : Option α), xb (nI (40 + 4 * g)) 64 X = X := fun X => xb_nI X (by omega) (by decide)
    have qb : ∀ {α : Type} (X : Option α), xb (nI (41 + 4 * g)) 64 X = X := fun X => xb_nI X (by omega) (by decide)
    have qc : ∀ {α : Type} (X : Option α), xb (nI (42 + 4 * g)) 64 X = X := fun X => xb_nI X (by omega) (by decide)
    have qd : ∀ {α : Type} (X : Option α), xb (nI (43 + 4 * g)) 64 X = X := fun X => xb_nI X (by omega) (by decide)
    simp only [q4, cl g (show g < 2 ^ 31 by omega), upd_eq] at h6
    simp only [qa, qb, qc, qd, cl (40 + 4 * g) (show 40 + 4 * g < 2 ^ 31 by omega), cl (41 + 4 * g) (show 41 + 4 * g < 2 ^ 31 by omega), cl (42 + 4 * g) (show 42 + 4 * g < 2 ^ 31 by omega), cl (43 + 4 * g) (show 43 + 4 * g < 2 ^ 31 by omega), upd_eq] at h7
    obtain ⟨b1, hb1, ⟨A, z1, A1, A2, A3, y1, x1, e6, e7⟩ | ⟨p6, k6, v6, p7, k7, v7, e6, e7⟩⟩ := num67 hT hp hf tk6 (nI b0) va6 (nI b0) tk7 to7 0 5
    · rw [e6] at h6
      rw [e7] at h7
      simp only [bnd] at h6
      simp only [bnd, if_neg ne1] at h7
      obtain ⟨b2, hb2, ⟨B, z2, B1, B2, B3, y2, x2, e6, e7⟩ | ⟨p6, k6, v6, p7, k7, v7, e6, e7⟩⟩ := num67 hT x1 hf 2 (nI b1) (nI A) (nI b1) 2 (nI A) 0 9
      · rw [e6] at h6
        rw [e7] at h7
        simp only [bnd] at h6
        simp only [bnd, if_neg ne1] at h7
        obtain ⟨b3, hb3, ⟨C, z3, C1, C2, C3, y3, x3, e6, e7⟩ | ⟨p6, k6, v6, p7, k7, v7, e6, e7⟩⟩ := num67 hT x2 hf 2 (nI b2) (nI B) (nI b2) 2 (nI B) 0 31
        · rw [e6] at h6
          rw [e7] at h7
          simp only [bnd] at h6
          simp only [bnd, if_neg ne1] at h7
          obtain ⟨b4, hb4, ⟨D, z4, D1, D2, D3, y4, x4, e6, e7⟩ | ⟨p6, k6, v6, p7, k7, v7, e6, e7⟩⟩ := num67 hT x3 hf 2 (nI b3) (nI C) (nI b3) 2 (nI C) 0 15
          · rw [e6] at h6
            rw [e7] at h7
            simp only [bnd] at h6
            simp only [bnd, if_neg ne1] at h7
            obtain ⟨b5, hb5, ⟨E, z5, E1, E2, E3, y5, x5, e6, e7⟩ | ⟨p6, k6, v6, p7, k7, v7, e6, e7⟩⟩ := num67 hT x4 hf 2 (nI b4) (nI D) (nI b4) 2 (nI D) 0 31
            · rw [e6] at h6
              rw [e7] at h7
              simp only [bnd] at h6
              simp only [bnd, if_neg ne1] at h7
              obtain ⟨b6, hb6, ⟨K, z6, K1, K2, K3, y6, x6', e6, e7⟩ | ⟨p6, k6, v6, p7, k7, v7, e6, e7⟩⟩ := num67 hT x5 hf 2 (nI b5) (nI E) (nI b5) 2 (nI E) 0 3
              · have A3 : (A : Int) ≤ 5 := A3
                have B3 : (B : Int) ≤ 9 := B3
                have C3 : (C : Int) ≤ 31 := C3
                have D3 : (D : Int) ≤ 15 := D3
                have E3 : (E : Int) ≤ 31 := E3
                have K3 : (K : Int) ≤ 3 := K3
                rw [e6] at h6
                rw [e7] at h7
                simp only [bnd, bits5 C (by omega) D (by omega), bits5 E (by omega) K (by omega)] at h6
                simp only [bnd, if_neg ne1, n32, upd_ne (show (2 : Nat) ≠ 40 + 4 * g by omega), upd_ne (show (2 : Nat) ≠ 41 + 4 * g by omega), upd_ne (show (2 : Nat) ≠ 42 + 4 * g by omega), upd_ne (show (2 : Nat) ≠ 43 + 4 * g by omega), r2, show nI g + 1 = nI (g + 1) from nI_add g 1] at h7
                obtain ⟨b7, hb7, ⟨q7, w6, w7, hq7, hq8, e6', e7'⟩ | ⟨p6, k6, v6, p7, k7, v7, e6', e7'⟩⟩ := stop67 hT x6' hf 2 (nI b6) (nI K) (nI b6) 2 (nI K)
                · rw [e6'] at h6
                  rw [e7'] at h7
                  simp only [bnd, show nI g + 1 = nI (g + 1) from nI_add g 1] at h6
                  simp only [bnd, xz_1] at h7
                  refine .inr ⟨q7, _, _, _, _, _, _, _, _, _, _, _, by omega, hq8, h6.symm, h7.symm, hS.guide hg4 (A := A) (B := B) (U := C + 32 * D) (V := E + 32 * K) (by omega) (by omega) (by omega) (by omega) (fun j j1 j2 j3 j4 j5 => ?_) upd_eq ?_ ?_ ?_ ?_ upd_eq upd_eq upd_eq upd_eq (fun j hj => ?_)⟩
                  · rw [upd_ne j1, upd_ne j5, upd_ne j5, upd_ne j4, upd_ne j4, upd_ne j3, upd_ne j2]
                  · rw [upd_ne (by omega), upd_ne (by omega), upd_ne (by omega), upd_ne (by omega), upd_ne (by omega), upd_ne (by omega), upd_eq]
                  · rw [upd_ne (by omega), upd_ne (by omega), upd_ne (by omega), upd_ne (by omega), upd_ne (by omega), upd_eq]
                  · rw [upd_ne (by omega), upd_ne (by omega), upd_ne (by omega), upd_eq]
                  · rw [upd_ne (by omega), upd_eq]
                  · exact ⟨upd_ne hj, upd_ne hj, (upd_ne hj).trans (upd_ne hj), (upd_ne hj).trans (upd_ne hj)⟩
                · rw [e6'] at h6
                  rw [e7'] at h7
                  simp only [bnd] at h6
                  simp only [bnd, xz_0] at h7
                  exact .inl ⟨b7, _, _, _, _, _, _, _, _, _, _, _, _, _, hb7, h6.symm, h7.symm⟩
              · rw [e6] at h6
                rw [e7] at h7
                simp only [bnd, rn_f (show b6 < 2 ^ 31 by omega), rs_f (show b6 < 2 ^ 31 by omega)] at h6
                simp only [bnd, if_true] at h7
                exact .inl ⟨b6, _, _, _, _, _, _, _, _, _, _, _, _, _, hb6, h6.symm, h7.symm⟩
            · rw [e6] at h6
              rw [e7] at h7
              simp only [bnd, rn_f (show b5 < 2 ^ 31 by omega), rs_f (show b5 < 2 ^ 31 by omega)] at h6
              simp only [bnd, if_true] at h7
              exact .inl ⟨b5, _, _, _, _, _, _, _, _, _, _, _, _, _, hb5, h6.symm, h7.symm⟩
          · rw [e6] at h6
            rw [e7] at h7
            simp only [bnd, rn_f (show b4 < 2 ^ 31 by omega), rs_f (show b4 < 2 ^ 31 by omega)] at h6
            simp only [bnd, if_true] at h7
            exact .inl ⟨b4, _, _, _, _, _, _, _, _, _, _, _, _, _, hb4, h6.symm, h7.symm⟩
        · rw [e6] at h6
          rw [e7] at h7
          simp only [bnd, rn_f (show b3 < 2 ^ 31 by omega), rs_f (show b3 < 2 ^ 31 by omega)] at h6
          simp only [bnd, if_true] at h7
          exact .inl ⟨b3, _, _, _, _, _, _, _, _, _, _, _, _, _, hb3, h6.symm, h7.symm⟩
      · rw [e6] at h6
        rw [e7] at h7
        simp only [bnd, rn_f (show b2 < 2 ^ 31 by omega), rs_f (show b2 < 2 ^ 31 by omega)] at h6
        simp only [bnd, if_true] at h7
        exact .inl ⟨b2, _, _, _, _, _, _, _, _, _, _, _, _, _, hb2, h6.symm, h7.symm⟩
    · rw [e6] at h6
      rw [e7] at h7
      simp only [bnd, rn_f (show b1 < 2 ^ 31 by omega), rs_f (show b1 < 2 ^ 31 by omega)] at h6
      simp only [bnd, if_true] at h7
      exact .inl ⟨b1, _, _, _, _, _, _, _, _, _, _, _, _, _, hb1, h6.symm, h7.symm⟩
  · rw [if_neg hg4, rf_t, bnd] at h6
    rw [if_pos (by omega)] at h7
    exact .inl ⟨b0, _, _, _, _, _, _, _, _, _, _, _, _, _, hb0, h6.symm, h7.symm⟩
end ITEMS
