/-! the text: fog, and which item -/
section ITEMS
variable {n : Nat} {t : Nat → Nat} {t6 t7 : Nat → Int32} {fu : Nat} {c s g f h ht : Nat} {mk ea eb ln pa fe kn hi bl rd : Nat → Int32}
theorem fog26 (hT : Txt n t t6 t7) (hf : 201 < fu) {x : Int32} : ∀ (j k p m m' : Nat) (bl rd : Nat → Int32) (tk6 tA6 va6 be7 tk7 to7 : Int32), k + j = 8 → p ≤ n → j < m → j < m' → RdS c s g k h ht mk ea eb ln pa fe kn hi bl rd → (∃ b p6 k6 a6 v6 f' bl' p7 k7 v7 rd', b ≤ n ∧ f_X2_readFog_L26 fu m t6 (nI n) (nI p) tk6 tA6 va6 (-1) x bl (nI k) = some (p6, k6, a6, v6, nI b, f', bl') ∧ (f_X7_reads fu t7 (nI n) (nI p) be7 tk7 to7).bind (fun r10 => f_X7_readFog_L20 fu m' t7 (nI n) r10.1 r10.2.1 r10.2.2.1 r10.2.2.2 rd) = some (0, p7, nI b, k7, v7, rd')) ∨ (∃ q k6 a6 v6 f' bl' b7 k7 v7 rd', p < q ∧ q ≤ n ∧ f_X2_readFog_L26 fu m t6 (nI n) (nI p) tk6 tA6 va6 (-1) x bl (nI k) = some (nI q, k6, a6, v6, -1, nI f', bl') ∧ (f_X7_reads fu t7 (nI n) (nI p) be7 tk7 to7).bind (fun r10 => f_X7_readFog_L20 fu m' t7 (nI n) r10.1 r10.2.1 r10.2.2.1 r10.2.2.2 rd) = some (1, nI q, b7, k7, v7, rd') ∧ RdS c s g f' h ht mk ea eb ln pa fe kn hi bl' rd') := by
  have hn := hT.1
  intro j
  induction j with
  | zero =>
    intro k p m m' bl rd tk6 tA6 va6 be7 tk7 to7 hk hp hm hm' hS
    obtain ⟨m, rfl⟩ : ∃ i, m = i + 1 := ⟨m - 1, by omega⟩
    obtain ⟨m', rfl⟩ : ∃ i, m' = i + 1 := ⟨m' - 1, by omega⟩
    obtain rfl : k = 8 := by omega
    have r4 := hS.2.1.2.2.2.2.1
    obtain ⟨b, p6, k6, v6, p7, k7, v7, hb1, hb2, e6, e7, hk⟩ := tok67 hT hp hf tk6 tA6 va6 be7 tk7 to7
    have h6 : f_X2_readFog_L26 fu (m + 1) t6 (nI n) (nI p) tk6 tA6 va6 (-1) x bl (nI 8) = if k6 = 3 then some (p6, k6, nI b, v6, -1, nI 8, bl) else some (p6, k6, nI b, v6, nI b, nI 8, bl) := by
      show f_X2_readFog_L26b fu (f_X2_readFog_L26 fu m) t6 (nI n) (nI p) tk6 tA6 va6 (-1) x bl (nI 8) = _
      unfold f_X2_readFog_L26b f_X2_readFog_J77
      rw [if_pos rfl, if_neg (show ¬ (8 : Int32) < nI 8 by decide), e6]
      simp only [bnd, rf_t, if_pos (show nI 8 = (8 : Int32) from rfl), ite_self]
    have h7 : (f_X7_reads fu t7 (nI n) (nI p) be7 tk7 to7).bind (fun r10 => f_X7_readFog_L20 fu (m' + 1) t7 (nI n) r10.1 r10.2.1 r10.2.2.1 r10.2.2.2 rd) = if k7 = 3 then some (1, p7, nI b, k7, v7, rd) else some (0, p7, nI b, k7, v7, rd) := by
      rw [e7, bnd]
      show f_X7_readFog_L20b fu (f_X7_readFog_L20 fu m') t7 (nI n) p7 (nI b) k7 v7 rd = _
      unfold f_X7_readFog_L20b
      rw [xb_l (show ¬ ((4 : Int32) < 0 ∨ 64 ≤ (4 : Int32).toNatClampNeg) by decide), show ((4 : Int32).toNatClampNeg) = 4 from rfl, r4, if_pos (show nI 8 = (8 : Int32) from rfl)]
      by_cases c2 : k7 = 2
      · rw [if_pos c2, if_neg (by rw [c2]; decide)]
      · rw [if_neg c2]
    have bad : ¬ k6 = 3 → ¬ k7 = 3 → ∃ b p6 k6 a6 v6 f' bl' p7 k7 v7 rd', b ≤ n ∧ f_X2_readFog_L26 fu (m + 1) t6 (nI n) (nI p) tk6 tA6 va6 (-1) x bl (nI 8) = some (p6, k6, a6, v6, nI b, f', bl') ∧ (f_X7_reads fu t7 (nI n) (nI p) be7 tk7 to7).bind (fun r10 => f_X7_readFog_L20 fu (m' + 1) t7 (nI n) r10.1 r10.2.1 r10.2.2.1 r10.2.2.2 rd) = some (0, p7, nI b, k7, v7, rd') := by
      intro z1 z2
      rw [if_neg z1] at h6
      rw [if_neg z2] at h7
      exact ⟨b, _, _, _, _, _, _, _, _, _, _, hb2, h6, h7⟩
    rcases hk with ⟨z1, z2⟩ | ⟨hbn, ⟨q, h1, h2, h3, h4, ⟨z1, z2, _⟩ | ⟨z1, z2⟩ | ⟨z1, z2, _⟩⟩ | ⟨z2, z1⟩⟩
    · exact .inl (bad (by rw [z1]; decide) (by rw [z2]; decide))
    · exact .inl (bad (by rw [z1]; decide) (by rw [z2]; decide))
    · rw [z1, if_pos rfl, h3] at h6
      rw [z2, if_pos rfl, h4] at h7
      exact .inr ⟨q, _, _, _, 8, _, _, _, _, _, by omega, h2, h6, h7, hS⟩
    · exact .inl (bad (by rw [z1]; decide) (by rw [z2]; decide))
    · refine .inl (bad ?_ (by rw [z2]; decide))
      rcases z1 with z1 | z1
      · rw [z1]
        decide
      · rw [z1.1]
        decide
  | succ j ih =>
    intro k p m m' bl rd tk6 tA6 va6 be7 tk7 to7 hk hp hm hm' hS
    obtain ⟨m, rfl⟩ : ∃ i, m = i + 1 := ⟨m - 1, by omega⟩
    obtain ⟨m', rfl⟩ : ∃ i, m' = i + 1 := ⟨m' - 1, by omega⟩
    have r4 := hS.2.1.2.2.2.2.1
    have q4 : ∀ {α : Type} (X : Option α), xb (4 : Int32) 64 X = X := fun X => xb_l (by decide)
    obtain ⟨b, p6, k6, v6, p7, k7, v7, hb1, hb2, e6, e7, htk⟩ := tok67 hT hp hf tk6 tA6 va6 be7 tk7 to7
    have h6 : f_X2_readFog_L26 fu (m + 1) t6 (nI n) (nI p) tk6 tA6 va6 (-1) x bl (nI k) = if k6 = 3 then some (p6, k6, nI b, v6, -1, nI k, bl) else (if k6 = 2 then (if 1 < v6 then some (p6, k6, nI b, v6, nI b, nI k, bl) else f_X2_readFog_L26 fu m t6 (nI n) p6 k6 (nI b) v6 (-1) x (upd bl k v6) (nI (k + 1))) else some (p6, k6, nI b, v6, nI b, nI k, bl)) := by
      show f_X2_readFog_L26b fu (f_X2_readFog_L26 fu m) t6 (nI n) (nI p) tk6 tA6 va6 (-1) x bl (nI k) = _
      unfold f_X2_readFog_L26b f_X2_readFog_J77
      rw [if_pos rfl, show (8 : Int32) = nI 8 from rfl, if_neg (nI_nlt (by omega) (by decide)), e6]
      simp only [bnd, rf_t, eqE (show k < 2 ^ 31 by omega) (show 8 < 2 ^ 31 by decide), if_neg (show ¬ k = 8 by omega), xb_nI _ (show k < 8 by omega) (show 8 < 2 ^ 31 by decide), cl k (show k < 2 ^ 31 by omega), show nI k + 1 = nI (k + 1) from nI_add k 1]
    have h7 : (f_X7_reads fu t7 (nI n) (nI p) be7 tk7 to7).bind (fun r10 => f_X7_readFog_L20 fu (m' + 1) t7 (nI n) r10.1 r10.2.1 r10.2.2.1 r10.2.2.2 rd) = if k7 = 2 then (if v7 ≤ 1 then (f_X7_reads fu t7 (nI n) p7 (nI b) k7 v7).bind (fun r10 => f_X7_readFog_L20 fu m' t7 (nI n) r10.1 r10.2.1 r10.2.2.1 r10.2.2.2 (upd (upd rd (56 + k) v7) 4 (nI (k + 1)))) else some (0, p7, nI b, k7, v7, rd)) else (if k7 = 3 then some (1, p7, nI b, k7, v7, rd) else some (0, p7, nI b, k7, v7, rd)) := by
      rw [e7, bnd]
      show f_X7_readFog_L20b fu (f_X7_readFog_L20 fu m') t7 (nI n) p7 (nI b) k7 v7 rd = _
      unfold f_X7_readFog_L20b
      simp only [q4, show ((4 : Int32).toNatClampNeg) = 4 from rfl, r4, show (8 : Int32) = nI 8 from rfl, eqE (show k < 2 ^ 31 by omega) (show 8 < 2 ^ 31 by decide), if_neg (show ¬ k = 8 by omega), show (56 : Int32) + nI k = nI (56 + k) from by rw [show (56 : Int32) = nI 56 from rfl, nI_add], xb_nI _ (show 56 + k < 64 by omega) (show 64 < 2 ^ 31 by decide), cl (56 + k) (show 56 + k < 2 ^ 31 by omega), upd_ne (show (4 : Nat) ≠ 56 + k by omega), show nI k + 1 = nI (k + 1) from nI_add k 1]
    have bad : ¬ k6 = 3 → ¬ k7 = 3 → ¬ k6 = 2 → ¬ k7 = 2 → ∃ b p6 k6 a6 v6 f' bl' p7 k7 v7 rd', b ≤ n ∧ f_X2_readFog_L26 fu (m + 1) t6 (nI n) (nI p) tk6 tA6 va6 (-1) x bl (nI k) = some (p6, k6, a6, v6, nI b, f', bl') ∧ (f_X7_reads fu t7 (nI n) (nI p) be7 tk7 to7).bind (fun r10 => f_X7_readFog_L20 fu (m' + 1) t7 (nI n) r10.1 r10.2.1 r10.2.2.1 r10.2.2.2 rd) = some (0, p7, nI b, k7, v7, rd') := by
      intro z1 z2 z3 z4
      rw [if_neg z1, if_neg z3] at h6
      rw [if_neg z4, if_neg z2] at h7
      exact ⟨b, _, _, _, _, _, _, _, _, _, _, hb2, h6, h7⟩
    rcases htk with ⟨z1, z2⟩ | ⟨hbn, ⟨q, h1, h2, h3, h4, ⟨z1, z2, _⟩ | ⟨z1, z2⟩ | ⟨z1, z2, v, z3, z4, z5⟩⟩ | ⟨z2, z1⟩⟩
    · exact .inl (bad (by rw [z1]; decide) (by rw [z2]; decide) (by rw [z1]; decide) (by rw [z2]; decide))
    · exact .inl (bad (by rw [z1]; decide) (by rw [z2]; decide) (by rw [z1]; decide) (by rw [z2]; decide))
    · rw [z1, if_pos rfl, h3] at h6
      rw [z2, if_neg (by decide), if_pos rfl, h4] at h7
      exact .inr ⟨q, _, _, _, k, _, _, _, _, _, by omega, h2, h6, h7, hS⟩
    · rw [z1, if_neg (by decide), if_pos rfl, h3, z4, show (1 : Int32) = nI 1 from rfl, ltE (by decide) (by omega)] at h6
      rw [z2, if_pos rfl, h4, z5, show (1 : Int32) = nI 1 from rfl, leE (by omega) (by decide)] at h7
      by_cases hv : v ≤ 1
      · rw [if_neg (by omega)] at h6
        rw [if_pos hv] at h7
        have hS' := hS.bell (by omega) (show v < 2 by omega)
        rcases ih (k + 1) q m m' (upd bl k (nI v)) (upd (upd rd (56 + k) (nI v)) 4 (nI (k + 1))) 2 (nI b) (nI v) (nI b) 2 (nI v) (by omega) h2 (by omega) (by omega) hS' with ⟨b', p6', k6', a6', v6', f', bl', p7', k7', v7', rd', w1, w2, w3⟩ | ⟨q', k6', a6', v6', f', bl', b7', k7', v7', rd', w1, w2, w3, w4, w5⟩
        · exact .inl ⟨b', _, _, _, _, _, _, _, _, _, _, w1, h6.trans w2, h7.trans w3⟩
        · exact .inr ⟨q', _, _, _, _, _, _, _, _, _, by omega, w2, h6.trans w3, h7.trans w4, w5⟩
      · rw [if_pos (by omega)] at h6
        rw [if_neg hv] at h7
        exact .inl ⟨b, _, _, _, _, _, _, _, _, _, _, hb2, h6, h7⟩
    · have w3 : ¬ k6 = 3 := by
        rcases z1 with z1 | z1
        · rw [z1]
          decide
        · rw [z1.1]
          decide
      have w2 : ¬ k6 = 2 := by
        rcases z1 with z1 | z1
        · rw [z1]
          decide
        · rw [z1.1]
          decide
      exact .inl (bad w3 (by rw [z2]; decide) w2 (by rw [z2]; decide))
theorem fog67 (hT : Txt n t t6 t7) {p b0 : Nat} (hp : p ≤ n) (hb0 : b0 ≤ n) (hf : 201 < fu) (tk6 va6 tk7 to7 : Int32) (hS : RdS c s g f h ht mk ea eb ln pa fe kn hi bl rd) : (∃ b p6 k6 a6 v6 f' bl' p7 k7 v7 rd', b ≤ n ∧ f_X2_readFog fu t6 (nI n) (nI p) tk6 (nI b0) va6 (-1) (nI f) bl = some (p6, k6, a6, v6, nI b, f', bl') ∧ f_X7_readFog fu t7 (nI n) (nI p) (nI b0) tk7 to7 rd = some (0, p7, nI b, k7, v7, rd')) ∨ (∃ q k6 a6 v6 f' bl' b7 k7 v7 rd', p < q ∧ q ≤ n ∧ f_X2_readFog fu t6 (nI n) (nI p) tk6 (nI b0) va6 (-1) (nI f) bl = some (nI q, k6, a6, v6, -1, nI f', bl') ∧ f_X7_readFog fu t7 (nI n) (nI p) (nI b0) tk7 to7 rd = some (1, nI q, b7, k7, v7, rd') ∧ RdS c s g f' h ht mk ea eb ln pa fe kn hi bl' rd') := by
  have hn := hT.1
  have hS' := hS
  obtain ⟨⟨o1, o2, o3, o4, o5, o6⟩, ⟨r0, r1, r2, r3, r4, r5⟩, _⟩ := hS'
  have q4 : ∀ {α : Type} (X : Option α), xb (4 : Int32) 64 X = X := fun X => xb_l (by decide)
  have q8 : ∀ {α : Type} (X : Option α), xb (0 : Int32) 8 X = X := fun X => xb_l (by decide)
  generalize h6 : f_X2_readFog fu t6 (nI n) (nI p) tk6 (nI b0) va6 (-1) (nI f) bl = x6
  generalize h7 : f_X7_readFog fu t7 (nI n) (nI p) (nI b0) tk7 to7 rd = x7
  unfold f_X2_readFog at h6
  unfold f_X7_readFog at h7
  simp only [q8, show ((0 : Int32).toNatClampNeg) = 0 from rfl] at h6
  simp only [q4, show ((4 : Int32).toNatClampNeg) = 4 from rfl, r4] at h7
  obtain ⟨fu1, rfl⟩ : ∃ j, fu = j + 1 := ⟨fu - 1, by omega⟩
  by_cases hf0 : f = 0
  · subst hf0
    rw [if_pos (show nI 0 ≤ (0 : Int32) by decide)] at h6
    rw [if_neg (show ¬ (0 : Int32) < nI 0 by decide)] at h7
    obtain ⟨b, hbn, ⟨v, q, v1, v2, v3, hq1, hq2, e6, e7⟩ | ⟨p6, k6, v6, p7, k7, v7, e6, e7⟩⟩ := num67 hT hp hf tk6 (nI b0) va6 (nI b0) tk7 to7 0 1
    · have v3 : (v : Int) ≤ 1 := v3
      rw [e6] at h6
      rw [e7] at h7
      simp only [bnd] at h6
      simp only [bnd, if_neg (show ¬ (1 : Int32) = 0 by decide)] at h7
      have s7 : f_X7_readFog_L20 (fu1 + 1) (fu1 + 1) t7 (nI n) (nI q) (nI b) 2 (nI v) rd = (f_X7_reads (fu1 + 1) t7 (nI n) (nI q) (nI b) 2 (nI v)).bind (fun r10 => f_X7_readFog_L20 (fu1 + 1) fu1 t7 (nI n) r10.1 r10.2.1 r10.2.2.1 r10.2.2.2 (upd (upd rd (56 + 0) (nI v)) 4 (nI (0 + 1)))) := by
        show f_X7_readFog_L20b (fu1 + 1) (f_X7_readFog_L20 (fu1 + 1) fu1) t7 (nI n) (nI q) (nI b) 2 (nI v) rd = _
        unfold f_X7_readFog_L20b
        simp only [q4, show ((4 : Int32).toNatClampNeg) = 4 from rfl, r4, if_true, if_neg (show ¬ nI 0 = (8 : Int32) by decide), show (56 : Int32) + nI 0 = nI (56 + 0) from by rw [show (56 : Int32) = nI 56 from rfl, nI_add], xb_nI _ (show 56 + 0 < 64 by omega) (show 64 < 2 ^ 31 by decide), cl (56 + 0) (show 56 + 0 < 2 ^ 31 by omega), upd_ne (show (4 : Nat) ≠ 56 + 0 by omega), show nI 0 + 1 = nI (0 + 1) from nI_add 0 1]
        rw [show (1 : Int32) = nI 1 from rfl, if_pos (nI_le (by omega) (by decide))]
      rw [s7] at h7
      have hS' := hS.bell (by omega) (show v < 2 by omega)
      rcases fog26 hT hf (x := nI 0) 7 1 q (fu1 + 1) fu1 (upd bl 0 (nI v)) (upd (upd rd (56 + 0) (nI v)) 4 (nI (0 + 1))) 2 (nI b) (nI v) (nI b) 2 (nI v) (by decide) hq2 (by omega) (by omega) hS' with ⟨b', p6', k6', a6', v6', f', bl', p7', k7', v7', rd', w1, w2, w3⟩ | ⟨q', k6', a6', v6', f', bl', b7', k7', v7', rd', w1, w2, w3, w4, w5⟩
      · exact .inl ⟨b', _, _, _, _, _, _, _, _, _, _, w1, h6.symm.trans w2, h7.symm.trans w3⟩
      · exact .inr ⟨q', _, _, _, _, _, _, _, _, _, by omega, w2, h6.symm.trans w3, h7.symm.trans w4, w5⟩
    · rw [e6] at h6
      rw [e7] at h7
      simp only [bnd] at h6
      simp only [bnd, if_true] at h7
      have s6 : ∀ (xx : Int32) (B : Nat → Int32), f_X2_readFog_L26 (fu1 + 1) (fu1 + 1) t6 (nI n) p6 k6 (nI b) v6 (nI b) xx B 1 = some (p6, k6, nI b, v6, nI b, 1, B) := by
        intro xx B
        show f_X2_readFog_L26b (fu1 + 1) (f_X2_readFog_L26 (fu1 + 1) fu1) t6 (nI n) p6 k6 (nI b) v6 (nI b) xx B 1 = _
        unfold f_X2_readFog_L26b
        rw [if_neg (neg1 (by omega))]
      rw [s6] at h6
      exact .inl ⟨b, _, _, _, _, _, _, _, _, _, _, hbn, h6.symm, h7.symm⟩
  · rw [if_neg (show ¬ nI f ≤ (0 : Int32) from by rw [show (0 : Int32) = nI 0 from rfl]; exact nI_ge (by omega) (by omega)), rf_t, bnd] at h6
    rw [if_pos (show (0 : Int32) < nI f from by rw [show (0 : Int32) = nI 0 from rfl]; exact nI_lt (by omega) (by omega))] at h7
    exact .inl ⟨b0, _, _, _, _, _, _, _, _, _, _, hb0, h6.symm, h7.symm⟩
theorem item67 (hT : Txt n t t6 t7) {b : Nat} {p6 k6 v6 p7 k7 v7 : Int32} (hf : 201 < fu) (hbn : b < n) (hk : (∃ q, b < q ∧ q ≤ n ∧ p6 = nI q ∧ p7 = nI q ∧ ((k6 = 1 ∧ k7 = 1 ∧ v6 = v7 ∧ Ltr v7) ∨ (k6 = 3 ∧ k7 = 3) ∨ (k6 = 2 ∧ k7 = 2 ∧ ∃ v, v ≤ 99 ∧ v6 = nI v ∧ v7 = nI v))) ∨ (k7 = 4 ∧ (k6 = 4 ∨ (k6 = 1 ∧ ¬ Ltr v6)))) (hS : RdS c s g f h ht mk ea eb ln pa fe kn hi bl rd) : (∃ b' r6 p7' k v rd', b' ≤ n ∧ f_X2_readItem fu t6 (nI n) p6 k6 (nI b) v6 (-1) (nI c) (nI s) (nI g) (nI f) (nI h) (nI ht) mk ea eb ln pa fe kn hi bl = some r6 ∧ r6.2.2.2.2.1 = nI b' ∧ f_X7_readItem fu t7 (nI n) p7 (nI b) k7 v7 rd = some (0, p7', nI b', k, v, rd')) ∨ (∃ q k' a' v' c' s' g' f' h' ht' mk' ea' eb' ln' pa' fe' kn' hi' bl' b7 k7' v7' rd', b < q ∧ q ≤ n ∧ f_X2_readItem fu t6 (nI n) p6 k6 (nI b) v6 (-1) (nI c) (nI s) (nI g) (nI f) (nI h) (nI ht) mk ea eb ln pa fe kn hi bl = some (nI q, k', a', v', -1, nI c', nI s', nI g', nI f', nI h', nI ht', mk', ea', eb', ln', pa', fe', kn', hi', bl') ∧ f_X7_readItem fu t7 (nI n) p7 (nI b) k7 v7 rd = some (1, nI q, b7, k7', v7', rd') ∧ RdS c' s' g' f' h' ht' mk' ea' eb' ln' pa' fe' kn' hi' bl' rd') := by
  have hn := hT.1
  have ref : (¬ k6 = 1 ∨ ¬ Ltr v6) → ∃ r6, f_X2_readItem fu t6 (nI n) p6 k6 (nI b) v6 (-1) (nI c) (nI s) (nI g) (nI f) (nI h) (nI ht) mk ea eb ln pa fe kn hi bl = some r6 ∧ r6.2.2.2.2.1 = nI b := by
    intro hr
    unfold f_X2_readItem f_X2_readItem_J16
    by_cases c1 : k6 = 1
    · rw [if_pos c1]
      have hl := hr.resolve_left (fun q => q c1)
      rw [if_neg (fun q => hl (.inl q)), if_neg (fun q => hl (.inr (.inl q))), if_neg (fun q => hl (.inr (.inr (.inl q)))), if_neg (fun q => hl (.inr (.inr (.inr (.inl q))))), if_neg (fun q => hl (.inr (.inr (.inr (.inr q))))), rf_t, bnd]
      exact ⟨_, rfl, rfl⟩
    · rw [if_neg c1, if_neg (by decide), if_neg (by decide), if_neg (by decide), if_neg (by decide), if_neg (by decide), rf_t, bnd]
      exact ⟨_, rfl, rfl⟩
  have ref7 : ¬ k7 = 1 → f_X7_readItem fu t7 (nI n) p7 (nI b) k7 v7 rd = some (0, p7, nI b, k7, v7, rd) := by
    intro h1
    unfold f_X7_readItem
    rw [if_neg h1]
  have bad : (¬ k6 = 1 ∨ ¬ Ltr v6) → ¬ k7 = 1 → ∃ b' r6 p7' k v rd', b' ≤ n ∧ f_X2_readItem fu t6 (nI n) p6 k6 (nI b) v6 (-1) (nI c) (nI s) (nI g) (nI f) (nI h) (nI ht) mk ea eb ln pa fe kn hi bl = some r6 ∧ r6.2.2.2.2.1 = nI b' ∧ f_X7_readItem fu t7 (nI n) p7 (nI b) k7 v7 rd = some (0, p7', nI b', k, v, rd') := by
    intro h1 h2
    obtain ⟨r6, q1, q2⟩ := ref h1
    exact ⟨b, r6, _, _, _, _, by omega, q1, q2, ref7 h2⟩
  rcases hk with ⟨q, h1, h2, h3, h4, ⟨z1, z2, z3, z4⟩ | ⟨z1, z2⟩ | ⟨z1, z2, _⟩⟩ | ⟨z2, z1⟩
  · subst z1 z2 z3 h3 h4
    clear ref ref7 bad
    unfold Ltr at z4
    rcases z4 with z4 | z4 | z4 | z4 | z4
    · subst z4
      generalize h6 : f_X2_readItem fu t6 (nI n) (nI q) 1 (nI b) 99 (-1) (nI c) (nI s) (nI g) (nI f) (nI h) (nI ht) mk ea eb ln pa fe kn hi bl = x6
      unfold f_X2_readItem f_X2_readItem_J16 at h6
      rw [if_pos rfl, if_pos rfl] at h6
      generalize h7 : f_X7_readItem fu t7 (nI n) (nI q) (nI b) 1 99 rd = x7
      unfold f_X7_readItem at h7
      rw [if_pos rfl, if_pos rfl] at h7
      rcases corner67 hT h2 (show b ≤ n by omega) hf 1 99 1 99 hS with ⟨b', a1, a2, a3, a4, a5, a6, a7, a8, a9, a10, w1, w2, w3⟩ | ⟨q', a1, a2, a3, a4, a5, a6, a7, a8, w0, w1, w2, w3, w4⟩
      · rw [w2] at h6
        simp only [bnd] at h6
        rw [w3] at h7
        simp only [bnd, xz_0] at h7
        exact .inl ⟨b', _, _, _, _, _, w1, h6.symm, rfl, h7.symm⟩
      · rw [w2] at h6
        simp only [bnd] at h6
        rw [w3] at h7
        simp only [bnd, xz_1] at h7
        exact .inr ⟨q', _, _, _, _, _, _, _, _, _, _, _, _, _, _, _, _, _, _, _, _, _, _, by omega, w1, h6.symm, h7.symm, w4⟩
    · subst z4
      generalize h6 : f_X2_readItem fu t6 (nI n) (nI q) 1 (nI b) 102 (-1) (nI c) (nI s) (nI g) (nI f) (nI h) (nI ht) mk ea eb ln pa fe kn hi bl = x6
      unfold f_X2_readItem f_X2_readItem_J16 at h6
      rw [if_pos rfl, if_neg (by decide), if_pos rfl] at h6
      generalize h7 : f_X7_readItem fu t7 (nI n) (nI q) (nI b) 1 102 rd = x7
      unfold f_X7_readItem at h7
      rw [if_pos rfl, if_neg (by decide), if_pos rfl] at h7
      rcases fog67 hT h2 (show b ≤ n by omega) hf 1 102 1 102 hS with ⟨b', a1, a2, a3, a4, a5, a6, a7, a8, a9, a10, w1, w2, w3⟩ | ⟨q', a1, a2, a3, a4, a5, a6, a7, a8, a9, w0, w1, w2, w3, w4⟩
      · rw [w2] at h6
        simp only [bnd] at h6
        rw [w3] at h7
        simp only [bnd, xz_0] at h7
        exact .inl ⟨b', _, _, _, _, _, w1, h6.symm, rfl, h7.symm⟩
      · rw [w2] at h6
        simp only [bnd] at h6
        rw [w3] at h7
        simp only [bnd, xz_1] at h7
        exact .inr ⟨q', _, _, _, _, _, _, _, _, _, _, _, _, _, _, _, _, _, _, _, _, _, _, by omega, w1, h6.symm, h7.symm, w4⟩
    · subst z4
      generalize h6 : f_X2_readItem fu t6 (nI n) (nI q) 1 (nI b) 103 (-1) (nI c) (nI s) (nI g) (nI f) (nI h) (nI ht) mk ea eb ln pa fe kn hi bl = x6
      unfold f_X2_readItem f_X2_readItem_J16 at h6
      rw [if_pos rfl, if_neg (by decide), if_neg (by decide), if_pos rfl] at h6
      generalize h7 : f_X7_readItem fu t7 (nI n) (nI q) (nI b) 1 103 rd = x7
      unfold f_X7_readItem at h7
      rw [if_pos rfl, if_neg (by decide), if_neg (by decide), if_pos rfl] at h7
      rcases guide67 hT h2 (show b ≤ n by omega) hf 1 103 1 103 hS with ⟨b', a1, a2, a3, a4, a5, a6, a7, a8, a9, a10, a11, a12, a13, w1, w2, w3⟩ | ⟨q', a1, a2, a3, a4, a5, a6, a7, a8, a9, a10, a11, w0, w1, w2, w3, w4⟩
      · rw [w2] at h6
        simp only [bnd] at h6
        rw [w3] at h7
        simp only [bnd, xz_0] at h7
        exact .inl ⟨b', _, _, _, _, _, w1, h6.symm, rfl, h7.symm⟩
      · rw [w2] at h6
        simp only [bnd] at h6
        rw [w3] at h7
        simp only [bnd, xz_1] at h7
        exact .inr ⟨q', _, _, _, _, _, _, _, _, _, _, _, _, _, _, _, _, _, _, _, _, _, _, by omega, w1, h6.symm, h7.symm, w4⟩
    · subst z4
      generalize h6 : f_X2_readItem fu t6 (nI n) (nI q) 1 (nI b) 104 (-1) (nI c) (nI s) (nI g) (nI f) (nI h) (nI ht) mk ea eb ln pa fe kn hi bl = x6
      unfold f_X2_readItem f_X2_readItem_J16 at h6
      rw [if_pos rfl, if_neg (by decide), if_neg (by decide), if_neg (by decide), if_pos rfl] at h6
      rcases hand67 hT h2 (show b ≤ n by omega) hf 1 104 104 rfl hS with ⟨b', a1, a2, a3, a4, a5, a6, a7, a8, a9, a10, w1, w2, w3⟩ | ⟨q', a1, a2, a3, a4, a5, a6, a7, a8, a9, w0, w1, w2, w3, w4⟩
      · rw [w2] at h6
        simp only [bnd] at h6
        exact .inl ⟨b', _, _, _, _, _, w1, h6.symm, rfl, w3⟩
      · rw [w2] at h6
        simp only [bnd] at h6
        exact .inr ⟨q', _, _, _, _, _, _, _, _, _, _, _, _, _, _, _, _, _, _, _, _, _, _, by omega, w1, h6.symm, w3, w4⟩
    · subst z4
      generalize h6 : f_X2_readItem fu t6 (nI n) (nI q) 1 (nI b) 115 (-1) (nI c) (nI s) (nI g) (nI f) (nI h) (nI ht) mk ea eb ln pa fe kn hi bl = x6
      unfold f_X2_readItem f_X2_readItem_J16 at h6
      rw [if_pos rfl, if_neg (by decide), if_neg (by decide), if_neg (by decide), if_neg (by decide), if_pos rfl] at h6
      generalize h7 : f_X7_readItem fu t7 (nI n) (nI q) (nI b) 1 115 rd = x7
      unfold f_X7_readItem at h7
      rw [if_pos rfl, if_neg (by decide), if_neg (by decide), if_neg (by decide), if_pos rfl] at h7
      rcases street67 hT h2 (show b ≤ n by omega) hf 1 115 1 115 hS with ⟨b', a1, a2, a3, a4, a5, a6, a7, a8, a9, a10, a11, a12, w1, w2, w3⟩ | ⟨q', a1, a2, a3, a4, a5, a6, a7, a8, a9, a10, w0, w1, w2, w3, w4⟩
      · rw [w2] at h6
        simp only [bnd] at h6
        rw [w3] at h7
        simp only [bnd, xz_0] at h7
        exact .inl ⟨b', _, _, _, _, _, w1, h6.symm, rfl, h7.symm⟩
      · rw [w2] at h6
        simp only [bnd] at h6
        rw [w3] at h7
        simp only [bnd, xz_1] at h7
        exact .inr ⟨q', _, _, _, _, _, _, _, _, _, _, _, _, _, _, _, _, _, _, _, _, _, _, by omega, w1, h6.symm, h7.symm, w4⟩
  · exact .inl (bad (.inl (by rw [z1]; decide)) (by rw [z2]; decide))
  · exact .inl (bad (.inl (by rw [z1]; decide)) (by rw [z2]; decide))
  · refine .inl (bad ?_ (by rw [z2]; decide))
    rcases z1 with z1 | z1
    · exact .inl (by rw [z1]; decide)
    · exact .inr z1.2
end ITEMS
