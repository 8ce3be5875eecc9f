theorem st_forFee : St_forFee Sim := by
  intro I F as J G tr x1 x2 x3 h
  obtain ⟨T, hO, h6, h7, ha, r⟩ := h
  have o1 := hO.1
  have o3 := hO.2.2.1
  obtain ⟨fu, hfu⟩ : ∃ fu, Cb 7 + 60 ≤ fu := ⟨_, Nat.le_refl _⟩
  have q6 : f_X6_forFee fu (I 6) (I 7) (I 8) (F 3) (F 4) (F 5) (F 6) (F 7) (F 8) (F 9) x1 x2 x3 = if (0 ≤ x1.toInt ∧ x1.toInt < T 0 0) ∧ (0 ≤ x2.toInt ∧ x2.toInt < T 0 0) ∧ 0 ≤ x3.toInt ∧ x3.toInt ≤ 999 then f_X6_forFee_L41 fu fu (I 6) (I 7) (I 8) (F 3) (F 4) (F 5) (F 6) (F 7) (F 8) (F 9) x1 x2 x3 0 0 else some (-1) := by
    unfold f_X6_forFee
    rw [show f_X4_hasCorner (I 6) x1 = some (if 0 ≤ x1.toInt ∧ x1.toInt < T 0 0 then 1 else 0) from by rw [h6.1]; exact hasC6 (by omega) _, show f_X4_hasCorner (I 6) x2 = some (if 0 ≤ x2.toInt ∧ x2.toInt < T 0 0 then 1 else 0) from by rw [h6.1]; exact hasC6 (by omega) _, rng6 x3 999 999 rfl]
    simp only [bnd, b01i]
    by_cases c1 : 0 ≤ x1.toInt ∧ x1.toInt < T 0 0
    · rw [if_pos c1]
      by_cases c2 : 0 ≤ x2.toInt ∧ x2.toInt < T 0 0
      · rw [if_pos c2]
        by_cases c3 : 0 ≤ x3.toInt ∧ x3.toInt ≤ 999
        · rw [if_pos c3]
          exact (if_pos ⟨c1, c2, c3⟩).symm
        · rw [if_neg c3]
          exact (if_neg (fun q => c3 q.2.2)).symm
      · rw [if_neg c2]
        exact (if_neg (fun q => c2 q.2.1)).symm
    · rw [if_neg c1]
      exact (if_neg (fun q => c1 q.1)).symm
  have q7 : f_X7_forFee fu (G 2) (G 8) (G 9) (G 10) x1 x2 x3 = if (0 ≤ x1.toInt ∧ x1.toInt < T 0 0) ∧ (0 ≤ x2.toInt ∧ x2.toInt < T 0 0) ∧ 0 ≤ x3.toInt ∧ x3.toInt ≤ 999 then f_X7_forFee_L36 fu fu (G 2) (G 8) (G 9) (G 10) x1 x2 x3 0 0 else some (-1, G 8, G 9, G 10) := by
    unfold f_X7_forFee
    rw [isC7 h7.1 (by omega), isC7 h7.1 (by omega), in7n x3 0 999 0 999 rfl rfl]
    simp only [bnd, b01i]
    by_cases c1 : 0 ≤ x1.toInt ∧ x1.toInt < T 0 0
    · rw [if_pos c1]
      by_cases c2 : 0 ≤ x2.toInt ∧ x2.toInt < T 0 0
      · rw [if_pos c2]
        by_cases c3 : 0 ≤ x3.toInt ∧ x3.toInt ≤ 999
        · rw [if_pos c3]
          exact (if_pos ⟨c1, c2, c3⟩).symm
        · rw [if_neg c3]
          exact (if_neg (fun q => c3 q.2.2)).symm
      · rw [if_neg c2]
        exact (if_neg (fun q => c2 q.2.1)).symm
    · rw [if_neg c1]
      exact (if_neg (fun q => c1 q.1)).symm
  by_cases c : (0 ≤ x1.toInt ∧ x1.toInt < T 0 0) ∧ (0 ≤ x2.toInt ∧ x2.toInt < T 0 0) ∧ 0 ≤ x3.toInt ∧ x3.toInt ≤ 999
  · rw [if_pos c] at q6 q7
    obtain ⟨c1, c2, c3⟩ := c
    obtain ⟨a, hka, rfl⟩ := of_in c1.1 c1.2
    obtain ⟨b, hkb, rfl⟩ := of_in c2.1 c2.2
    obtain ⟨f, hf, rfl⟩ : ∃ v : Nat, v < 1000 ∧ x3 = nI v := of_in c3.1 (by omega)
    obtain ⟨s, e1, e2⟩ := rel_loop (fun q (s : Int32) x => f_X6_forFee_L41 fu q (I 6) (I 7) (I 8) (F 3) (F 4) (F 5) (F 6) (F 7) (F 8) (F 9) (nI a) (nI b) (nI f) s x) (fun s => some s) (fun x s => MaskP (2 ^ 4) s (fun i => i < x ∧ (T 8 i).testBit a = true ∧ LfD T i b f 7 a 0 0)) (T 0 2) (by
      intro q x s hx hP
      show ∃ s', f_X6_forFee_L41b fu (f_X6_forFee_L41 fu q) (I 6) (I 7) (I 8) (F 3) (F 4) (F 5) (F 6) (F 7) (F 8) (F 9) (nI a) (nI b) (nI f) s (nI x) = _ ∧ _
      unfold f_X6_forFee_L41b
      obtain ⟨b', k1, k2⟩ := can6 (fu := fu) hO h6 (by omega) hx hkb hka (F := f) (by omega)
      rw [if_neg (by rw [h6.2.2.1]; exact nI_ge (by omega) (by omega)), his6 hO h6 hx hka, k1, bnd, bnd, b01i, bi0, show nI x + 1 = nI (x + 1) from nI_add x 1]
      by_cases w : (T 8 x).testBit a = true ∧ b' = true
      · rw [if_pos w.1, if_pos w.2]
        refine ⟨_, rfl, (hP.or (MaskP.one (by omega) (by decide))).congr (fun i => ⟨?_, ?_⟩)⟩
        · rintro (⟨p1, p2⟩ | rfl)
          · exact ⟨by omega, p2⟩
          · exact ⟨by omega, w.1, k2.mp w.2⟩
        · rintro ⟨p1, p2⟩
          by_cases q : x = i
          · exact Or.inr q
          · exact Or.inl ⟨by omega, p2⟩
      · have : (if (T 8 x).testBit a = true then if b' = true then f_X6_forFee_L41 fu q (I 6) (I 7) (I 8) (F 3) (F 4) (F 5) (F 6) (F 7) (F 8) (F 9) (nI a) (nI b) (nI f) (s ||| ((1 : Int32) <<< (nI x &&& 31))) (nI (x + 1)) else f_X6_forFee_L41 fu q (I 6) (I 7) (I 8) (F 3) (F 4) (F 5) (F 6) (F 7) (F 8) (F 9) (nI a) (nI b) (nI f) s (nI (x + 1)) else f_X6_forFee_L41 fu q (I 6) (I 7) (I 8) (F 3) (F 4) (F 5) (F 6) (F 7) (F 8) (F 9) (nI a) (nI b) (nI f) s (nI (x + 1))) = f_X6_forFee_L41 fu q (I 6) (I 7) (I 8) (F 3) (F 4) (F 5) (F 6) (F 7) (F 8) (F 9) (nI a) (nI b) (nI f) s (nI (x + 1)) := by
          by_cases w1 : (T 8 x).testBit a = true
          · rw [if_pos w1, if_neg (fun w2 => w ⟨w1, w2⟩)]
          · rw [if_neg w1]
        refine ⟨_, this, hP.congr (fun i => ⟨fun ⟨p1, p2⟩ => ⟨by omega, p2⟩, fun ⟨p1, p2⟩ => ⟨?_, p2⟩⟩)⟩
        by_cases q : x = i
        · subst q
          exact absurd ⟨p2.1, k2.mpr p2.2⟩ w
        · omega) (by
      intro q s hP
      show f_X6_forFee_L41b fu (f_X6_forFee_L41 fu q) (I 6) (I 7) (I 8) (F 3) (F 4) (F 5) (F 6) (F 7) (F 8) (F 9) (nI a) (nI b) (nI f) s (nI (T 0 2)) = _
      unfold f_X6_forFee_L41b
      rw [if_pos (by rw [h6.2.2.1]; exact nI_le (Nat.le_refl _) (by omega))]) (T 0 2) 0 fu 0 (by omega) (by omega) (MaskP.zero (by decide) (fun i h => by omega))
    obtain ⟨s', e3, e4⟩ := rel_loop (fun q (s : Int32 × (Nat → Int32) × (Nat → Int32) × (Nat → Int32)) x => f_X7_forFee_L36 fu q (G 2) s.2.1 s.2.2.1 s.2.2.2 (nI a) (nI b) (nI f) s.1 x) (fun s => some s) (fun x s => MaskP (2 ^ 4) s.1 (fun i => i < x ∧ (T 8 i).testBit a = true ∧ LfD T i b f 7 a 0 0)) (T 0 2) (by
      intro q x s hx hP
      have q2 : ∀ {α : Type} (A : Option α), xb (2 : Int32) 64 A = A := fun A => xb_l (by decide)
      show ∃ s', f_X7_forFee_L36b fu (f_X7_forFee_L36 fu q) (G 2) s.2.1 s.2.2.1 s.2.2.2 (nI a) (nI b) (nI f) s.1 (nI x) = _ ∧ _
      unfold f_X7_forFee_L36b
      obtain ⟨b', rr, k1, k2⟩ := isFor7 (tr := s.2.1) (pl := s.2.2.1) (sp := s.2.2.2) hO h7 (fu := fu) (by omega) hx hkb (F := f) (by omega) hka
      rw [q2, show ((2 : Int32).toNatClampNeg) = 2 from rfl, h7.2.2.1, if_neg (nI_ge (by omega) (by omega)), isHis7 hO h7 hx (by omega), k1, bnd, bnd, b01i, show nI x + 1 = nI (x + 1) from nI_add x 1, or0]
      show ∃ s', (if (T 8 x).testBit a = true then (if bi b' = 0 then _ else _) else _) = _ ∧ _
      rw [bi0]
      by_cases w1 : (T 8 x).testBit a = true
      · rw [if_pos w1]
        by_cases w2 : b' = true
        · rw [if_pos w2]
          refine ⟨(_, rr), rfl, (hP.or (MaskP.one (by omega) (by decide))).congr (fun i => ⟨?_, ?_⟩)⟩
          · rintro (⟨p1, p2⟩ | rfl)
            · exact ⟨by omega, p2⟩
            · exact ⟨by omega, w1, k2.mp w2⟩
          · rintro ⟨p1, p2⟩
            by_cases q : x = i
            · exact Or.inr q
            · exact Or.inl ⟨by omega, p2⟩
        · rw [if_neg w2]
          refine ⟨(s.1, rr), rfl, hP.congr (fun i => ⟨fun ⟨p1, p2⟩ => ⟨by omega, p2⟩, fun ⟨p1, p2⟩ => ⟨?_, p2⟩⟩)⟩
          by_cases q : x = i
          · subst q
            exact absurd (k2.mpr p2.2) w2
          · omega
      · rw [if_neg w1]
        refine ⟨s, rfl, hP.congr (fun i => ⟨fun ⟨p1, p2⟩ => ⟨by omega, p2⟩, fun ⟨p1, p2⟩ => ⟨?_, p2⟩⟩)⟩
        by_cases q : x = i
        · subst q
          exact absurd p2.1 w1
        · omega) (by
      intro q s hP
      show f_X7_forFee_L36b fu (f_X7_forFee_L36 fu q) (G 2) s.2.1 s.2.2.1 s.2.2.2 (nI a) (nI b) (nI f) s.1 (nI (T 0 2)) = _
      unfold f_X7_forFee_L36b
      rw [xb_l (by decide), show ((2 : Int32).toNatClampNeg) = 2 from rfl, h7.2.2.1, if_pos (nI_le (Nat.le_refl _) (by omega))]) (T 0 2) 0 fu (0, G 8, G 9, G 10) (by omega) (by omega) (MaskP.zero (by decide) (fun i h => by omega))
    exact ⟨fu, _, fu, _, q6.trans e1, q7.trans e3, e2.eq e4 (fun i => Iff.rfl), T, hO, h6, h7, ha, r⟩
  · rw [if_neg c] at q6 q7
    exact ⟨fu, _, fu, _, q6, q7, rfl, T, hO, h6, h7, ha, r⟩
