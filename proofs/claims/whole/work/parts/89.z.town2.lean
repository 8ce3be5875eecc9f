/-! the step town -/
theorem town68 {fu m : Nat} {v_map v_spareMap : Nat} {v_kept r_text s_marks s_ends s_farEnds s_lengths s_paces s_fees s_knows s_his s_bells : Nat → Int32} {r_length r_place r_token r_tokenAt r_value r_fault s_cornerCount s_streetCount s_guideCount s_bellCount s_hand s_handTold t_corner t_minute t_paid t_leader t_undoable to_felt to_walked w_size x1 : Int32} : f_X6_town_L68 fu (m + 3) v_map v_spareMap v_kept r_text r_length r_place r_token r_tokenAt r_value r_fault s_cornerCount s_streetCount s_guideCount s_bellCount s_hand s_handTold s_marks s_ends s_farEnds s_lengths s_paces s_fees s_knows s_his s_bells t_corner t_minute t_paid t_leader t_undoable to_felt to_walked w_size x1 0 = some (x1, v_map, v_spareMap, upd (upd v_kept 0 0) 1 0, r_length, r_place, r_token, r_tokenAt, r_value, r_fault, s_cornerCount, s_streetCount, s_guideCount, s_bellCount, s_hand, s_handTold, s_marks, s_ends, s_farEnds, s_lengths, s_paces, s_fees, s_knows, s_his, s_bells, t_corner, t_minute, t_paid, t_leader, t_undoable, to_felt, to_walked, w_size) := by
  have n0 : vp_nar .boolean (0 : Int32) = 0 := by decide +kernel
  show f_X6_town_L68b fu (f_X6_town_L68 fu (m + 2)) v_map v_spareMap v_kept r_text r_length r_place r_token r_tokenAt r_value r_fault s_cornerCount s_streetCount s_guideCount s_bellCount s_hand s_handTold s_marks s_ends s_farEnds s_lengths s_paces s_fees s_knows s_his s_bells t_corner t_minute t_paid t_leader t_undoable to_felt to_walked w_size x1 0 = _
  unfold f_X6_town_L68b
  rw [if_neg (by decide), xb_l (by decide), n0, show ((0 : Int32).toNatClampNeg) = 0 from rfl, show (0 : Int32) + 1 = 1 from rfl]
  show f_X6_town_L68b fu (f_X6_town_L68 fu (m + 1)) v_map v_spareMap (upd v_kept 0 0) r_text r_length r_place r_token r_tokenAt r_value r_fault s_cornerCount s_streetCount s_guideCount s_bellCount s_hand s_handTold s_marks s_ends s_farEnds s_lengths s_paces s_fees s_knows s_his s_bells t_corner t_minute t_paid t_leader t_undoable to_felt to_walked w_size x1 1 = _
  unfold f_X6_town_L68b
  rw [if_neg (by decide), xb_l (by decide), n0, show ((1 : Int32).toNatClampNeg) = 1 from rfl, show (1 : Int32) + 1 = 2 from rfl]
  show f_X6_town_L68b fu (f_X6_town_L68 fu m) v_map v_spareMap (upd (upd v_kept 0 0) 1 0) r_text r_length r_place r_token r_tokenAt r_value r_fault s_cornerCount s_streetCount s_guideCount s_bellCount s_hand s_handTold s_marks s_ends s_farEnds s_lengths s_paces s_fees s_knows s_his s_bells t_corner t_minute t_paid t_leader t_undoable to_felt to_walked w_size x1 2 = _
  unfold f_X6_town_L68b
  rw [if_pos (by decide)]
theorem neg10 : ∀ b, b < 201 → ¬ (0 : Int32) ≤ -10 - nI b := by decide +kernel
theorem st_town : St_town Sim := by
  intro I F as J G tr u h
  obtain ⟨T, hO, h6, h7, ha, ⟨n, hn, e6, e7, ht⟩, r1, r2, r3, r4, r5, r6⟩ := h
  have hT : Txt n (fun k => (F 1 k).toNatClampNeg) (F 1) (G 0) := by
    refine ⟨hn, fun k hk => ?_⟩
    obtain ⟨b, b1, b2, b3⟩ := ht k hk
    show (F 1 k).toNatClampNeg < 256 ∧ F 1 k = nI (F 1 k).toNatClampNeg ∧ G 0 k = nI (F 1 k).toNatClampNeg
    rw [b2, cl b (by omega)]
    exact ⟨b1, rfl, b3⟩
  obtain ⟨A, p1, p2, p3⟩ := plain7 (fu := 300) (by decide) (G 1)
  have hS0 : RdS 0 0 0 0 1 0 (F 11) (F 12) (F 13) (F 14) (F 15) (F 16) (F 17) (F 18) (F 19) A := ⟨⟨by decide, by decide, by decide, by decide, by decide, by decide⟩, ⟨p3 0 (by decide) (by decide), p3 1 (by decide) (by decide), p3 2 (by decide) (by decide), p2, p3 4 (by decide) (by decide), p3 5 (by decide) (by decide)⟩, fun k hk => by omega, fun k hk => by omega, fun k hk => by omega, fun k hk => by omega⟩
  have q6 : f_X2_readInto 300 (F 1) (I 0) (I 1) (I 2) (I 3) (I 4) (I 5) (I 12) (I 13) (I 14) (I 15) (I 16) (I 17) (F 11) (F 12) (F 13) (F 14) (F 15) (F 16) (F 17) (F 18) (F 19) = f_X2_readInto_L18 300 300 (F 1) (nI n) (nI 0) (I 2) (I 3) (I 4) (-1) (nI 0) (nI 0) (nI 0) (nI 0) (nI 1) (nI 0) (F 11) (F 12) (F 13) (F 14) (F 15) (F 16) (F 17) (F 18) (F 19) (nI 0) (nI 0) := by
    unfold f_X2_readInto f_X4_empty
    rw [bnd, e6]
    rfl
  have q7 : f_X7_town 300 (G 0) (J 0) (J 1) (J 2) (J 3) (J 4) (G 1) (G 2) (G 3) (J 5) (J 7) (J 8) (J 9) (G 22) = (f_X7_reads 300 (G 0) (nI n) (nI 0) (J 2) (J 3) (J 4)).bind (fun r => f_X7_town_L15 300 300 (G 0) (nI n) r.1 r.2.1 r.2.2.1 r.2.2.2 A (G 2) (G 3) (J 5) (J 7) (J 8) (J 9) (G 22) (nI 0)) := by
    unfold f_X7_town
    rw [p1, bnd, e7]
    rfl
  rcases into67 (fu := 300) hT (by decide) (tw := G 2) (nw := G 3) (kt := G 22) (un := J 5) (fl := J 7) (we := J 8) (wi := J 9) n 0 0 300 300 (I 2) (I 3) (I 4) (J 2) (J 3) (J 4) 0 0 0 0 1 0 (F 11) (F 12) (F 13) (F 14) (F 15) (F 16) (F 17) (F 18) (F 19) A (by omega) (by omega) (by omega) (by omega) (by omega) hS0 with ⟨b, x1, x2, x3, x4, x5, x6, y1, y2, y3, y4⟩ | ⟨i, x1, x2, x3, x4, c, s, g, f, hh, ht', mk, ea, eb, ln, pa, fe, kn, hi, bl, x20, x21, x22, x23, rd, y1, y2, y3, y4⟩
  · have z7 := q7.trans y4
    have z6 : f_X6_town 300 (u 2) (u 3) (F 0) (F 1) (I 0) (I 1) (I 2) (I 3) (I 4) (I 5) (I 12) (I 13) (I 14) (I 15) (I 16) (I 17) (F 11) (F 12) (F 13) (F 14) (F 15) (F 16) (F 17) (F 18) (F 19) (I 18) (I 19) (I 20) (I 21) (I 22) (I 26) (I 27) (I 28) = some (x1.1, u 2 0, u 3 0, F 0, I 0, x1.2.1, x1.2.2.1, x1.2.2.2.1, x1.2.2.2.2.1, x1.2.2.2.2.2.1, x1.2.2.2.2.2.2.1, x1.2.2.2.2.2.2.2.1, x1.2.2.2.2.2.2.2.2.1, x1.2.2.2.2.2.2.2.2.2.1, x1.2.2.2.2.2.2.2.2.2.2.1, x1.2.2.2.2.2.2.2.2.2.2.2.1, x1.2.2.2.2.2.2.2.2.2.2.2.2.1, x1.2.2.2.2.2.2.2.2.2.2.2.2.2.1, x1.2.2.2.2.2.2.2.2.2.2.2.2.2.2.1, x1.2.2.2.2.2.2.2.2.2.2.2.2.2.2.2.1, x1.2.2.2.2.2.2.2.2.2.2.2.2.2.2.2.2.1, x1.2.2.2.2.2.2.2.2.2.2.2.2.2.2.2.2.2.1, x1.2.2.2.2.2.2.2.2.2.2.2.2.2.2.2.2.2.2.1, x1.2.2.2.2.2.2.2.2.2.2.2.2.2.2.2.2.2.2.2.1, x1.2.2.2.2.2.2.2.2.2.2.2.2.2.2.2.2.2.2.2.2, I 18, I 19, I 20, I 21, I 22, I 26, I 27, I 28) := by
      unfold f_X6_town
      rw [q6, y2, bnd, if_neg (by rw [y3]; exact neg10 b (by omega))]
    exact ⟨300, _, 300, _, z6, z7, y3, .inl ⟨rfl, rfl, T, hO, h6, h7, ha, ⟨n, hn, e6, rfl, ht⟩, r1, r2, r3, r4, r5, r6⟩⟩
  · obtain ⟨tw, nw, kt, k1, k2, k3, k4, k5, k6, k7, k8⟩ := takes7 (fu := 300) (by decide) rd (G 2) (G 3) (G 22) (J 5) (J 7) (J 8) (J 9)
    rw [k1, bnd] at y4
    obtain ⟨kn', hi', d1, d2⟩ := drop6 (fu := 300) (c := c) (s := s) (g := g) (by decide) y2.1.2.2.1 kn hi
    obtain ⟨t1, t2, t3⟩ := rd_town y2 d2 k2
    have z7 := q7.trans y4
    have z6 : f_X6_town 300 (u 2) (u 3) (F 0) (F 1) (I 0) (I 1) (I 2) (I 3) (I 4) (I 5) (I 12) (I 13) (I 14) (I 15) (I 16) (I 17) (F 11) (F 12) (F 13) (F 14) (F 15) (F 16) (F 17) (F 18) (F 19) (I 18) (I 19) (I 20) (I 21) (I 22) (I 26) (I 27) (I 28) = some (nI i, u 3 0, u 2 0, upd (upd (F 0) 0 0) 1 0, 0, x1, x2, x3, x4, -1, nI c, nI s, nI g, nI f, nI hh, nI ht', mk, ea, eb, ln, pa, fe, kn', hi', bl, 0, 0, 0, -9, 0, 0, 0, 0) := by
      unfold f_X6_town
      rw [q6, y3]
      unfold f_X2_readInto_J69
      rw [d1]
      simp only [bnd]
      rw [if_pos (show (0 : Int32) ≤ nI i from by rw [show (0 : Int32) = nI 0 from rfl]; exact nI_le (by omega) (by omega))]
      unfold f_X1_startAnew f_X3_forgetAll
      simp only [bnd]
      exact town68 (m := 297)
    refine ⟨300, _, 300, _, z6, z7, rfl, .inr ⟨rfl, rfl, mkT c s g f hh mk ea eb ln pa fe kn' hi' bl, t1, t2, t3, ha, ⟨0, by omega, rfl, rfl, fun k hk => by omega⟩, ?_, .inl ⟨rfl, k7⟩, .inl ⟨rfl, k8⟩, ⟨0, by omega, rfl, rfl, fun k hk => by omega⟩, ⟨0, by omega, rfl, rfl, fun k hk => by omega⟩, ⟨0, by omega, rfl, rfl, fun k hk => by omega⟩⟩⟩
    refine tale0 ?_ k4 k5 k6
    show nw 0 = if c = 0 then -9 else 0
    rw [k3, y2.2.1.1, if0 (by have := y2.1.1; omega)]
