abbrev rm_X0_costOf : Room := { frames := 0, cells := 0, slots := 0, locals := 0 }
set_option maxHeartbeats 4000000 in
set_option maxRecDepth 100000 in
theorem k_X0_costOf (l : Launch) (D : va_G) (cI cZ cT : ClassId) (sz : Nat) (x0 : Int32) (x1 : Int32) (x2 : Int32) (res : R_X0_costOf) (hf : f_X0_costOf x0 x1 x2 = some res) : Met l yX0_costOf wsX0_costOf rm_X0_costOf (cPre D (tyz cI cZ cT) [.int x0, .int x1, .int x2] sz []) (cPi D (tyz cI cZ cT) (fun (r : Int32) (_ : Unit) => r = res) (fun _ => []) [] sz) 0 0 (va_A [] sz) := by
  refine vx_meth_i (by decide) rfl (Nat.le_of_ble_eq_true rfl) ?_
  intro p e s m args below meth c A Q hx hb hml hown hts hK hP hD hA hS hret ls hl
  have hown : s.vm.findClass RX0 = some m.cls := hown
  have hl : lv_has ls 3 [(0, .int x0), (1, .int x1), (2, .int x2)] := hl
  have hFx : CallFix p m c cX0_costOf 3 s args wsX0_costOf RX0 := ⟨hx, hb, hml, hown, hts⟩
  have h := hf
  unfold f_X0_costOf at h
  obtain ⟨H, eH⟩ : ∃ H, H = s.heap := ⟨_, rfl⟩
  rw [← eH] at hP ⊢
  obtain ⟨locs, el⟩ : ∃ locs : List Loc, locs = [] := ⟨_, rfl⟩
  rw [← el] at hS ⊢
  have hS : va_S A s.heap H locs := by rw [eH]; exact hS
  refine lv_iload_n hx hb dX0_costOf_0 rfl (lv_at hl 2 rfl) ?_
  refine lv_if_eq (tgt := 14) hx hb dX0_costOf_1 (by decide) (fun c1 => ?_) (fun c1 => ?_)
  · have h := (if_pos c1).symm.trans h
    refine lv_iload_n hx hb dX0_costOf_14 rfl (lv_at hl 1 rfl) ?_
    refine lv_sipush (v := 10000) hx hb dX0_costOf_15 (by decide) ?_
    refine lv_imul hx hb dX0_costOf_18 ?_
    refine lv_iload_n hx hb dX0_costOf_19 rfl (lv_at hl 0 rfl) ?_
    refine lv_iadd hx hb dX0_costOf_20 ?_
    exact hret ((x1 * (10000 : Int32)) + x0) () H locs _ ls (Option.some.inj h) hP hD hS dX0_costOf_21
  · have h := (if_neg c1).symm.trans h
    refine lv_iload_n hx hb dX0_costOf_4 rfl (lv_at hl 0 rfl) ?_
    refine lv_sipush (v := 10000) hx hb dX0_costOf_5 (by decide) ?_
    refine lv_imul hx hb dX0_costOf_8 ?_
    refine lv_iload_n hx hb dX0_costOf_9 rfl (lv_at hl 1 rfl) ?_
    refine lv_iadd hx hb dX0_costOf_10 ?_
    refine lv_goto (tgt := 21) hx hb dX0_costOf_11 (by decide) ?_
    exact hret ((x0 * (10000 : Int32)) + x1) () H locs _ ls (Option.some.inj h) hP hD hS dX0_costOf_21
abbrev rm_X0_lower : Room := { frames := 0, cells := 0, slots := 0, locals := 0 }
set_option maxHeartbeats 4000000 in
set_option maxRecDepth 100000 in
theorem k_X0_lower (l : Launch) (D : va_G) (cI cZ cT : ClassId) (q : Nat → Nat) (sz : Nat) (v_minutes : Int32) (v_paid : Int32) (v_first : Int32) (v_costs : Nat → Int32) (x1 : Int32) (x2 : Int32) (x3 : Int32) (res : R_X0_lower) (hf : f_X0_lower v_costs x1 x2 x3 = some res) : Met l yX0_lower wsX0_lower rm_X0_lower (cPre D (tyz cI cZ cT) [.ref (q 0), .int x1, .int x2, .int x3] sz [oX0 q v_minutes v_paid v_first, rA (q 1) cI 28 v_costs]) (cPi D (tyz cI cZ cT) (fun (r : Int32) (u : (Nat → Int32)) => (r, u) = res) (fun u => [oX0 q v_minutes v_paid v_first, rA (q 1) cI 28 u]) [oX0 q v_minutes v_paid v_first, rA (q 1) cI 28 v_costs] sz) 0 0 (va_A [oX0 q v_minutes v_paid v_first, rA (q 1) cI 28 v_costs] sz) := by
  refine vx_meth_z (by decide) rfl (Nat.le_of_ble_eq_true rfl) ?_
  intro p e s m args below meth c A Q hx hb hml hown hts hK hP hD hA hS hret ls hl
  have hown : s.vm.findClass RX0 = some m.cls := hown
  have hl : lv_has ls 4 [(0, .ref (q 0)), (1, .int x1), (2, .int x2), (3, .int x3)] := hl
  have hFx : CallFix p m c cX0_lower 4 s args wsX0_lower RX0 := ⟨hx, hb, hml, hown, hts⟩
  have lk11 := hts (.fieldLink RX0 11 "FogGuides$Routes" "costs" "[I") (by decide +kernel)
  have iw0 : ∀ w ∈ u_ws RX0 TX0 5, w ∈ wsX0_lower := by decide +kernel
  have h := hf
  unfold f_X0_lower at h
  obtain ⟨H, eH⟩ : ∃ H, H = s.heap := ⟨_, rfl⟩
  rw [← eH] at hP ⊢
  obtain ⟨locs, el⟩ : ∃ locs : List Loc, locs = [] := ⟨_, rfl⟩
  rw [← el] at hS ⊢
  have hS : va_S A s.heap H locs := by rw [eH]; exact hS
  refine lv_aload_n hx hb dX0_lower_0 rfl (lv_at hl 0 rfl) ?_
  refine va_get (C := RX0) (T := TX0) (N := 5) (v := .ref (q 1)) hx hb hts iw0 hown hK hP 0 rfl rfl 0 (Nat.le_of_ble_eq_true rfl) lk11 (fun _ h9 => h9) rfl dX0_lower_1 ?_
  refine lv_iload_n hx hb dX0_lower_4 rfl (lv_at hl 2 rfl) ?_
  obtain ⟨hi1, h⟩ := xb_some h
  refine va_iald hx hb hK hP 1 0 rfl rfl hi1 dX0_lower_5 ?_
  refine lv_ldc (v := (1000000000)) hx hb hown (hts (.constant RX0 18 (1000000000)) (by decide +kernel)) dX0_lower_6 ?_
  refine lv_icmp_ge (tgt := 28) hx hb dX0_lower_8 (by decide) (fun c2 => ?_) (fun c2 => ?_)
  · have h := (if_pos c2).symm.trans h
    refine lv_iconst (v := 0) hx hb dX0_lower_28 (by decide) ?_
    exact hret (0 : Int32) v_costs H locs _ ls (Or.inl rfl) (Option.some.inj h) hP hD hS dX0_lower_29
  · have h := (if_neg c2).symm.trans h
    refine lv_aload_n hx hb dX0_lower_11 rfl (lv_at hl 0 rfl) ?_
    refine va_get (C := RX0) (T := TX0) (N := 5) (v := .ref (q 1)) hx hb hts iw0 hown hK hP 0 rfl rfl 0 (Nat.le_of_ble_eq_true rfl) lk11 (fun _ h9 => h9) rfl dX0_lower_12 ?_
    refine lv_iload_n hx hb dX0_lower_15 rfl (lv_at hl 2 rfl) ?_
    obtain ⟨hi3, h⟩ := xb_some h
    refine va_iald hx hb hK hP 1 0 rfl rfl hi3 dX0_lower_16 ?_
    refine lv_iload_n hx hb dX0_lower_17 rfl (lv_at hl 3 rfl) ?_
    refine lv_iadd hx hb dX0_lower_18 ?_
    refine lv_aload_n hx hb dX0_lower_19 rfl (lv_at hl 0 rfl) ?_
    refine va_get (C := RX0) (T := TX0) (N := 5) (v := .ref (q 1)) hx hb hts iw0 hown hK hP 0 rfl rfl 0 (Nat.le_of_ble_eq_true rfl) lk11 (fun _ h9 => h9) rfl dX0_lower_20 ?_
    refine lv_iload_n hx hb dX0_lower_23 rfl (lv_at hl 1 rfl) ?_
    obtain ⟨hi4, h⟩ := xb_some h
    refine va_iald hx hb hK hP 1 0 rfl rfl hi4 dX0_lower_24 ?_
    refine lv_icmp_lt (tgt := 30) hx hb dX0_lower_25 (by decide) (fun c5 => ?_) (fun c5 => ?_)
    · have h := (if_pos c5).symm.trans h
      refine lv_aload_n hx hb dX0_lower_30 rfl (lv_at hl 0 rfl) ?_
      refine va_get (C := RX0) (T := TX0) (N := 5) (v := .ref (q 1)) hx hb hts iw0 hown hK hP 0 rfl rfl 0 (Nat.le_of_ble_eq_true rfl) lk11 (fun _ h9 => h9) rfl dX0_lower_31 ?_
      refine lv_iload_n hx hb dX0_lower_34 rfl (lv_at hl 1 rfl) ?_
      refine lv_aload_n hx hb dX0_lower_35 rfl (lv_at hl 0 rfl) ?_
      refine va_get (C := RX0) (T := TX0) (N := 5) (v := .ref (q 1)) hx hb hts iw0 hown hK hP 0 rfl rfl 0 (Nat.le_of_ble_eq_true rfl) lk11 (fun _ h9 => h9) rfl dX0_lower_36 ?_
      refine lv_iload_n hx hb dX0_lower_39 rfl (lv_at hl 2 rfl) ?_
      obtain ⟨hi6, h⟩ := xb_some h
      refine va_iald hx hb hK hP 1 0 rfl rfl hi6 dX0_lower_40 ?_
      refine lv_iload_n hx hb dX0_lower_41 rfl (lv_at hl 3 rfl) ?_
      refine lv_iadd hx hb dX0_lower_42 ?_
      obtain ⟨hi7, h⟩ := xb_some h
      refine va_iast hx hb hK hP hD hS 1 0 rfl rfl hi7 dX0_lower_43 (fun H locs hP hD hS => ?_)
      have hP : va_P D vwCl [oX0 q v_minutes v_paid v_first, rA (q 1) cI 28 (upd v_costs x1.toNatClampNeg ((v_costs x2.toNatClampNeg) + x3))] H := hP
      have hD : va_D A [oX0 q v_minutes v_paid v_first, rA (q 1) cI 28 (upd v_costs x1.toNatClampNeg ((v_costs x2.toNatClampNeg) + x3))] := hD
      refine lv_iconst (v := 1) hx hb dX0_lower_44 (by decide) ?_
      exact hret (1 : Int32) (upd v_costs x1.toNatClampNeg ((v_costs x2.toNatClampNeg) + x3)) H locs _ ls (Or.inr rfl) (Option.some.inj h) hP hD hS dX0_lower_45
    · have h := (if_neg c5).symm.trans h
      refine lv_iconst (v := 0) hx hb dX0_lower_28 (by decide) ?_
      exact hret (0 : Int32) v_costs H locs _ ls (Or.inl rfl) (Option.some.inj h) hP hD hS dX0_lower_29
abbrev rm_X0_costStreets : Room := { frames := 2, cells := 0, slots := 0, locals := 43 }
set_option maxHeartbeats 4000000 in
set_option maxRecDepth 100000 in
theorem k_X0_costStreets (l : Launch) (D : va_G) (cI cZ cT : ClassId) (q : Nat → Nat) (qm : Nat → Nat) (sz : Nat) (v_minutes : Int32) (v_paid : Int32) (v_first : Int32) (m_cornerCount : Int32) (m_streetCount : Int32) (m_guideCount : Int32) (m_bellCount : Int32) (m_hand : Int32) (m_handTold : Int32) (v_costs : Nat → Int32) (m_ends : Nat → Int32) (m_farEnds : Nat → Int32) (m_lengths : Nat → Int32) (m_paces : Nat → Int32) (m_fees : Nat → Int32) (m_knows : Nat → Int32) (x2 : Int32) (x3 : Int32) (res : R_X0_costStreets) (fu : Nat) (hf : f_X0_costStreets fu v_costs m_streetCount m_guideCount m_ends m_farEnds m_lengths m_paces m_fees m_knows x2 x3 = some res) : Met l yX0_costStreets wsX0_costStreets rm_X0_costStreets (cPre D (tyz cI cZ cT) [.ref (q 0), .ref (qm 0), .int x2, .int x3] sz [oX0 q v_minutes v_paid v_first, rA (q 1) cI 28 v_costs, oX4 qm m_cornerCount m_streetCount m_guideCount m_bellCount m_hand m_handTold, rA (qm 8) cI 9 m_ends, rA (qm 9) cI 9 m_farEnds, rA (qm 10) cI 9 m_lengths, rA (qm 11) cI 4 m_paces, rA (qm 12) cI 4 m_fees, rA (qm 13) cI 4 m_knows]) (cPi D (tyz cI cZ cT) (fun (r : Int32) (u : (Nat → Int32)) => (r, u) = res) (fun u => [oX0 q v_minutes v_paid v_first, rA (q 1) cI 28 u, oX4 qm m_cornerCount m_streetCount m_guideCount m_bellCount m_hand m_handTold, rA (qm 8) cI 9 m_ends, rA (qm 9) cI 9 m_farEnds, rA (qm 10) cI 9 m_lengths, rA (qm 11) cI 4 m_paces, rA (qm 12) cI 4 m_fees, rA (qm 13) cI 4 m_knows]) [oX0 q v_minutes v_paid v_first, rA (q 1) cI 28 v_costs, oX4 qm m_cornerCount m_streetCount m_guideCount m_bellCount m_hand m_handTold, rA (qm 8) cI 9 m_ends, rA (qm 9) cI 9 m_farEnds, rA (qm 10) cI 9 m_lengths, rA (qm 11) cI 4 m_paces, rA (qm 12) cI 4 m_fees, rA (qm 13) cI 4 m_knows] sz) 0 0 (va_A [oX0 q v_minutes v_paid v_first, rA (q 1) cI 28 v_costs, oX4 qm m_cornerCount m_streetCount m_guideCount m_bellCount m_hand m_handTold, rA (qm 8) cI 9 m_ends, rA (qm 9) cI 9 m_farEnds, rA (qm 10) cI 9 m_lengths, rA (qm 11) cI 4 m_paces, rA (qm 12) cI 4 m_fees, rA (qm 13) cI 4 m_knows] sz) := by
  refine vx_meth_z (by decide) rfl (Nat.le_of_ble_eq_true rfl) ?_
  intro p e s m args below meth c A Q hx hb hml hown hts hK hP hD hA hS hret ls hl
  have hown : s.vm.findClass RX0 = some m.cls := hown
  have hl : lv_has ls 10 [(0, .ref (q 0)), (1, .ref (qm 0)), (2, .int x2), (3, .int x3)] := hl
  have hFx : CallFix p m c cX0_costStreets 10 s args wsX0_costStreets RX0 := ⟨hx, hb, hml, hown, hts⟩
  have lk36 := hts (.fieldLink RX0 36 "FogGuides$TownMap" "streetCount" "I") (by decide +kernel)
  have iw4 : ∀ w ∈ u_ws RX4 TX4 15, w ∈ wsX0_costStreets := by decide +kernel
  have lk47 := hts (.fieldLink RX0 47 "FogGuides$TownMap" "fees" "[I") (by decide +kernel)
  have lk54 := hts (.fieldLink RX0 54 "FogGuides$TownMap" "ends" "[I") (by decide +kernel)
  have lk57 := hts (.fieldLink RX0 57 "FogGuides$TownMap" "farEnds" "[I") (by decide +kernel)
  have hL6 : ∀ (n6 : Nat), ∀ (v_costs : (Nat → Int32)) (x2 : Int32) (x3 : Int32) (x4 : Int32) (x5 : Int32) (H : Heap) (locs : List Loc) (ls : Array Slot), f_X0_costStreets_L6 fu n6 v_costs m_streetCount m_guideCount m_ends m_farEnds m_lengths m_paces m_fees m_knows x2 x3 x4 x5 = some res → va_P D vwCl [oX0 q v_minutes v_paid v_first, rA (q 1) cI 28 v_costs, oX4 qm m_cornerCount m_streetCount m_guideCount m_bellCount m_hand m_handTold, rA (qm 8) cI 9 m_ends, rA (qm 9) cI 9 m_farEnds, rA (qm 10) cI 9 m_lengths, rA (qm 11) cI 4 m_paces, rA (qm 12) cI 4 m_fees, rA (qm 13) cI 4 m_knows] H → va_D A [oX0 q v_minutes v_paid v_first, rA (q 1) cI 28 v_costs, oX4 qm m_cornerCount m_streetCount m_guideCount m_bellCount m_hand m_handTold, rA (qm 8) cI 9 m_ends, rA (qm 9) cI 9 m_farEnds, rA (qm 10) cI 9 m_lengths, rA (qm 11) cI 4 m_paces, rA (qm 12) cI 4 m_fees, rA (qm 13) cI 4 m_knows] → va_S A s.heap H locs → lv_has ls 10 [(0, .ref (q 0)), (1, .ref (qm 0)), (2, .int x2), (3, .int x3), (4, .int x4), (5, .int x5)] → W p l e rm_X0_costStreets s m args below meth c H locs 0 0 Q (F0 m 6 ls []) := by
    intro n6
    induction n6 with
    | zero =>
      intro v_costs x2 x3 x4 x5 H locs ls h hP hD hS hl
      cases (show (none : Option R_X0_costStreets) = some res from h)
    | succ n6 ih6 =>
      have hJ96 : ∀ (v_costs : (Nat → Int32)) (x2 : Int32) (x3 : Int32) (x4 : Int32) (x5 : Int32) (x7 : Int32) (x8 : Int32) (x9 : Int32) (H : Heap) (locs : List Loc) (ls : Array Slot), f_X0_costStreets_J96 fu (f_X0_costStreets_L6 fu n6) v_costs m_streetCount m_guideCount m_ends m_farEnds m_lengths m_paces m_fees m_knows x2 x3 x4 x5 x7 x8 x9 = some res → va_P D vwCl [oX0 q v_minutes v_paid v_first, rA (q 1) cI 28 v_costs, oX4 qm m_cornerCount m_streetCount m_guideCount m_bellCount m_hand m_handTold, rA (qm 8) cI 9 m_ends, rA (qm 9) cI 9 m_farEnds, rA (qm 10) cI 9 m_lengths, rA (qm 11) cI 4 m_paces, rA (qm 12) cI 4 m_fees, rA (qm 13) cI 4 m_knows] H → va_D A [oX0 q v_minutes v_paid v_first, rA (q 1) cI 28 v_costs, oX4 qm m_cornerCount m_streetCount m_guideCount m_bellCount m_hand m_handTold, rA (qm 8) cI 9 m_ends, rA (qm 9) cI 9 m_farEnds, rA (qm 10) cI 9 m_lengths, rA (qm 11) cI 4 m_paces, rA (qm 12) cI 4 m_fees, rA (qm 13) cI 4 m_knows] → va_S A s.heap H locs → lv_has ls 10 [(0, .ref (q 0)), (1, .ref (qm 0)), (2, .int x2), (3, .int x3), (4, .int x4), (5, .int x5), (7, .int x7), (8, .int x8), (9, .int x9)] → W p l e rm_X0_costStreets s m args below meth c H locs 0 0 Q (F0 m 96 ls []) := by
        intro v_costs x2 x3 x4 x5 x7 x8 x9 H locs ls h hP hD hS hl
        unfold f_X0_costStreets_J96 at h
        refine lv_aload_n hx hb dX0_costStreets_96 rfl (lv_at hl 0 rfl) ?_
        refine lv_iload hx hb dX0_costStreets_97 (lv_at hl 8 rfl) ?_
        refine lv_iload hx hb dX0_costStreets_99 (lv_at hl 7 rfl) ?_
        refine lv_iload hx hb dX0_costStreets_101 (lv_at hl 6 rfl) ?_
        obtain ⟨r1, hr1, h⟩ := xk_some h
        refine vx_VI (As := [.int x9, .int x8, .int x7]) (rest := []) (wr := [oX4 qm m_cornerCount m_streetCount m_guideCount m_bellCount m_hand m_handTold, rA (qm 8) cI 9 m_ends, rA (qm 9) cI 9 m_farEnds, rA (qm 10) cI 9 m_lengths, rA (qm 11) cI 4 m_paces, rA (qm 12) cI 4 m_fees, rA (qm 13) cI 4 m_knows]) (wn := [oX0 q v_minutes v_paid v_first, rA (q 1) cI 28 r1.2, oX4 qm m_cornerCount m_streetCount m_guideCount m_bellCount m_hand m_handTold, rA (qm 8) cI 9 m_ends, rA (qm 9) cI 9 m_farEnds, rA (qm 10) cI 9 m_lengths, rA (qm 11) cI 4 m_paces, rA (qm 12) cI 4 m_fees, rA (qm 13) cI 4 m_knows]) hFx (k_X0_lower l D cI cZ cT q H.size v_minutes v_paid v_first v_costs x9 x8 x7 r1 hr1) (cwV 3 hts gX0_costStreets_X0_lower rfl rfl rfl (by decide +kernel) ⟨Nat.le_of_ble_eq_true rfl, Nat.le_of_ble_eq_true rfl⟩) hK hP hD hS hA [0, 1] [2, 3, 4, 5, 6, 7, 8] [7, 8, 0, 1, 2, 3, 4, 5, 6] rfl rfl rfl rfl (by decide) rfl rfl 0 0 rfl rfl rfl hl.1 rfl (Nat.le_of_ble_eq_true rfl) dX0_costStreets_103 ⟨Nat.zero_le _, Nat.zero_le _⟩ (fun H locs hP hD hS => ?_)
        refine lv_if_eq (tgt := 112) hx hb dX0_costStreets_106 (by decide) (fun c2 => ?_) (fun c2 => ?_)
        · have h := (if_pos c2).symm.trans h
          refine lv_iinc (v := x5 + 1) (lv' := [(5, .int (x5 + 1)), (0, .ref (q 0)), (1, .ref (qm 0)), (2, .int x2), (3, .int x3), (4, .int x4), (7, .int x7), (8, .int x8), (9, .int x9)]) hx hb dX0_costStreets_112 hl (k := 5) rfl rfl (by decide) rfl (fun ls hl => ?_)
          refine lv_goto (tgt := 6) hx hb dX0_costStreets_115 (by decide) ?_
          exact ih6 r1.2 x2 x3 x4 (x5 + 1) H locs ls h hP hD hS (lv_sub hl [1, 2, 3, 4, 5, 0] rfl)
        · have h := (if_neg c2).symm.trans h
          refine lv_iconst (v := 1) hx hb dX0_costStreets_109 (by decide) ?_
          refine lv_istore (lv' := [(4, .int (1 : Int32)), (0, .ref (q 0)), (1, .ref (qm 0)), (2, .int x2), (3, .int x3), (5, .int x5), (7, .int x7), (8, .int x8), (9, .int x9)]) hx hb dX0_costStreets_110 hl (by decide) rfl (fun ls hl => ?_)
          refine lv_iinc (v := x5 + 1) (lv' := [(5, .int (x5 + 1)), (4, .int (1 : Int32)), (0, .ref (q 0)), (1, .ref (qm 0)), (2, .int x2), (3, .int x3), (7, .int x7), (8, .int x8), (9, .int x9)]) hx hb dX0_costStreets_112 hl (k := 5) rfl rfl (by decide) rfl (fun ls hl => ?_)
          refine lv_goto (tgt := 6) hx hb dX0_costStreets_115 (by decide) ?_
          exact ih6 r1.2 x2 x3 (1 : Int32) (x5 + 1) H locs ls h hP hD hS (lv_sub hl [2, 3, 4, 5, 1, 0] rfl)
      intro v_costs x2 x3 x4 x5 H locs ls h hP hD hS hl
      have h : f_X0_costStreets_L6b fu (f_X0_costStreets_L6 fu n6) v_costs m_streetCount m_guideCount m_ends m_farEnds m_lengths m_paces m_fees m_knows x2 x3 x4 x5 = some res := h
      unfold f_X0_costStreets_L6b at h
      refine lv_iload hx hb dX0_costStreets_6 (lv_at hl 5 rfl) ?_
      refine lv_aload_n hx hb dX0_costStreets_8 rfl (lv_at hl 1 rfl) ?_
      refine va_get (C := RX4) (T := TX4) (N := 15) (v := .int m_streetCount) hx hb hts iw4 hown hK hP 2 rfl rfl 1 (Nat.le_of_ble_eq_true rfl) lk36 (fun _ h9 => h9) rfl dX0_costStreets_9 ?_
      refine lv_icmp_ge (tgt := 118) hx hb dX0_costStreets_12 (by decide) (fun c3 => ?_) (fun c3 => ?_)
      · have h := (if_pos c3).symm.trans h
        refine lv_iload hx hb dX0_costStreets_118 (lv_at hl 4 rfl) ?_
        obtain ⟨hz4, h⟩ := xz_some h
        exact hret x4 v_costs H locs _ ls hz4 (Option.some.inj h) hP hD hS dX0_costStreets_120
      · have h := (if_neg c3).symm.trans h
        refine lv_aload_n hx hb dX0_costStreets_15 rfl (lv_at hl 1 rfl) ?_
        refine lv_iload_n hx hb dX0_costStreets_16 rfl (lv_at hl 2 rfl) ?_
        refine lv_iload hx hb dX0_costStreets_17 (lv_at hl 5 rfl) ?_
        obtain ⟨r5, hr5, h⟩ := xk_some h
        refine vx_VJ (As := [.int x2, .int x5]) (rest := []) hFx (k_X4_knowsStreet l D cI cZ cT qm H.size m_cornerCount m_streetCount m_guideCount m_bellCount m_hand m_handTold m_knows x2 x5 r5 hr5) (cwV 2 hts gX0_costStreets_X4_knowsStreet rfl rfl rfl (by decide +kernel) ⟨Nat.le_of_ble_eq_true rfl, Nat.le_of_ble_eq_true rfl⟩) hK hP hD hS hA [2, 8] rfl rfl 4 0 rfl rfl rfl hl.1 rfl (Nat.le_of_ble_eq_true rfl) dX0_costStreets_19 ⟨Nat.zero_le _, Nat.zero_le _⟩ (fun H locs hP hS => ?_)
        refine lv_if_ne (tgt := 28) hx hb dX0_costStreets_22 (by decide) (fun c6 => ?_) (fun c6 => ?_)
        · have h := (if_neg c6).symm.trans h
          refine lv_aload_n hx hb dX0_costStreets_28 rfl (lv_at hl 1 rfl) ?_
          refine lv_iload_n hx hb dX0_costStreets_29 rfl (lv_at hl 2 rfl) ?_
          refine lv_iload hx hb dX0_costStreets_30 (lv_at hl 5 rfl) ?_
          obtain ⟨r7, hr7, h⟩ := xk_some h
          refine vx_VJ (As := [.int x2, .int x5]) (rest := []) hFx (k_X4_ledMinutes l D cI cZ cT qm H.size m_cornerCount m_streetCount m_guideCount m_bellCount m_hand m_handTold m_lengths m_paces x2 x5 r7 hr7) (cwV 2 hts gX0_costStreets_X4_ledMinutes rfl rfl rfl (by decide +kernel) ⟨Nat.le_of_ble_eq_true rfl, Nat.le_of_ble_eq_true rfl⟩) hK hP hD hS hA [2, 5, 6] rfl rfl 4 0 rfl rfl rfl hl.1 rfl (Nat.le_of_ble_eq_true rfl) dX0_costStreets_32 ⟨Nat.zero_le _, Nat.zero_le _⟩ (fun H locs hP hS => ?_)
          refine lv_istore (lv' := [(6, .int r7), (0, .ref (q 0)), (1, .ref (qm 0)), (2, .int x2), (3, .int x3), (4, .int x4), (5, .int x5)]) hx hb dX0_costStreets_35 hl (by decide) rfl (fun ls hl => ?_)
          refine lv_iload hx hb dX0_costStreets_37 (lv_at hl 0 rfl) ?_
          refine lv_aload_n hx hb dX0_costStreets_39 rfl (lv_at hl 2 rfl) ?_
          refine va_get (C := RX4) (T := TX4) (N := 15) (v := .ref (qm 12)) hx hb hts iw4 hown hK hP 2 rfl rfl 11 (Nat.le_of_ble_eq_true rfl) lk47 (fun _ h9 => h9) rfl dX0_costStreets_40 ?_
          refine lv_iload_n hx hb dX0_costStreets_43 rfl (lv_at hl 3 rfl) ?_
          obtain ⟨hi8, h⟩ := xb_some h
          refine va_iald hx hb hK hP 7 0 rfl rfl hi8 dX0_costStreets_44 ?_
          refine lv_iload hx hb dX0_costStreets_45 (lv_at hl 0 rfl) ?_
          refine lv_imul hx hb dX0_costStreets_47 ?_
          refine lv_iload_n hx hb dX0_costStreets_48 rfl (lv_at hl 4 rfl) ?_
          obtain ⟨r9, hr9, h⟩ := xk_some h
          refine vx_SJ (As := [.int r7, .int ((m_fees x2.toNatClampNeg) * r7), .int x3]) (rest := []) hFx (k_X0_costOf l D cI cZ cT H.size r7 ((m_fees x2.toNatClampNeg) * r7) x3 r9 hr9) (vx_cwS 3 hts gX0_costStreets_X0_costOf rfl rfl rfl (by decide +kernel) ⟨Nat.le_of_ble_eq_true rfl, Nat.le_of_ble_eq_true rfl⟩) hK hP hD hS hA rfl hl.1 rfl (Nat.le_of_ble_eq_true rfl) dX0_costStreets_49 ⟨Nat.zero_le _, Nat.zero_le _⟩ (fun H locs hP hS => ?_)
          refine lv_istore (lv' := [(7, .int r9), (6, .int r7), (0, .ref (q 0)), (1, .ref (qm 0)), (2, .int x2), (3, .int x3), (4, .int x4), (5, .int x5)]) hx hb dX0_costStreets_52 hl (by decide) rfl (fun ls hl => ?_)
          refine lv_aload_n hx hb dX0_costStreets_54 rfl (lv_at hl 3 rfl) ?_
          refine va_get (C := RX4) (T := TX4) (N := 15) (v := .ref (qm 8)) hx hb hts iw4 hown hK hP 2 rfl rfl 7 (Nat.le_of_ble_eq_true rfl) lk54 (fun _ h9 => h9) rfl dX0_costStreets_55 ?_
          refine lv_iload hx hb dX0_costStreets_58 (lv_at hl 7 rfl) ?_
          obtain ⟨hi10, h⟩ := xb_some h
          refine va_iald hx hb hK hP 3 0 rfl rfl hi10 dX0_costStreets_60 ?_
          refine lv_iconst (v := 4) hx hb dX0_costStreets_61 (by decide) ?_
          refine lv_imul hx hb dX0_costStreets_62 ?_
          refine lv_iload_n hx hb dX0_costStreets_63 rfl (lv_at hl 4 rfl) ?_
          refine lv_iadd hx hb dX0_costStreets_64 ?_
          refine lv_istore (lv' := [(8, .int (((m_ends x5.toNatClampNeg) * (4 : Int32)) + x2)), (7, .int r9), (6, .int r7), (0, .ref (q 0)), (1, .ref (qm 0)), (2, .int x2), (3, .int x3), (4, .int x4), (5, .int x5)]) hx hb dX0_costStreets_65 hl (by decide) rfl (fun ls hl => ?_)
          refine lv_aload_n hx hb dX0_costStreets_67 rfl (lv_at hl 4 rfl) ?_
          refine va_get (C := RX4) (T := TX4) (N := 15) (v := .ref (qm 9)) hx hb hts iw4 hown hK hP 2 rfl rfl 8 (Nat.le_of_ble_eq_true rfl) lk57 (fun _ h9 => h9) rfl dX0_costStreets_68 ?_
          refine lv_iload hx hb dX0_costStreets_71 (lv_at hl 8 rfl) ?_
          obtain ⟨hi11, h⟩ := xb_some h
          refine va_iald hx hb hK hP 4 0 rfl rfl hi11 dX0_costStreets_73 ?_
          refine lv_iconst (v := 4) hx hb dX0_costStreets_74 (by decide) ?_
          refine lv_imul hx hb dX0_costStreets_75 ?_
          refine lv_iload_n hx hb dX0_costStreets_76 rfl (lv_at hl 5 rfl) ?_
          refine lv_iadd hx hb dX0_costStreets_77 ?_
          refine lv_istore (lv' := [(9, .int (((m_farEnds x5.toNatClampNeg) * (4 : Int32)) + x2)), (8, .int (((m_ends x5.toNatClampNeg) * (4 : Int32)) + x2)), (7, .int r9), (6, .int r7), (0, .ref (q 0)), (1, .ref (qm 0)), (2, .int x2), (3, .int x3), (4, .int x4), (5, .int x5)]) hx hb dX0_costStreets_78 hl (by decide) rfl (fun ls hl => ?_)
          refine lv_aload_n hx hb dX0_costStreets_80 rfl (lv_at hl 4 rfl) ?_
          refine lv_iload hx hb dX0_costStreets_81 (lv_at hl 1 rfl) ?_
          refine lv_iload hx hb dX0_costStreets_83 (lv_at hl 0 rfl) ?_
          refine lv_iload hx hb dX0_costStreets_85 (lv_at hl 2 rfl) ?_
          obtain ⟨r12, hr12, h⟩ := xk_some h
          refine vx_VI (As := [.int (((m_ends x5.toNatClampNeg) * (4 : Int32)) + x2), .int (((m_farEnds x5.toNatClampNeg) * (4 : Int32)) + x2), .int r9]) (rest := []) (wr := [oX4 qm m_cornerCount m_streetCount m_guideCount m_bellCount m_hand m_handTold, rA (qm 8) cI 9 m_ends, rA (qm 9) cI 9 m_farEnds, rA (qm 10) cI 9 m_lengths, rA (qm 11) cI 4 m_paces, rA (qm 12) cI 4 m_fees, rA (qm 13) cI 4 m_knows]) (wn := [oX0 q v_minutes v_paid v_first, rA (q 1) cI 28 r12.2, oX4 qm m_cornerCount m_streetCount m_guideCount m_bellCount m_hand m_handTold, rA (qm 8) cI 9 m_ends, rA (qm 9) cI 9 m_farEnds, rA (qm 10) cI 9 m_lengths, rA (qm 11) cI 4 m_paces, rA (qm 12) cI 4 m_fees, rA (qm 13) cI 4 m_knows]) hFx (k_X0_lower l D cI cZ cT q H.size v_minutes v_paid v_first v_costs (((m_ends x5.toNatClampNeg) * (4 : Int32)) + x2) (((m_farEnds x5.toNatClampNeg) * (4 : Int32)) + x2) r9 r12 hr12) (cwV 3 hts gX0_costStreets_X0_lower rfl rfl rfl (by decide +kernel) ⟨Nat.le_of_ble_eq_true rfl, Nat.le_of_ble_eq_true rfl⟩) hK hP hD hS hA [0, 1] [2, 3, 4, 5, 6, 7, 8] [7, 8, 0, 1, 2, 3, 4, 5, 6] rfl rfl rfl rfl (by decide) rfl rfl 0 0 rfl rfl rfl hl.1 rfl (Nat.le_of_ble_eq_true rfl) dX0_costStreets_87 ⟨Nat.zero_le _, Nat.zero_le _⟩ (fun H locs hP hD hS => ?_)
          refine lv_if_eq (tgt := 96) hx hb dX0_costStreets_90 (by decide) (fun c13 => ?_) (fun c13 => ?_)
          · have h := (if_pos c13).symm.trans h
            exact hJ96 r12.2 x2 x3 x4 x5 r9 (((m_ends x5.toNatClampNeg) * (4 : Int32)) + x2) (((m_farEnds x5.toNatClampNeg) * (4 : Int32)) + x2) H locs ls h hP hD hS (lv_sub hl [4, 5, 6, 7, 8, 9, 2, 1, 0] rfl)
          · have h := (if_neg c13).symm.trans h
            refine lv_iconst (v := 1) hx hb dX0_costStreets_93 (by decide) ?_
            refine lv_istore (lv' := [(4, .int (1 : Int32)), (9, .int (((m_farEnds x5.toNatClampNeg) * (4 : Int32)) + x2)), (8, .int (((m_ends x5.toNatClampNeg) * (4 : Int32)) + x2)), (7, .int r9), (6, .int r7), (0, .ref (q 0)), (1, .ref (qm 0)), (2, .int x2), (3, .int x3), (5, .int x5)]) hx hb dX0_costStreets_94 hl (by decide) rfl (fun ls hl => ?_)
            exact hJ96 r12.2 x2 x3 (1 : Int32) x5 r9 (((m_ends x5.toNatClampNeg) * (4 : Int32)) + x2) (((m_farEnds x5.toNatClampNeg) * (4 : Int32)) + x2) H locs ls h hP hD hS (lv_sub hl [5, 6, 7, 8, 0, 9, 3, 2, 1] rfl)
        · have h := (if_pos c6).symm.trans h
          refine lv_goto (tgt := 112) hx hb dX0_costStreets_25 (by decide) ?_
          refine lv_iinc (v := x5 + 1) (lv' := [(5, .int (x5 + 1)), (0, .ref (q 0)), (1, .ref (qm 0)), (2, .int x2), (3, .int x3), (4, .int x4)]) hx hb dX0_costStreets_112 hl (k := 5) rfl rfl (by decide) rfl (fun ls hl => ?_)
          refine lv_goto (tgt := 6) hx hb dX0_costStreets_115 (by decide) ?_
          exact ih6 v_costs x2 x3 x4 (x5 + 1) H locs ls h hP hD hS (lv_sub hl [1, 2, 3, 4, 5, 0] rfl)
  have h := hf
  unfold f_X0_costStreets at h
  obtain ⟨H, eH⟩ : ∃ H, H = s.heap := ⟨_, rfl⟩
  rw [← eH] at hP ⊢
  obtain ⟨locs, el⟩ : ∃ locs : List Loc, locs = [] := ⟨_, rfl⟩
  rw [← el] at hS ⊢
  have hS : va_S A s.heap H locs := by rw [eH]; exact hS
  refine lv_iconst (v := 0) hx hb dX0_costStreets_0 (by decide) ?_
  refine lv_istore (lv' := [(4, .int (0 : Int32)), (0, .ref (q 0)), (1, .ref (qm 0)), (2, .int x2), (3, .int x3)]) hx hb dX0_costStreets_1 hl (by decide) rfl (fun ls hl => ?_)
  refine lv_iconst (v := 0) hx hb dX0_costStreets_3 (by decide) ?_
  refine lv_istore (lv' := [(5, .int (0 : Int32)), (4, .int (0 : Int32)), (0, .ref (q 0)), (1, .ref (qm 0)), (2, .int x2), (3, .int x3)]) hx hb dX0_costStreets_4 hl (by decide) rfl (fun ls hl => ?_)
  exact hL6 fu v_costs x2 x3 (0 : Int32) (0 : Int32) H locs ls h hP hD hS (lv_sub hl [2, 3, 4, 5, 1, 0] rfl)
abbrev rm_X0_costHands : Room := { frames := 2, cells := 0, slots := 0, locals := 43 }
set_option maxHeartbeats 4000000 in
set_option maxRecDepth 100000 in
theorem k_X0_costHands (l : Launch) (D : va_G) (cI cZ cT : ClassId) (q : Nat → Nat) (qm : Nat → Nat) (sz : Nat) (v_minutes : Int32) (v_paid : Int32) (v_first : Int32) (m_cornerCount : Int32) (m_streetCount : Int32) (m_guideCount : Int32) (m_bellCount : Int32) (m_hand : Int32) (m_handTold : Int32) (v_costs : Nat → Int32) (m_his : Nat → Int32) (x2 : Int32) (x3 : Int32) (res : R_X0_costHands) (fu : Nat) (hf : f_X0_costHands fu v_costs m_cornerCount m_guideCount m_hand m_his x2 x3 = some res) : Met l yX0_costHands wsX0_costHands rm_X0_costHands (cPre D (tyz cI cZ cT) [.ref (q 0), .ref (qm 0), .int x2, .int x3] sz [oX0 q v_minutes v_paid v_first, rA (q 1) cI 28 v_costs, oX4 qm m_cornerCount m_streetCount m_guideCount m_bellCount m_hand m_handTold, rA (qm 14) cI 4 m_his]) (cPi D (tyz cI cZ cT) (fun (r : Int32) (u : (Nat → Int32)) => (r, u) = res) (fun u => [oX0 q v_minutes v_paid v_first, rA (q 1) cI 28 u, oX4 qm m_cornerCount m_streetCount m_guideCount m_bellCount m_hand m_handTold, rA (qm 14) cI 4 m_his]) [oX0 q v_minutes v_paid v_first, rA (q 1) cI 28 v_costs, oX4 qm m_cornerCount m_streetCount m_guideCount m_bellCount m_hand m_handTold, rA (qm 14) cI 4 m_his] sz) 0 0 (va_A [oX0 q v_minutes v_paid v_first, rA (q 1) cI 28 v_costs, oX4 qm m_cornerCount m_streetCount m_guideCount m_bellCount m_hand m_handTold, rA (qm 14) cI 4 m_his] sz) := by
  refine vx_meth_z (by decide) rfl (Nat.le_of_ble_eq_true rfl) ?_
  intro p e s m args below meth c A Q hx hb hml hown hts hK hP hD hA hS hret ls hl
  have hown : s.vm.findClass RX0 = some m.cls := hown
  have hl : lv_has ls 9 [(0, .ref (q 0)), (1, .ref (qm 0)), (2, .int x2), (3, .int x3)] := hl
  have hFx : CallFix p m c cX0_costHands 9 s args wsX0_costHands RX0 := ⟨hx, hb, hml, hown, hts⟩
  have lk19 := hts (.fieldLink RX0 19 "FogGuides$TownMap" "guideCount" "I") (by decide +kernel)
  have iw4 : ∀ w ∈ u_ws RX4 TX4 15, w ∈ wsX0_costHands := by decide +kernel
  have lk67 := hts (.fieldLink RX0 67 "FogGuides$TownMap" "cornerCount" "I") (by decide +kernel)
  have lk64 := hts (.fieldLink RX0 64 "FogGuides$TownMap" "hand" "I") (by decide +kernel)
  have hL17 : ∀ (n17 : Nat), ∀ (v_costs : (Nat → Int32)) (x2 : Int32) (x4 : Int32) (x5 : Int32) (x6 : Int32) (H : Heap) (locs : List Loc) (ls : Array Slot), f_X0_costHands_L17 fu n17 v_costs m_cornerCount m_guideCount m_hand m_his x2 x4 x5 x6 = some res → va_P D vwCl [oX0 q v_minutes v_paid v_first, rA (q 1) cI 28 v_costs, oX4 qm m_cornerCount m_streetCount m_guideCount m_bellCount m_hand m_handTold, rA (qm 14) cI 4 m_his] H → va_D A [oX0 q v_minutes v_paid v_first, rA (q 1) cI 28 v_costs, oX4 qm m_cornerCount m_streetCount m_guideCount m_bellCount m_hand m_handTold, rA (qm 14) cI 4 m_his] → va_S A s.heap H locs → lv_has ls 9 [(0, .ref (q 0)), (1, .ref (qm 0)), (2, .int x2), (4, .int x4), (5, .int x5), (6, .int x6)] → W p l e rm_X0_costHands s m args below meth c H locs 0 0 Q (F0 m 17 ls []) := by
    intro n17
    induction n17 with
    | zero =>
      intro v_costs x2 x4 x5 x6 H locs ls h hP hD hS hl
      cases (show (none : Option R_X0_costHands) = some res from h)
    | succ n17 ih17 =>
      have hL42 : ∀ (n42 : Nat), ∀ (v_costs : (Nat → Int32)) (x2 : Int32) (x4 : Int32) (x5 : Int32) (x6 : Int32) (x7 : Int32) (H : Heap) (locs : List Loc) (ls : Array Slot), f_X0_costHands_L42 fu (f_X0_costHands_L17 fu n17) n42 v_costs m_cornerCount m_guideCount m_hand m_his x2 x4 x5 x6 x7 = some res → va_P D vwCl [oX0 q v_minutes v_paid v_first, rA (q 1) cI 28 v_costs, oX4 qm m_cornerCount m_streetCount m_guideCount m_bellCount m_hand m_handTold, rA (qm 14) cI 4 m_his] H → va_D A [oX0 q v_minutes v_paid v_first, rA (q 1) cI 28 v_costs, oX4 qm m_cornerCount m_streetCount m_guideCount m_bellCount m_hand m_handTold, rA (qm 14) cI 4 m_his] → va_S A s.heap H locs → lv_has ls 9 [(0, .ref (q 0)), (1, .ref (qm 0)), (2, .int x2), (4, .int x4), (5, .int x5), (6, .int x6), (7, .int x7)] → W p l e rm_X0_costHands s m args below meth c H locs 0 0 Q (F0 m 42 ls []) := by
        intro n42
        induction n42 with
        | zero =>
          intro v_costs x2 x4 x5 x6 x7 H locs ls h hP hD hS hl
          cases (show (none : Option R_X0_costHands) = some res from h)
        | succ n42 ih42 =>
          intro v_costs x2 x4 x5 x6 x7 H locs ls h hP hD hS hl
          have h : f_X0_costHands_L42b fu (f_X0_costHands_L17 fu n17) (f_X0_costHands_L42 fu (f_X0_costHands_L17 fu n17) n42) v_costs m_cornerCount m_guideCount m_hand m_his x2 x4 x5 x6 x7 = some res := h
          unfold f_X0_costHands_L42b at h
          refine lv_iload hx hb dX0_costHands_42 (lv_at hl 6 rfl) ?_
          refine lv_aload_n hx hb dX0_costHands_44 rfl (lv_at hl 1 rfl) ?_
          refine va_get (C := RX4) (T := TX4) (N := 15) (v := .int m_guideCount) hx hb hts iw4 hown hK hP 2 rfl rfl 2 (Nat.le_of_ble_eq_true rfl) lk19 (fun _ h9 => h9) rfl dX0_costHands_45 ?_
          refine lv_icmp_ge (tgt := 95) hx hb dX0_costHands_48 (by decide) (fun c1 => ?_) (fun c1 => ?_)
          · have h := (if_pos c1).symm.trans h
            refine lv_iinc (v := x6 + 1) (lv' := [(6, .int (x6 + 1)), (0, .ref (q 0)), (1, .ref (qm 0)), (2, .int x2), (4, .int x4), (5, .int x5), (7, .int x7)]) hx hb dX0_costHands_95 hl (k := 5) rfl rfl (by decide) rfl (fun ls hl => ?_)
            refine lv_goto (tgt := 17) hx hb dX0_costHands_98 (by decide) ?_
            exact ih17 v_costs x2 x4 x5 (x6 + 1) H locs ls h hP hD hS (lv_sub hl [1, 2, 3, 4, 5, 0] rfl)
          · have h := (if_neg c1).symm.trans h
            refine lv_iload hx hb dX0_costHands_51 (lv_at hl 5 rfl) ?_
            refine lv_iconst (v := 4) hx hb dX0_costHands_53 (by decide) ?_
            refine lv_imul hx hb dX0_costHands_54 ?_
            refine lv_istore (lv' := [(8, .int (x6 * (4 : Int32))), (0, .ref (q 0)), (1, .ref (qm 0)), (2, .int x2), (4, .int x4), (5, .int x5), (6, .int x6), (7, .int x7)]) hx hb dX0_costHands_55 hl (by decide) rfl (fun ls hl => ?_)
            refine lv_aload_n hx hb dX0_costHands_57 rfl (lv_at hl 2 rfl) ?_
            refine lv_iload hx hb dX0_costHands_58 (lv_at hl 7 rfl) ?_
            refine lv_iload hx hb dX0_costHands_60 (lv_at hl 6 rfl) ?_
            obtain ⟨r2, hr2, h⟩ := xk_some h
            refine vx_VJ (As := [.int x7, .int x6]) (rest := []) hFx (k_X4_isHis l D cI cZ cT qm H.size m_cornerCount m_streetCount m_guideCount m_bellCount m_hand m_handTold m_his x7 x6 r2 hr2) (cwV 2 hts gX0_costHands_X4_isHis rfl rfl rfl (by decide +kernel) ⟨Nat.le_of_ble_eq_true rfl, Nat.le_of_ble_eq_true rfl⟩) hK hP hD hS hA [2, 3] rfl rfl 4 0 rfl rfl rfl hl.1 rfl (Nat.le_of_ble_eq_true rfl) dX0_costHands_62 ⟨Nat.zero_le _, Nat.zero_le _⟩ (fun H locs hP hS => ?_)
            refine lv_if_eq (tgt := 89) hx hb dX0_costHands_65 (by decide) (fun c3 => ?_) (fun c3 => ?_)
            · have h := (if_pos c3).symm.trans h
              refine lv_iinc (v := x7 + 1) (lv' := [(7, .int (x7 + 1)), (8, .int (x6 * (4 : Int32))), (0, .ref (q 0)), (1, .ref (qm 0)), (2, .int x2), (4, .int x4), (5, .int x5), (6, .int x6)]) hx hb dX0_costHands_89 hl (k := 7) rfl rfl (by decide) rfl (fun ls hl => ?_)
              refine lv_goto (tgt := 42) hx hb dX0_costHands_92 (by decide) ?_
              exact ih42 v_costs x2 x4 x5 x6 (x7 + 1) H locs ls h hP hD hS (lv_sub hl [2, 3, 4, 5, 6, 7, 0] rfl)
            · have h := (if_neg c3).symm.trans h
              refine lv_aload_n hx hb dX0_costHands_68 rfl (lv_at hl 1 rfl) ?_
              refine lv_iload hx hb dX0_costHands_69 (lv_at hl 0 rfl) ?_
              refine lv_iload_n hx hb dX0_costHands_71 rfl (lv_at hl 3 rfl) ?_
              refine lv_iadd hx hb dX0_costHands_72 ?_
              refine lv_iload hx hb dX0_costHands_73 (lv_at hl 0 rfl) ?_
              refine lv_iload hx hb dX0_costHands_75 (lv_at hl 7 rfl) ?_
              refine lv_iadd hx hb dX0_costHands_77 ?_
              refine lv_iload hx hb dX0_costHands_78 (lv_at hl 5 rfl) ?_
              obtain ⟨r4, hr4, h⟩ := xk_some h
              refine vx_VI (As := [.int ((x6 * (4 : Int32)) + x2), .int ((x6 * (4 : Int32)) + x7), .int x5]) (rest := []) (wr := [oX4 qm m_cornerCount m_streetCount m_guideCount m_bellCount m_hand m_handTold, rA (qm 14) cI 4 m_his]) (wn := [oX0 q v_minutes v_paid v_first, rA (q 1) cI 28 r4.2, oX4 qm m_cornerCount m_streetCount m_guideCount m_bellCount m_hand m_handTold, rA (qm 14) cI 4 m_his]) hFx (k_X0_lower l D cI cZ cT q H.size v_minutes v_paid v_first v_costs ((x6 * (4 : Int32)) + x2) ((x6 * (4 : Int32)) + x7) x5 r4 hr4) (cwV 3 hts gX0_costHands_X0_lower rfl rfl rfl (by decide +kernel) ⟨Nat.le_of_ble_eq_true rfl, Nat.le_of_ble_eq_true rfl⟩) hK hP hD hS hA [0, 1] [2, 3] [2, 3, 0, 1] rfl rfl rfl rfl (by decide) rfl rfl 0 0 rfl rfl rfl hl.1 rfl (Nat.le_of_ble_eq_true rfl) dX0_costHands_80 ⟨Nat.zero_le _, Nat.zero_le _⟩ (fun H locs hP hD hS => ?_)
              refine lv_if_eq (tgt := 89) hx hb dX0_costHands_83 (by decide) (fun c5 => ?_) (fun c5 => ?_)
              · have h := (if_pos c5).symm.trans h
                refine lv_iinc (v := x7 + 1) (lv' := [(7, .int (x7 + 1)), (8, .int (x6 * (4 : Int32))), (0, .ref (q 0)), (1, .ref (qm 0)), (2, .int x2), (4, .int x4), (5, .int x5), (6, .int x6)]) hx hb dX0_costHands_89 hl (k := 7) rfl rfl (by decide) rfl (fun ls hl => ?_)
                refine lv_goto (tgt := 42) hx hb dX0_costHands_92 (by decide) ?_
                exact ih42 r4.2 x2 x4 x5 x6 (x7 + 1) H locs ls h hP hD hS (lv_sub hl [2, 3, 4, 5, 6, 7, 0] rfl)
              · have h := (if_neg c5).symm.trans h
                refine lv_iconst (v := 1) hx hb dX0_costHands_86 (by decide) ?_
                refine lv_istore (lv' := [(4, .int (1 : Int32)), (8, .int (x6 * (4 : Int32))), (0, .ref (q 0)), (1, .ref (qm 0)), (2, .int x2), (5, .int x5), (6, .int x6), (7, .int x7)]) hx hb dX0_costHands_87 hl (by decide) rfl (fun ls hl => ?_)
                refine lv_iinc (v := x7 + 1) (lv' := [(7, .int (x7 + 1)), (4, .int (1 : Int32)), (8, .int (x6 * (4 : Int32))), (0, .ref (q 0)), (1, .ref (qm 0)), (2, .int x2), (5, .int x5), (6, .int x6)]) hx hb dX0_costHands_89 hl (k := 7) rfl rfl (by decide) rfl (fun ls hl => ?_)
                refine lv_goto (tgt := 42) hx hb dX0_costHands_92 (by decide) ?_
                exact ih42 r4.2 x2 (1 : Int32) x5 x6 (x7 + 1) H locs ls h hP hD hS (lv_sub hl [3, 4, 5, 1, 6, 7, 0] rfl)
      intro v_costs x2 x4 x5 x6 H locs ls h hP hD hS hl
      have h : f_X0_costHands_L17b fu (f_X0_costHands_L17 fu n17) v_costs m_cornerCount m_guideCount m_hand m_his x2 x4 x5 x6 = some res := h
      unfold f_X0_costHands_L17b at h
      refine lv_iload hx hb dX0_costHands_17 (lv_at hl 5 rfl) ?_
      refine lv_aload_n hx hb dX0_costHands_19 rfl (lv_at hl 1 rfl) ?_
      refine va_get (C := RX4) (T := TX4) (N := 15) (v := .int m_cornerCount) hx hb hts iw4 hown hK hP 2 rfl rfl 0 (Nat.le_of_ble_eq_true rfl) lk67 (fun _ h9 => h9) rfl dX0_costHands_20 ?_
      refine lv_icmp_ge (tgt := 101) hx hb dX0_costHands_23 (by decide) (fun c6 => ?_) (fun c6 => ?_)
      · have h := (if_pos c6).symm.trans h
        refine lv_iload hx hb dX0_costHands_101 (lv_at hl 3 rfl) ?_
        obtain ⟨hz7, h⟩ := xz_some h
        exact hret x4 v_costs H locs _ ls hz7 (Option.some.inj h) hP hD hS dX0_costHands_103
      · have h := (if_neg c6).symm.trans h
        refine lv_aload_n hx hb dX0_costHands_26 rfl (lv_at hl 1 rfl) ?_
        refine lv_iload_n hx hb dX0_costHands_27 rfl (lv_at hl 2 rfl) ?_
        refine lv_iload hx hb dX0_costHands_28 (lv_at hl 5 rfl) ?_
        obtain ⟨r8, hr8, h⟩ := xk_some h
        refine vx_VJ (As := [.int x2, .int x6]) (rest := []) hFx (k_X4_isHis l D cI cZ cT qm H.size m_cornerCount m_streetCount m_guideCount m_bellCount m_hand m_handTold m_his x2 x6 r8 hr8) (cwV 2 hts gX0_costHands_X4_isHis rfl rfl rfl (by decide +kernel) ⟨Nat.le_of_ble_eq_true rfl, Nat.le_of_ble_eq_true rfl⟩) hK hP hD hS hA [2, 3] rfl rfl 4 0 rfl rfl rfl hl.1 rfl (Nat.le_of_ble_eq_true rfl) dX0_costHands_30 ⟨Nat.zero_le _, Nat.zero_le _⟩ (fun H locs hP hS => ?_)
        refine lv_if_ne (tgt := 39) hx hb dX0_costHands_33 (by decide) (fun c9 => ?_) (fun c9 => ?_)
        · have h := (if_neg c9).symm.trans h
          refine lv_iconst (v := 0) hx hb dX0_costHands_39 (by decide) ?_
          refine lv_istore (lv' := [(7, .int (0 : Int32)), (0, .ref (q 0)), (1, .ref (qm 0)), (2, .int x2), (4, .int x4), (5, .int x5), (6, .int x6)]) hx hb dX0_costHands_40 hl (by decide) rfl (fun ls hl => ?_)
          exact hL42 fu v_costs x2 x4 x5 x6 (0 : Int32) H locs ls h hP hD hS (lv_sub hl [1, 2, 3, 4, 5, 6, 0] rfl)
        · have h := (if_pos c9).symm.trans h
          refine lv_goto (tgt := 95) hx hb dX0_costHands_36 (by decide) ?_
          refine lv_iinc (v := x6 + 1) (lv' := [(6, .int (x6 + 1)), (0, .ref (q 0)), (1, .ref (qm 0)), (2, .int x2), (4, .int x4), (5, .int x5)]) hx hb dX0_costHands_95 hl (k := 5) rfl rfl (by decide) rfl (fun ls hl => ?_)
          refine lv_goto (tgt := 17) hx hb dX0_costHands_98 (by decide) ?_
          exact ih17 v_costs x2 x4 x5 (x6 + 1) H locs ls h hP hD hS (lv_sub hl [1, 2, 3, 4, 5, 0] rfl)
  have h := hf
  unfold f_X0_costHands at h
  obtain ⟨H, eH⟩ : ∃ H, H = s.heap := ⟨_, rfl⟩
  rw [← eH] at hP ⊢
  obtain ⟨locs, el⟩ : ∃ locs : List Loc, locs = [] := ⟨_, rfl⟩
  rw [← el] at hS ⊢
  have hS : va_S A s.heap H locs := by rw [eH]; exact hS
  refine lv_iconst (v := 0) hx hb dX0_costHands_0 (by decide) ?_
  refine lv_istore (lv' := [(4, .int (0 : Int32)), (0, .ref (q 0)), (1, .ref (qm 0)), (2, .int x2), (3, .int x3)]) hx hb dX0_costHands_1 hl (by decide) rfl (fun ls hl => ?_)
  refine lv_aload_n hx hb dX0_costHands_3 rfl (lv_at hl 2 rfl) ?_
  refine va_get (C := RX4) (T := TX4) (N := 15) (v := .int m_hand) hx hb hts iw4 hown hK hP 2 rfl rfl 4 (Nat.le_of_ble_eq_true rfl) lk64 (fun _ h9 => h9) rfl dX0_costHands_4 ?_
  refine lv_iconst (v := 0) hx hb dX0_costHands_7 (by decide) ?_
  refine lv_iload_n hx hb dX0_costHands_8 rfl (lv_at hl 4 rfl) ?_
  obtain ⟨r10, hr10, h⟩ := xk_some h
  refine vx_SJ (As := [.int m_hand, .int (0 : Int32), .int x3]) (rest := []) hFx (k_X0_costOf l D cI cZ cT H.size m_hand (0 : Int32) x3 r10 hr10) (vx_cwS 3 hts gX0_costHands_X0_costOf rfl rfl rfl (by decide +kernel) ⟨Nat.le_of_ble_eq_true rfl, Nat.le_of_ble_eq_true rfl⟩) hK hP hD hS hA rfl hl.1 rfl (Nat.le_of_ble_eq_true rfl) dX0_costHands_9 ⟨Nat.zero_le _, Nat.zero_le _⟩ (fun H locs hP hS => ?_)
  refine lv_istore (lv' := [(5, .int r10), (4, .int (0 : Int32)), (0, .ref (q 0)), (1, .ref (qm 0)), (2, .int x2), (3, .int x3)]) hx hb dX0_costHands_12 hl (by decide) rfl (fun ls hl => ?_)
  refine lv_iconst (v := 0) hx hb dX0_costHands_14 (by decide) ?_
  refine lv_istore (lv' := [(6, .int (0 : Int32)), (5, .int r10), (4, .int (0 : Int32)), (0, .ref (q 0)), (1, .ref (qm 0)), (2, .int x2), (3, .int x3)]) hx hb dX0_costHands_15 hl (by decide) rfl (fun ls hl => ?_)
  exact hL17 fu v_costs x2 (0 : Int32) r10 (0 : Int32) H locs ls h hP hD hS (lv_sub hl [3, 4, 5, 2, 1, 0] rfl)
abbrev rm_X0_chooseFirst : Room := { frames := 2, cells := 0, slots := 0, locals := 43 }
set_option maxHeartbeats 4000000 in
set_option maxRecDepth 100000 in
theorem k_X0_chooseFirst (l : Launch) (D : va_G) (cI cZ cT : ClassId) (q : Nat → Nat) (qm : Nat → Nat) (sz : Nat) (v_minutes : Int32) (v_paid : Int32) (v_first : Int32) (m_cornerCount : Int32) (m_streetCount : Int32) (m_guideCount : Int32) (m_bellCount : Int32) (m_hand : Int32) (m_handTold : Int32) (v_costs : Nat → Int32) (m_his : Nat → Int32) (x2 : Int32) (x3 : Int32) (res : R_X0_chooseFirst) (fu : Nat) (hf : f_X0_chooseFirst fu v_costs v_minutes v_paid v_first m_cornerCount m_guideCount m_his x2 x3 = some res) : Met l yX0_chooseFirst wsX0_chooseFirst rm_X0_chooseFirst (cPre D (tyz cI cZ cT) [.ref (q 0), .ref (qm 0), .int x2, .int x3] sz [oX0 q v_minutes v_paid v_first, rA (q 1) cI 28 v_costs, oX4 qm m_cornerCount m_streetCount m_guideCount m_bellCount m_hand m_handTold, rA (qm 14) cI 4 m_his]) (cPv D (tyz cI cZ cT) (fun (u : Int32 × Int32 × Int32) => u = res) (fun u => [oX0 q u.1 u.2.1 u.2.2, rA (q 1) cI 28 v_costs, oX4 qm m_cornerCount m_streetCount m_guideCount m_bellCount m_hand m_handTold, rA (qm 14) cI 4 m_his]) [oX0 q v_minutes v_paid v_first, rA (q 1) cI 28 v_costs, oX4 qm m_cornerCount m_streetCount m_guideCount m_bellCount m_hand m_handTold, rA (qm 14) cI 4 m_his] sz) 0 0 (va_A [oX0 q v_minutes v_paid v_first, rA (q 1) cI 28 v_costs, oX4 qm m_cornerCount m_streetCount m_guideCount m_bellCount m_hand m_handTold, rA (qm 14) cI 4 m_his] sz) := by
  refine vx_meth_v (by decide) rfl (Nat.le_of_ble_eq_true rfl) ?_
  intro p e s m args below meth c A Q hx hb hml hown hts hK hP hD hA hS hret ls hl
  have hown : s.vm.findClass RX0 = some m.cls := hown
  have hl : lv_has ls 7 [(0, .ref (q 0)), (1, .ref (qm 0)), (2, .int x2), (3, .int x3)] := hl
  have hFx : CallFix p m c cX0_chooseFirst 7 s args wsX0_chooseFirst RX0 := ⟨hx, hb, hml, hown, hts⟩
  have lk76 := hts (.fieldLink RX0 76 "FogGuides$Routes" "minutes" "I") (by decide +kernel)
  have iw0 : ∀ w ∈ u_ws RX0 TX0 5, w ∈ wsX0_chooseFirst := by decide +kernel
  have lk73 := hts (.fieldLink RX0 73 "FogGuides$Routes" "first" "I") (by decide +kernel)
  have lk79 := hts (.fieldLink RX0 79 "FogGuides$Routes" "paid" "I") (by decide +kernel)
  have lk19 := hts (.fieldLink RX0 19 "FogGuides$TownMap" "guideCount" "I") (by decide +kernel)
  have iw4 : ∀ w ∈ u_ws RX4 TX4 15, w ∈ wsX0_chooseFirst := by decide +kernel
  have lk11 := hts (.fieldLink RX0 11 "FogGuides$Routes" "costs" "[I") (by decide +kernel)
  have hJ110 : ∀ (v_minutes : Int32) (v_paid : Int32) (v_first : Int32) (x3 : Int32) (x5 : Int32) (x6 : Int32) (z1 : Int32) (H : Heap) (locs : List Loc) (ls : Array Slot), f_X0_chooseFirst_J110 fu v_costs v_minutes v_paid v_first m_cornerCount m_guideCount m_his x3 x5 x6 z1 = some res → va_P D vwCl [oX0 q v_minutes v_paid v_first, rA (q 1) cI 28 v_costs, oX4 qm m_cornerCount m_streetCount m_guideCount m_bellCount m_hand m_handTold, rA (qm 14) cI 4 m_his] H → va_D A [oX0 q v_minutes v_paid v_first, rA (q 1) cI 28 v_costs, oX4 qm m_cornerCount m_streetCount m_guideCount m_bellCount m_hand m_handTold, rA (qm 14) cI 4 m_his] → va_S A s.heap H locs → lv_has ls 7 [(0, .ref (q 0)), (3, .int x3), (5, .int x5), (6, .int x6)] → W p l e rm_X0_chooseFirst s m args below meth c H locs 0 0 Q (F0 m 110 ls [.int z1, .ref (q 0)]) := by
    intro v_minutes v_paid v_first x3 x5 x6 z1 H locs ls h hP hD hS hl
    unfold f_X0_chooseFirst_J110 at h
    refine va_put (C := RX0) (T := TX0) (N := 5) (v := .int z1) (ty := .int) hx hb hts iw0 tyX0 tyX0_ok nmX0 hown hK hP hD hS 0 rfl rfl 2 (Nat.le_of_ble_eq_true rfl) lk76 (fun _ h9 => h9) rfl (by decide +kernel) rfl rfl (Nat.le_of_ble_eq_true rfl) dX0_chooseFirst_110 (fun H locs hP hD hS => ?_)
    have hP : va_P D vwCl [oX0 q z1 v_paid v_first, rA (q 1) cI 28 v_costs, oX4 qm m_cornerCount m_streetCount m_guideCount m_bellCount m_hand m_handTold, rA (qm 14) cI 4 m_his] H := hP
    have hD : va_D A [oX0 q z1 v_paid v_first, rA (q 1) cI 28 v_costs, oX4 qm m_cornerCount m_streetCount m_guideCount m_bellCount m_hand m_handTold, rA (qm 14) cI 4 m_his] := hD
    refine lv_aload_n hx hb dX0_chooseFirst_113 rfl (lv_at hl 0 rfl) ?_
    refine lv_aload_n hx hb dX0_chooseFirst_114 rfl (lv_at hl 0 rfl) ?_
    refine va_get (C := RX0) (T := TX0) (N := 5) (v := .int v_first) hx hb hts iw0 hown hK hP 0 rfl rfl 4 (Nat.le_of_ble_eq_true rfl) lk73 (fun _ h9 => h9) rfl dX0_chooseFirst_115 ?_
    refine lv_bipush (v := (-9)) hx hb dX0_chooseFirst_118 (by decide) ?_
    refine lv_icmp_ne (tgt := 128) hx hb dX0_chooseFirst_120 (by decide) (fun c1 => ?_) (fun c1 => ?_)
    · have h := (if_neg c1).symm.trans h
      refine lv_iload_n hx hb dX0_chooseFirst_128 rfl (lv_at hl 1 rfl) ?_
      refine lv_if_eq (tgt := 137) hx hb dX0_chooseFirst_129 (by decide) (fun c2 => ?_) (fun c2 => ?_)
      · have h := (if_pos c2).symm.trans h
        refine lv_iload hx hb dX0_chooseFirst_137 (lv_at hl 2 rfl) ?_
        refine va_put (C := RX0) (T := TX0) (N := 5) (v := .int x5) (ty := .int) hx hb hts iw0 tyX0 tyX0_ok nmX0 hown hK hP hD hS 0 rfl rfl 3 (Nat.le_of_ble_eq_true rfl) lk79 (fun _ h9 => h9) rfl (by decide +kernel) rfl rfl (Nat.le_of_ble_eq_true rfl) dX0_chooseFirst_139 (fun H locs hP hD hS => ?_)
        have hP : va_P D vwCl [oX0 q z1 x5 v_first, rA (q 1) cI 28 v_costs, oX4 qm m_cornerCount m_streetCount m_guideCount m_bellCount m_hand m_handTold, rA (qm 14) cI 4 m_his] H := hP
        have hD : va_D A [oX0 q z1 x5 v_first, rA (q 1) cI 28 v_costs, oX4 qm m_cornerCount m_streetCount m_guideCount m_bellCount m_hand m_handTold, rA (qm 14) cI 4 m_his] := hD
        exact hret (z1, x5, v_first) H locs _ ls (Option.some.inj h) hP hD hS dX0_chooseFirst_142
      · have h := (if_neg c2).symm.trans h
        refine lv_iload hx hb dX0_chooseFirst_132 (lv_at hl 3 rfl) ?_
        refine lv_goto (tgt := 139) hx hb dX0_chooseFirst_134 (by decide) ?_
        refine va_put (C := RX0) (T := TX0) (N := 5) (v := .int x6) (ty := .int) hx hb hts iw0 tyX0 tyX0_ok nmX0 hown hK hP hD hS 0 rfl rfl 3 (Nat.le_of_ble_eq_true rfl) lk79 (fun _ h9 => h9) rfl (by decide +kernel) rfl rfl (Nat.le_of_ble_eq_true rfl) dX0_chooseFirst_139 (fun H locs hP hD hS => ?_)
        have hP : va_P D vwCl [oX0 q z1 x6 v_first, rA (q 1) cI 28 v_costs, oX4 qm m_cornerCount m_streetCount m_guideCount m_bellCount m_hand m_handTold, rA (qm 14) cI 4 m_his] H := hP
        have hD : va_D A [oX0 q z1 x6 v_first, rA (q 1) cI 28 v_costs, oX4 qm m_cornerCount m_streetCount m_guideCount m_bellCount m_hand m_handTold, rA (qm 14) cI 4 m_his] := hD
        exact hret (z1, x6, v_first) H locs _ ls (Option.some.inj h) hP hD hS dX0_chooseFirst_142
    · have h := (if_pos c1).symm.trans h
      refine lv_bipush (v := (-9)) hx hb dX0_chooseFirst_123 (by decide) ?_
      refine lv_goto (tgt := 139) hx hb dX0_chooseFirst_125 (by decide) ?_
      refine va_put (C := RX0) (T := TX0) (N := 5) (v := .int (-9 : Int32)) (ty := .int) hx hb hts iw0 tyX0 tyX0_ok nmX0 hown hK hP hD hS 0 rfl rfl 3 (Nat.le_of_ble_eq_true rfl) lk79 (fun _ h9 => h9) rfl (by decide +kernel) rfl rfl (Nat.le_of_ble_eq_true rfl) dX0_chooseFirst_139 (fun H locs hP hD hS => ?_)
      have hP : va_P D vwCl [oX0 q z1 (-9 : Int32) v_first, rA (q 1) cI 28 v_costs, oX4 qm m_cornerCount m_streetCount m_guideCount m_bellCount m_hand m_handTold, rA (qm 14) cI 4 m_his] H := hP
      have hD : va_D A [oX0 q z1 (-9 : Int32) v_first, rA (q 1) cI 28 v_costs, oX4 qm m_cornerCount m_streetCount m_guideCount m_bellCount m_hand m_handTold, rA (qm 14) cI 4 m_his] := hD
      exact hret ((z1, (-9 : Int32), v_first)) H locs _ ls (Option.some.inj h) hP hD hS dX0_chooseFirst_142
  have hL13 : ∀ (n13 : Nat), ∀ (v_minutes : Int32) (v_paid : Int32) (v_first : Int32) (x2 : Int32) (x3 : Int32) (x4 : Int32) (x5 : Int32) (H : Heap) (locs : List Loc) (ls : Array Slot), f_X0_chooseFirst_L13 fu n13 v_costs v_minutes v_paid v_first m_cornerCount m_guideCount m_his x2 x3 x4 x5 = some res → va_P D vwCl [oX0 q v_minutes v_paid v_first, rA (q 1) cI 28 v_costs, oX4 qm m_cornerCount m_streetCount m_guideCount m_bellCount m_hand m_handTold, rA (qm 14) cI 4 m_his] H → va_D A [oX0 q v_minutes v_paid v_first, rA (q 1) cI 28 v_costs, oX4 qm m_cornerCount m_streetCount m_guideCount m_bellCount m_hand m_handTold, rA (qm 14) cI 4 m_his] → va_S A s.heap H locs → lv_has ls 7 [(0, .ref (q 0)), (1, .ref (qm 0)), (2, .int x2), (3, .int x3), (4, .int x4), (5, .int x5)] → W p l e rm_X0_chooseFirst s m args below meth c H locs 0 0 Q (F0 m 13 ls []) := by
    intro n13
    induction n13 with
    | zero =>
      intro v_minutes v_paid v_first x2 x3 x4 x5 H locs ls h hP hD hS hl
      cases (show (none : Option R_X0_chooseFirst) = some res from h)
    | succ n13 ih13 =>
      intro v_minutes v_paid v_first x2 x3 x4 x5 H locs ls h hP hD hS hl
      have h : f_X0_chooseFirst_L13b fu (f_X0_chooseFirst_L13 fu n13) v_costs v_minutes v_paid v_first m_cornerCount m_guideCount m_his x2 x3 x4 x5 = some res := h
      unfold f_X0_chooseFirst_L13b at h
      refine lv_iload hx hb dX0_chooseFirst_13 (lv_at hl 5 rfl) ?_
      refine lv_aload_n hx hb dX0_chooseFirst_15 rfl (lv_at hl 1 rfl) ?_
      refine va_get (C := RX4) (T := TX4) (N := 15) (v := .int m_guideCount) hx hb hts iw4 hown hK hP 2 rfl rfl 2 (Nat.le_of_ble_eq_true rfl) lk19 (fun _ h9 => h9) rfl dX0_chooseFirst_16 ?_
      refine lv_icmp_ge (tgt := 68) hx hb dX0_chooseFirst_19 (by decide) (fun c3 => ?_) (fun c3 => ?_)
      · have h := (if_pos c3).symm.trans h
        refine lv_iload hx hb dX0_chooseFirst_68 (lv_at hl 4 rfl) ?_
        refine lv_sipush (v := 10000) hx hb dX0_chooseFirst_70 (by decide) ?_
        refine lv_idiv hx hb dX0_chooseFirst_73 (by decide) ?_
        refine lv_istore (lv' := [(5, .int (x4 / (10000 : Int32))), (0, .ref (q 0)), (1, .ref (qm 0)), (2, .int x2), (3, .int x3), (4, .int x4)]) hx hb dX0_chooseFirst_74 hl (by decide) rfl (fun ls hl => ?_)
        refine lv_iload hx hb dX0_chooseFirst_76 (lv_at hl 5 rfl) ?_
        refine lv_sipush (v := 10000) hx hb dX0_chooseFirst_78 (by decide) ?_
        refine lv_irem hx hb dX0_chooseFirst_81 (by decide) ?_
        refine lv_istore (lv' := [(6, .int (x4 - x4 / (10000 : Int32) * (10000 : Int32))), (5, .int (x4 / (10000 : Int32))), (0, .ref (q 0)), (1, .ref (qm 0)), (2, .int x2), (3, .int x3), (4, .int x4)]) hx hb dX0_chooseFirst_82 hl (by decide) rfl (fun ls hl => ?_)
        refine lv_aload_n hx hb dX0_chooseFirst_84 rfl (lv_at hl 2 rfl) ?_
        refine lv_aload_n hx hb dX0_chooseFirst_85 rfl (lv_at hl 2 rfl) ?_
        refine va_get (C := RX0) (T := TX0) (N := 5) (v := .int v_first) hx hb hts iw0 hown hK hP 0 rfl rfl 4 (Nat.le_of_ble_eq_true rfl) lk73 (fun _ h9 => h9) rfl dX0_chooseFirst_86 ?_
        refine lv_bipush (v := (-9)) hx hb dX0_chooseFirst_89 (by decide) ?_
        refine lv_icmp_ne (tgt := 99) hx hb dX0_chooseFirst_91 (by decide) (fun c4 => ?_) (fun c4 => ?_)
        · have h := (if_neg c4).symm.trans h
          refine lv_iload_n hx hb dX0_chooseFirst_99 rfl (lv_at hl 5 rfl) ?_
          refine lv_if_eq (tgt := 108) hx hb dX0_chooseFirst_100 (by decide) (fun c5 => ?_) (fun c5 => ?_)
          · have h := (if_pos c5).symm.trans h
            refine lv_iload hx hb dX0_chooseFirst_108 (lv_at hl 0 rfl) ?_
            exact hJ110 v_minutes v_paid v_first x3 (x4 / (10000 : Int32)) (x4 - x4 / (10000 : Int32) * (10000 : Int32)) (x4 - x4 / (10000 : Int32) * (10000 : Int32)) H locs ls h hP hD hS (lv_sub hl [2, 5, 1, 0] rfl)
          · have h := (if_neg c5).symm.trans h
            refine lv_iload hx hb dX0_chooseFirst_103 (lv_at hl 1 rfl) ?_
            refine lv_goto (tgt := 110) hx hb dX0_chooseFirst_105 (by decide) ?_
            exact hJ110 v_minutes v_paid v_first x3 (x4 / (10000 : Int32)) (x4 - x4 / (10000 : Int32) * (10000 : Int32)) (x4 / (10000 : Int32)) H locs ls h hP hD hS (lv_sub hl [2, 5, 1, 0] rfl)
        · have h := (if_pos c4).symm.trans h
          refine lv_bipush (v := (-9)) hx hb dX0_chooseFirst_94 (by decide) ?_
          refine lv_goto (tgt := 110) hx hb dX0_chooseFirst_96 (by decide) ?_
          exact hJ110 v_minutes v_paid v_first x3 (x4 / (10000 : Int32)) (x4 - x4 / (10000 : Int32) * (10000 : Int32)) (-9 : Int32) H locs ls h hP hD hS (lv_sub hl [2, 5, 1, 0] rfl)
      · have h := (if_neg c3).symm.trans h
        refine lv_aload_n hx hb dX0_chooseFirst_22 rfl (lv_at hl 0 rfl) ?_
        refine va_get (C := RX0) (T := TX0) (N := 5) (v := .ref (q 1)) hx hb hts iw0 hown hK hP 0 rfl rfl 0 (Nat.le_of_ble_eq_true rfl) lk11 (fun _ h9 => h9) rfl dX0_chooseFirst_23 ?_
        refine lv_iload_n hx hb dX0_chooseFirst_26 rfl (lv_at hl 2 rfl) ?_
        refine lv_iconst (v := 4) hx hb dX0_chooseFirst_27 (by decide) ?_
        refine lv_imul hx hb dX0_chooseFirst_28 ?_
        refine lv_iload hx hb dX0_chooseFirst_29 (lv_at hl 5 rfl) ?_
        refine lv_iadd hx hb dX0_chooseFirst_31 ?_
        obtain ⟨hi6, h⟩ := xb_some h
        refine va_iald hx hb hK hP 1 0 rfl rfl hi6 dX0_chooseFirst_32 ?_
        refine lv_istore (lv' := [(6, .int (v_costs ((x2 * (4 : Int32)) + x5).toNatClampNeg)), (0, .ref (q 0)), (1, .ref (qm 0)), (2, .int x2), (3, .int x3), (4, .int x4), (5, .int x5)]) hx hb dX0_chooseFirst_33 hl (by decide) rfl (fun ls hl => ?_)
        refine lv_aload_n hx hb dX0_chooseFirst_35 rfl (lv_at hl 2 rfl) ?_
        refine lv_iload hx hb dX0_chooseFirst_36 (lv_at hl 6 rfl) ?_
        refine lv_iload_n hx hb dX0_chooseFirst_38 rfl (lv_at hl 3 rfl) ?_
        obtain ⟨r7, hr7, h⟩ := xk_some h
        refine vx_VJ (As := [.int x5, .int x2]) (rest := []) hFx (k_X4_isHis l D cI cZ cT qm H.size m_cornerCount m_streetCount m_guideCount m_bellCount m_hand m_handTold m_his x5 x2 r7 hr7) (cwV 2 hts gX0_chooseFirst_X4_isHis rfl rfl rfl (by decide +kernel) ⟨Nat.le_of_ble_eq_true rfl, Nat.le_of_ble_eq_true rfl⟩) hK hP hD hS hA [2, 3] rfl rfl 4 0 rfl rfl rfl hl.1 rfl (Nat.le_of_ble_eq_true rfl) dX0_chooseFirst_39 ⟨Nat.zero_le _, Nat.zero_le _⟩ (fun H locs hP hS => ?_)
        refine lv_if_eq (tgt := 62) hx hb dX0_chooseFirst_42 (by decide) (fun c8 => ?_) (fun c8 => ?_)
        · have h := (if_pos c8).symm.trans h
          refine lv_iinc (v := x5 + 1) (lv' := [(5, .int (x5 + 1)), (6, .int (v_costs ((x2 * (4 : Int32)) + x5).toNatClampNeg)), (0, .ref (q 0)), (1, .ref (qm 0)), (2, .int x2), (3, .int x3), (4, .int x4)]) hx hb dX0_chooseFirst_62 hl (k := 6) rfl rfl (by decide) rfl (fun ls hl => ?_)
          refine lv_goto (tgt := 13) hx hb dX0_chooseFirst_65 (by decide) ?_
          exact ih13 v_minutes v_paid v_first x2 x3 x4 (x5 + 1) H locs ls h hP hD hS (lv_sub hl [2, 3, 4, 5, 6, 0] rfl)
        · have h := (if_neg c8).symm.trans h
          refine lv_iload hx hb dX0_chooseFirst_45 (lv_at hl 0 rfl) ?_
          refine lv_iload hx hb dX0_chooseFirst_47 (lv_at hl 5 rfl) ?_
          refine lv_icmp_ge (tgt := 62) hx hb dX0_chooseFirst_49 (by decide) (fun c9 => ?_) (fun c9 => ?_)
          · have h := (if_pos c9).symm.trans h
            refine lv_iinc (v := x5 + 1) (lv' := [(5, .int (x5 + 1)), (6, .int (v_costs ((x2 * (4 : Int32)) + x5).toNatClampNeg)), (0, .ref (q 0)), (1, .ref (qm 0)), (2, .int x2), (3, .int x3), (4, .int x4)]) hx hb dX0_chooseFirst_62 hl (k := 6) rfl rfl (by decide) rfl (fun ls hl => ?_)
            refine lv_goto (tgt := 13) hx hb dX0_chooseFirst_65 (by decide) ?_
            exact ih13 v_minutes v_paid v_first x2 x3 x4 (x5 + 1) H locs ls h hP hD hS (lv_sub hl [2, 3, 4, 5, 6, 0] rfl)
          · have h := (if_neg c9).symm.trans h
            refine lv_iload hx hb dX0_chooseFirst_52 (lv_at hl 0 rfl) ?_
            refine lv_istore (lv' := [(4, .int (v_costs ((x2 * (4 : Int32)) + x5).toNatClampNeg)), (6, .int (v_costs ((x2 * (4 : Int32)) + x5).toNatClampNeg)), (0, .ref (q 0)), (1, .ref (qm 0)), (2, .int x2), (3, .int x3), (5, .int x5)]) hx hb dX0_chooseFirst_54 hl (by decide) rfl (fun ls hl => ?_)
            refine lv_aload_n hx hb dX0_chooseFirst_56 rfl (lv_at hl 2 rfl) ?_
            refine lv_iload hx hb dX0_chooseFirst_57 (lv_at hl 6 rfl) ?_
            refine va_put (C := RX0) (T := TX0) (N := 5) (v := .int x5) (ty := .int) hx hb hts iw0 tyX0 tyX0_ok nmX0 hown hK hP hD hS 0 rfl rfl 4 (Nat.le_of_ble_eq_true rfl) lk73 (fun _ h9 => h9) rfl (by decide +kernel) rfl rfl (Nat.le_of_ble_eq_true rfl) dX0_chooseFirst_59 (fun H locs hP hD hS => ?_)
            have hP : va_P D vwCl [oX0 q v_minutes v_paid x5, rA (q 1) cI 28 v_costs, oX4 qm m_cornerCount m_streetCount m_guideCount m_bellCount m_hand m_handTold, rA (qm 14) cI 4 m_his] H := hP
            have hD : va_D A [oX0 q v_minutes v_paid x5, rA (q 1) cI 28 v_costs, oX4 qm m_cornerCount m_streetCount m_guideCount m_bellCount m_hand m_handTold, rA (qm 14) cI 4 m_his] := hD
            refine lv_iinc (v := x5 + 1) (lv' := [(5, .int (x5 + 1)), (4, .int (v_costs ((x2 * (4 : Int32)) + x5).toNatClampNeg)), (6, .int (v_costs ((x2 * (4 : Int32)) + x5).toNatClampNeg)), (0, .ref (q 0)), (1, .ref (qm 0)), (2, .int x2), (3, .int x3)]) hx hb dX0_chooseFirst_62 hl (k := 6) rfl rfl (by decide) rfl (fun ls hl => ?_)
            refine lv_goto (tgt := 13) hx hb dX0_chooseFirst_65 (by decide) ?_
            exact ih13 v_minutes v_paid x5 x2 x3 (v_costs ((x2 * (4 : Int32)) + x5).toNatClampNeg) (x5 + 1) H locs ls h hP hD hS (lv_sub hl [3, 4, 5, 6, 1, 0] rfl)
  have h := hf
  unfold f_X0_chooseFirst at h
  obtain ⟨H, eH⟩ : ∃ H, H = s.heap := ⟨_, rfl⟩
  rw [← eH] at hP ⊢
  obtain ⟨locs, el⟩ : ∃ locs : List Loc, locs = [] := ⟨_, rfl⟩
  rw [← el] at hS ⊢
  have hS : va_S A s.heap H locs := by rw [eH]; exact hS
  refine lv_ldc (v := (1000000000)) hx hb hown (hts (.constant RX0 18 (1000000000)) (by decide +kernel)) dX0_chooseFirst_0 ?_
  refine lv_istore (lv' := [(4, .int (1000000000 : Int32)), (0, .ref (q 0)), (1, .ref (qm 0)), (2, .int x2), (3, .int x3)]) hx hb dX0_chooseFirst_2 hl (by decide) rfl (fun ls hl => ?_)
  refine lv_aload_n hx hb dX0_chooseFirst_4 rfl (lv_at hl 1 rfl) ?_
  refine lv_bipush (v := (-9)) hx hb dX0_chooseFirst_5 (by decide) ?_
  refine va_put (C := RX0) (T := TX0) (N := 5) (v := .int (-9 : Int32)) (ty := .int) hx hb hts iw0 tyX0 tyX0_ok nmX0 hown hK hP hD hS 0 rfl rfl 4 (Nat.le_of_ble_eq_true rfl) lk73 (fun _ h9 => h9) rfl (by decide +kernel) rfl rfl (Nat.le_of_ble_eq_true rfl) dX0_chooseFirst_7 (fun H locs hP hD hS => ?_)
  have hP : va_P D vwCl [oX0 q v_minutes v_paid (-9 : Int32), rA (q 1) cI 28 v_costs, oX4 qm m_cornerCount m_streetCount m_guideCount m_bellCount m_hand m_handTold, rA (qm 14) cI 4 m_his] H := hP
  have hD : va_D A [oX0 q v_minutes v_paid (-9 : Int32), rA (q 1) cI 28 v_costs, oX4 qm m_cornerCount m_streetCount m_guideCount m_bellCount m_hand m_handTold, rA (qm 14) cI 4 m_his] := hD
  refine lv_iconst (v := 0) hx hb dX0_chooseFirst_10 (by decide) ?_
  refine lv_istore (lv' := [(5, .int (0 : Int32)), (4, .int (1000000000 : Int32)), (0, .ref (q 0)), (1, .ref (qm 0)), (2, .int x2), (3, .int x3)]) hx hb dX0_chooseFirst_11 hl (by decide) rfl (fun ls hl => ?_)
  exact hL13 fu v_minutes v_paid (-9 : Int32) x2 x3 (1000000000 : Int32) (0 : Int32) H locs ls h hP hD hS (lv_sub hl [2, 3, 4, 5, 1, 0] rfl)
abbrev rm_X0_find : Room := { frames := 3, cells := 0, slots := 0, locals := 72 }
set_option maxHeartbeats 4000000 in
set_option maxRecDepth 100000 in
theorem k_X0_find (l : Launch) (D : va_G) (cI cZ cT : ClassId) (q : Nat → Nat) (qm : Nat → Nat) (sz : Nat) (v_minutes : Int32) (v_paid : Int32) (v_first : Int32) (m_cornerCount : Int32) (m_streetCount : Int32) (m_guideCount : Int32) (m_bellCount : Int32) (m_hand : Int32) (m_handTold : Int32) (v_costs : Nat → Int32) (m_ends : Nat → Int32) (m_farEnds : Nat → Int32) (m_lengths : Nat → Int32) (m_paces : Nat → Int32) (m_fees : Nat → Int32) (m_knows : Nat → Int32) (m_his : Nat → Int32) (x2 : Int32) (x3 : Int32) (x4 : Int32) (res : R_X0_find) (fu : Nat) (hf : f_X0_find fu v_costs v_minutes v_paid v_first m_cornerCount m_streetCount m_guideCount m_hand m_ends m_farEnds m_lengths m_paces m_fees m_knows m_his x2 x3 x4 = some res) : Met l yX0_find wsX0_find rm_X0_find (cPre D (tyz cI cZ cT) [.ref (q 0), .ref (qm 0), .int x2, .int x3, .int x4] sz [oX0 q v_minutes v_paid v_first, rA (q 1) cI 28 v_costs, oX4 qm m_cornerCount m_streetCount m_guideCount m_bellCount m_hand m_handTold, rA (qm 8) cI 9 m_ends, rA (qm 9) cI 9 m_farEnds, rA (qm 10) cI 9 m_lengths, rA (qm 11) cI 4 m_paces, rA (qm 12) cI 4 m_fees, rA (qm 13) cI 4 m_knows, rA (qm 14) cI 4 m_his]) (cPv D (tyz cI cZ cT) (fun (u : (Nat → Int32) × Int32 × Int32 × Int32) => u = res) (fun u => [oX0 q u.2.1 u.2.2.1 u.2.2.2, rA (q 1) cI 28 u.1, oX4 qm m_cornerCount m_streetCount m_guideCount m_bellCount m_hand m_handTold, rA (qm 8) cI 9 m_ends, rA (qm 9) cI 9 m_farEnds, rA (qm 10) cI 9 m_lengths, rA (qm 11) cI 4 m_paces, rA (qm 12) cI 4 m_fees, rA (qm 13) cI 4 m_knows, rA (qm 14) cI 4 m_his]) [oX0 q v_minutes v_paid v_first, rA (q 1) cI 28 v_costs, oX4 qm m_cornerCount m_streetCount m_guideCount m_bellCount m_hand m_handTold, rA (qm 8) cI 9 m_ends, rA (qm 9) cI 9 m_farEnds, rA (qm 10) cI 9 m_lengths, rA (qm 11) cI 4 m_paces, rA (qm 12) cI 4 m_fees, rA (qm 13) cI 4 m_knows, rA (qm 14) cI 4 m_his] sz) 0 0 (va_A [oX0 q v_minutes v_paid v_first, rA (q 1) cI 28 v_costs, oX4 qm m_cornerCount m_streetCount m_guideCount m_bellCount m_hand m_handTold, rA (qm 8) cI 9 m_ends, rA (qm 9) cI 9 m_farEnds, rA (qm 10) cI 9 m_lengths, rA (qm 11) cI 4 m_paces, rA (qm 12) cI 4 m_fees, rA (qm 13) cI 4 m_knows, rA (qm 14) cI 4 m_his] sz) := by
  refine vx_meth_v (by decide) rfl (Nat.le_of_ble_eq_true rfl) ?_
  intro p e s m args below meth c A Q hx hb hml hown hts hK hP hD hA hS hret ls hl
  have hown : s.vm.findClass RX0 = some m.cls := hown
  have hl : lv_has ls 8 [(0, .ref (q 0)), (1, .ref (qm 0)), (2, .int x2), (3, .int x3), (4, .int x4)] := hl
  have hFx : CallFix p m c cX0_find 8 s args wsX0_find RX0 := ⟨hx, hb, hml, hown, hts⟩
  have lk19 := hts (.fieldLink RX0 19 "FogGuides$TownMap" "guideCount" "I") (by decide +kernel)
  have iw4 : ∀ w ∈ u_ws RX4 TX4 15, w ∈ wsX0_find := by decide +kernel
  have lk11 := hts (.fieldLink RX0 11 "FogGuides$Routes" "costs" "[I") (by decide +kernel)
  have iw0 : ∀ w ∈ u_ws RX0 TX0 5, w ∈ wsX0_find := by decide +kernel
  have hJ112 : ∀ (v_costs : (Nat → Int32)) (v_minutes : Int32) (v_paid : Int32) (v_first : Int32) (x2 : Int32) (x4 : Int32) (H : Heap) (locs : List Loc) (ls : Array Slot), f_X0_find_J112 fu v_costs v_minutes v_paid v_first m_cornerCount m_streetCount m_guideCount m_hand m_ends m_farEnds m_lengths m_paces m_fees m_knows m_his x2 x4 = some res → va_P D vwCl [oX0 q v_minutes v_paid v_first, rA (q 1) cI 28 v_costs, oX4 qm m_cornerCount m_streetCount m_guideCount m_bellCount m_hand m_handTold, rA (qm 8) cI 9 m_ends, rA (qm 9) cI 9 m_farEnds, rA (qm 10) cI 9 m_lengths, rA (qm 11) cI 4 m_paces, rA (qm 12) cI 4 m_fees, rA (qm 13) cI 4 m_knows, rA (qm 14) cI 4 m_his] H → va_D A [oX0 q v_minutes v_paid v_first, rA (q 1) cI 28 v_costs, oX4 qm m_cornerCount m_streetCount m_guideCount m_bellCount m_hand m_handTold, rA (qm 8) cI 9 m_ends, rA (qm 9) cI 9 m_farEnds, rA (qm 10) cI 9 m_lengths, rA (qm 11) cI 4 m_paces, rA (qm 12) cI 4 m_fees, rA (qm 13) cI 4 m_knows, rA (qm 14) cI 4 m_his] → va_S A s.heap H locs → lv_has ls 8 [(0, .ref (q 0)), (1, .ref (qm 0)), (2, .int x2), (4, .int x4)] → W p l e rm_X0_find s m args below meth c H locs 0 0 Q (F0 m 112 ls []) := by
    intro v_costs v_minutes v_paid v_first x2 x4 H locs ls h hP hD hS hl
    unfold f_X0_find_J112 at h
    refine lv_aload_n hx hb dX0_find_112 rfl (lv_at hl 0 rfl) ?_
    refine lv_aload_n hx hb dX0_find_113 rfl (lv_at hl 1 rfl) ?_
    refine lv_iload_n hx hb dX0_find_114 rfl (lv_at hl 2 rfl) ?_
    refine lv_iload hx hb dX0_find_115 (lv_at hl 3 rfl) ?_
    obtain ⟨r1, hr1, h⟩ := xk_some h
    refine vx_VV (As := [.ref (qm 0), .int x2, .int x4]) (rest := []) (wr := [rA (qm 8) cI 9 m_ends, rA (qm 9) cI 9 m_farEnds, rA (qm 10) cI 9 m_lengths, rA (qm 11) cI 4 m_paces, rA (qm 12) cI 4 m_fees, rA (qm 13) cI 4 m_knows]) (wn := [oX0 q r1.1 r1.2.1 r1.2.2, rA (q 1) cI 28 v_costs, oX4 qm m_cornerCount m_streetCount m_guideCount m_bellCount m_hand m_handTold, rA (qm 8) cI 9 m_ends, rA (qm 9) cI 9 m_farEnds, rA (qm 10) cI 9 m_lengths, rA (qm 11) cI 4 m_paces, rA (qm 12) cI 4 m_fees, rA (qm 13) cI 4 m_knows, rA (qm 14) cI 4 m_his]) hFx (k_X0_chooseFirst l D cI cZ cT q qm H.size v_minutes v_paid v_first m_cornerCount m_streetCount m_guideCount m_bellCount m_hand m_handTold v_costs m_his x2 x4 r1 fu hr1) (cwV 3 hts gX0_find_X0_chooseFirst rfl rfl rfl (by decide +kernel) ⟨Nat.le_of_ble_eq_true rfl, Nat.le_of_ble_eq_true rfl⟩) hK hP hD hS hA [0, 1, 2, 9] [3, 4, 5, 6, 7, 8] [6, 7, 8, 0, 1, 2, 3, 4, 5, 9] rfl rfl rfl rfl (by decide) rfl rfl 0 0 rfl rfl rfl hl.1 rfl (Nat.le_of_ble_eq_true rfl) dX0_find_117 ⟨Nat.zero_le _, Nat.zero_le _⟩ (fun H locs hP hD hS => ?_)
    exact hret (v_costs, r1.1, r1.2.1, r1.2.2) H locs _ ls (Option.some.inj h) hP hD hS dX0_find_120
  have hL43 : ∀ (n43 : Nat), ∀ (v_costs : (Nat → Int32)) (v_minutes : Int32) (v_paid : Int32) (v_first : Int32) (x2 : Int32) (x4 : Int32) (x5 : Int32) (x6 : Int32) (H : Heap) (locs : List Loc) (ls : Array Slot), f_X0_find_L43 fu n43 v_costs v_minutes v_paid v_first m_cornerCount m_streetCount m_guideCount m_hand m_ends m_farEnds m_lengths m_paces m_fees m_knows m_his x2 x4 x5 x6 = some res → va_P D vwCl [oX0 q v_minutes v_paid v_first, rA (q 1) cI 28 v_costs, oX4 qm m_cornerCount m_streetCount m_guideCount m_bellCount m_hand m_handTold, rA (qm 8) cI 9 m_ends, rA (qm 9) cI 9 m_farEnds, rA (qm 10) cI 9 m_lengths, rA (qm 11) cI 4 m_paces, rA (qm 12) cI 4 m_fees, rA (qm 13) cI 4 m_knows, rA (qm 14) cI 4 m_his] H → va_D A [oX0 q v_minutes v_paid v_first, rA (q 1) cI 28 v_costs, oX4 qm m_cornerCount m_streetCount m_guideCount m_bellCount m_hand m_handTold, rA (qm 8) cI 9 m_ends, rA (qm 9) cI 9 m_farEnds, rA (qm 10) cI 9 m_lengths, rA (qm 11) cI 4 m_paces, rA (qm 12) cI 4 m_fees, rA (qm 13) cI 4 m_knows, rA (qm 14) cI 4 m_his] → va_S A s.heap H locs → lv_has ls 8 [(0, .ref (q 0)), (1, .ref (qm 0)), (2, .int x2), (4, .int x4), (5, .int x5), (6, .int x6)] → W p l e rm_X0_find s m args below meth c H locs 0 0 Q (F0 m 43 ls []) := by
    intro n43
    induction n43 with
    | zero =>
      intro v_costs v_minutes v_paid v_first x2 x4 x5 x6 H locs ls h hP hD hS hl
      cases (show (none : Option R_X0_find) = some res from h)
    | succ n43 ih43 =>
      have hL61 : ∀ (n61 : Nat), ∀ (v_costs : (Nat → Int32)) (v_minutes : Int32) (v_paid : Int32) (v_first : Int32) (x2 : Int32) (x4 : Int32) (x5 : Int32) (x6 : Int32) (x7 : Int32) (H : Heap) (locs : List Loc) (ls : Array Slot), f_X0_find_L61 fu (f_X0_find_L43 fu n43) n61 v_costs v_minutes v_paid v_first m_cornerCount m_streetCount m_guideCount m_hand m_ends m_farEnds m_lengths m_paces m_fees m_knows m_his x2 x4 x5 x6 x7 = some res → va_P D vwCl [oX0 q v_minutes v_paid v_first, rA (q 1) cI 28 v_costs, oX4 qm m_cornerCount m_streetCount m_guideCount m_bellCount m_hand m_handTold, rA (qm 8) cI 9 m_ends, rA (qm 9) cI 9 m_farEnds, rA (qm 10) cI 9 m_lengths, rA (qm 11) cI 4 m_paces, rA (qm 12) cI 4 m_fees, rA (qm 13) cI 4 m_knows, rA (qm 14) cI 4 m_his] H → va_D A [oX0 q v_minutes v_paid v_first, rA (q 1) cI 28 v_costs, oX4 qm m_cornerCount m_streetCount m_guideCount m_bellCount m_hand m_handTold, rA (qm 8) cI 9 m_ends, rA (qm 9) cI 9 m_farEnds, rA (qm 10) cI 9 m_lengths, rA (qm 11) cI 4 m_paces, rA (qm 12) cI 4 m_fees, rA (qm 13) cI 4 m_knows, rA (qm 14) cI 4 m_his] → va_S A s.heap H locs → lv_has ls 8 [(0, .ref (q 0)), (1, .ref (qm 0)), (2, .int x2), (4, .int x4), (5, .int x5), (6, .int x6), (7, .int x7)] → W p l e rm_X0_find s m args below meth c H locs 0 0 Q (F0 m 61 ls []) := by
        intro n61
        induction n61 with
        | zero =>
          intro v_costs v_minutes v_paid v_first x2 x4 x5 x6 x7 H locs ls h hP hD hS hl
          cases (show (none : Option R_X0_find) = some res from h)
        | succ n61 ih61 =>
          have hJ85 : ∀ (v_costs : (Nat → Int32)) (v_minutes : Int32) (v_paid : Int32) (v_first : Int32) (x2 : Int32) (x4 : Int32) (x5 : Int32) (x6 : Int32) (x7 : Int32) (H : Heap) (locs : List Loc) (ls : Array Slot), f_X0_find_J85 fu (f_X0_find_L43 fu n43) (f_X0_find_L61 fu (f_X0_find_L43 fu n43) n61) v_costs v_minutes v_paid v_first m_cornerCount m_streetCount m_guideCount m_hand m_ends m_farEnds m_lengths m_paces m_fees m_knows m_his x2 x4 x5 x6 x7 = some res → va_P D vwCl [oX0 q v_minutes v_paid v_first, rA (q 1) cI 28 v_costs, oX4 qm m_cornerCount m_streetCount m_guideCount m_bellCount m_hand m_handTold, rA (qm 8) cI 9 m_ends, rA (qm 9) cI 9 m_farEnds, rA (qm 10) cI 9 m_lengths, rA (qm 11) cI 4 m_paces, rA (qm 12) cI 4 m_fees, rA (qm 13) cI 4 m_knows, rA (qm 14) cI 4 m_his] H → va_D A [oX0 q v_minutes v_paid v_first, rA (q 1) cI 28 v_costs, oX4 qm m_cornerCount m_streetCount m_guideCount m_bellCount m_hand m_handTold, rA (qm 8) cI 9 m_ends, rA (qm 9) cI 9 m_farEnds, rA (qm 10) cI 9 m_lengths, rA (qm 11) cI 4 m_paces, rA (qm 12) cI 4 m_fees, rA (qm 13) cI 4 m_knows, rA (qm 14) cI 4 m_his] → va_S A s.heap H locs → lv_has ls 8 [(0, .ref (q 0)), (1, .ref (qm 0)), (2, .int x2), (4, .int x4), (5, .int x5), (6, .int x6), (7, .int x7)] → W p l e rm_X0_find s m args below meth c H locs 0 0 Q (F0 m 85 ls []) := by
            intro v_costs v_minutes v_paid v_first x2 x4 x5 x6 x7 H locs ls h hP hD hS hl
            unfold f_X0_find_J85 at h
            refine lv_aload_n hx hb dX0_find_85 rfl (lv_at hl 0 rfl) ?_
            refine lv_aload_n hx hb dX0_find_86 rfl (lv_at hl 1 rfl) ?_
            refine lv_iload hx hb dX0_find_87 (lv_at hl 6 rfl) ?_
            refine lv_iload hx hb dX0_find_89 (lv_at hl 3 rfl) ?_
            obtain ⟨r2, hr2, h⟩ := xk_some h
            refine vx_VI (As := [.ref (qm 0), .int x7, .int x4]) (rest := []) (wr := [rA (qm 8) cI 9 m_ends, rA (qm 9) cI 9 m_farEnds, rA (qm 10) cI 9 m_lengths, rA (qm 11) cI 4 m_paces, rA (qm 12) cI 4 m_fees, rA (qm 13) cI 4 m_knows]) (wn := [oX0 q v_minutes v_paid v_first, rA (q 1) cI 28 r2.2, oX4 qm m_cornerCount m_streetCount m_guideCount m_bellCount m_hand m_handTold, rA (qm 8) cI 9 m_ends, rA (qm 9) cI 9 m_farEnds, rA (qm 10) cI 9 m_lengths, rA (qm 11) cI 4 m_paces, rA (qm 12) cI 4 m_fees, rA (qm 13) cI 4 m_knows, rA (qm 14) cI 4 m_his]) hFx (k_X0_costHands l D cI cZ cT q qm H.size v_minutes v_paid v_first m_cornerCount m_streetCount m_guideCount m_bellCount m_hand m_handTold v_costs m_his x7 x4 r2 fu hr2) (cwV 3 hts gX0_find_X0_costHands rfl rfl rfl (by decide +kernel) ⟨Nat.le_of_ble_eq_true rfl, Nat.le_of_ble_eq_true rfl⟩) hK hP hD hS hA [0, 1, 2, 9] [3, 4, 5, 6, 7, 8] [6, 7, 8, 0, 1, 2, 3, 4, 5, 9] rfl rfl rfl rfl (by decide) rfl rfl 0 0 rfl rfl rfl hl.1 rfl (Nat.le_of_ble_eq_true rfl) dX0_find_91 ⟨Nat.zero_le _, Nat.zero_le _⟩ (fun H locs hP hD hS => ?_)
            refine lv_if_eq (tgt := 100) hx hb dX0_find_94 (by decide) (fun c3 => ?_) (fun c3 => ?_)
            · have h := (if_pos c3).symm.trans h
              refine lv_iinc (v := x7 + 1) (lv' := [(7, .int (x7 + 1)), (0, .ref (q 0)), (1, .ref (qm 0)), (2, .int x2), (4, .int x4), (5, .int x5), (6, .int x6)]) hx hb dX0_find_100 hl (k := 6) rfl rfl (by decide) rfl (fun ls hl => ?_)
              refine lv_goto (tgt := 61) hx hb dX0_find_103 (by decide) ?_
              exact ih61 r2.2 v_minutes v_paid v_first x2 x4 x5 x6 (x7 + 1) H locs ls h hP hD hS (lv_sub hl [1, 2, 3, 4, 5, 6, 0] rfl)
            · have h := (if_neg c3).symm.trans h
              refine lv_iconst (v := 1) hx hb dX0_find_97 (by decide) ?_
              refine lv_istore (lv' := [(5, .int (1 : Int32)), (0, .ref (q 0)), (1, .ref (qm 0)), (2, .int x2), (4, .int x4), (6, .int x6), (7, .int x7)]) hx hb dX0_find_98 hl (by decide) rfl (fun ls hl => ?_)
              refine lv_iinc (v := x7 + 1) (lv' := [(7, .int (x7 + 1)), (5, .int (1 : Int32)), (0, .ref (q 0)), (1, .ref (qm 0)), (2, .int x2), (4, .int x4), (6, .int x6)]) hx hb dX0_find_100 hl (k := 6) rfl rfl (by decide) rfl (fun ls hl => ?_)
              refine lv_goto (tgt := 61) hx hb dX0_find_103 (by decide) ?_
              exact ih61 r2.2 v_minutes v_paid v_first x2 x4 (1 : Int32) x6 (x7 + 1) H locs ls h hP hD hS (lv_sub hl [2, 3, 4, 5, 1, 6, 0] rfl)
          intro v_costs v_minutes v_paid v_first x2 x4 x5 x6 x7 H locs ls h hP hD hS hl
          have h : f_X0_find_L61b fu (f_X0_find_L43 fu n43) (f_X0_find_L61 fu (f_X0_find_L43 fu n43) n61) v_costs v_minutes v_paid v_first m_cornerCount m_streetCount m_guideCount m_hand m_ends m_farEnds m_lengths m_paces m_fees m_knows m_his x2 x4 x5 x6 x7 = some res := h
          unfold f_X0_find_L61b at h
          refine lv_iload hx hb dX0_find_61 (lv_at hl 6 rfl) ?_
          refine lv_aload_n hx hb dX0_find_63 rfl (lv_at hl 1 rfl) ?_
          refine va_get (C := RX4) (T := TX4) (N := 15) (v := .int m_guideCount) hx hb hts iw4 hown hK hP 2 rfl rfl 2 (Nat.le_of_ble_eq_true rfl) lk19 (fun _ h9 => h9) rfl dX0_find_64 ?_
          refine lv_icmp_ge (tgt := 106) hx hb dX0_find_67 (by decide) (fun c4 => ?_) (fun c4 => ?_)
          · have h := (if_pos c4).symm.trans h
            refine lv_iinc (v := x6 + 1) (lv' := [(6, .int (x6 + 1)), (0, .ref (q 0)), (1, .ref (qm 0)), (2, .int x2), (4, .int x4), (5, .int x5), (7, .int x7)]) hx hb dX0_find_106 hl (k := 5) rfl rfl (by decide) rfl (fun ls hl => ?_)
            refine lv_goto (tgt := 43) hx hb dX0_find_109 (by decide) ?_
            exact ih43 v_costs v_minutes v_paid v_first x2 x4 x5 (x6 + 1) H locs ls h hP hD hS (lv_sub hl [1, 2, 3, 4, 5, 0] rfl)
          · have h := (if_neg c4).symm.trans h
            refine lv_aload_n hx hb dX0_find_70 rfl (lv_at hl 0 rfl) ?_
            refine lv_aload_n hx hb dX0_find_71 rfl (lv_at hl 1 rfl) ?_
            refine lv_iload hx hb dX0_find_72 (lv_at hl 6 rfl) ?_
            refine lv_iload hx hb dX0_find_74 (lv_at hl 3 rfl) ?_
            obtain ⟨r5, hr5, h⟩ := xk_some h
            refine vx_VI (As := [.ref (qm 0), .int x7, .int x4]) (rest := []) (wr := [rA (qm 14) cI 4 m_his]) (wn := [oX0 q v_minutes v_paid v_first, rA (q 1) cI 28 r5.2, oX4 qm m_cornerCount m_streetCount m_guideCount m_bellCount m_hand m_handTold, rA (qm 8) cI 9 m_ends, rA (qm 9) cI 9 m_farEnds, rA (qm 10) cI 9 m_lengths, rA (qm 11) cI 4 m_paces, rA (qm 12) cI 4 m_fees, rA (qm 13) cI 4 m_knows, rA (qm 14) cI 4 m_his]) hFx (k_X0_costStreets l D cI cZ cT q qm H.size v_minutes v_paid v_first m_cornerCount m_streetCount m_guideCount m_bellCount m_hand m_handTold v_costs m_ends m_farEnds m_lengths m_paces m_fees m_knows x7 x4 r5 fu hr5) (cwV 3 hts gX0_find_X0_costStreets rfl rfl rfl (by decide +kernel) ⟨Nat.le_of_ble_eq_true rfl, Nat.le_of_ble_eq_true rfl⟩) hK hP hD hS hA [0, 1, 2, 3, 4, 5, 6, 7, 8] [9] [1, 2, 3, 4, 5, 6, 7, 8, 9, 0] rfl rfl rfl rfl (by decide) rfl rfl 0 0 rfl rfl rfl hl.1 rfl (Nat.le_of_ble_eq_true rfl) dX0_find_76 ⟨Nat.zero_le _, Nat.zero_le _⟩ (fun H locs hP hD hS => ?_)
            refine lv_if_eq (tgt := 85) hx hb dX0_find_79 (by decide) (fun c6 => ?_) (fun c6 => ?_)
            · have h := (if_pos c6).symm.trans h
              exact hJ85 r5.2 v_minutes v_paid v_first x2 x4 x5 x6 x7 H locs ls h hP hD hS (lv_sub hl [0, 1, 2, 3, 4, 5, 6] rfl)
            · have h := (if_neg c6).symm.trans h
              refine lv_iconst (v := 1) hx hb dX0_find_82 (by decide) ?_
              refine lv_istore (lv' := [(5, .int (1 : Int32)), (0, .ref (q 0)), (1, .ref (qm 0)), (2, .int x2), (4, .int x4), (6, .int x6), (7, .int x7)]) hx hb dX0_find_83 hl (by decide) rfl (fun ls hl => ?_)
              exact hJ85 r5.2 v_minutes v_paid v_first x2 x4 (1 : Int32) x6 x7 H locs ls h hP hD hS (lv_sub hl [1, 2, 3, 4, 0, 5, 6] rfl)
      intro v_costs v_minutes v_paid v_first x2 x4 x5 x6 H locs ls h hP hD hS hl
      have h : f_X0_find_L43b fu (f_X0_find_L43 fu n43) v_costs v_minutes v_paid v_first m_cornerCount m_streetCount m_guideCount m_hand m_ends m_farEnds m_lengths m_paces m_fees m_knows m_his x2 x4 x5 x6 = some res := h
      unfold f_X0_find_L43b at h
      refine lv_iload hx hb dX0_find_43 (lv_at hl 4 rfl) ?_
      refine lv_if_eq (tgt := 112) hx hb dX0_find_45 (by decide) (fun c7 => ?_) (fun c7 => ?_)
      · have h := (if_pos c7).symm.trans h
        exact hJ112 v_costs v_minutes v_paid v_first x2 x4 H locs ls h hP hD hS (lv_sub hl [0, 1, 2, 3] rfl)
      · have h := (if_neg c7).symm.trans h
        refine lv_iload hx hb dX0_find_48 (lv_at hl 5 rfl) ?_
        refine lv_bipush (v := 28) hx hb dX0_find_50 (by decide) ?_
        refine lv_icmp_ge (tgt := 112) hx hb dX0_find_52 (by decide) (fun c8 => ?_) (fun c8 => ?_)
        · have h := (if_pos c8).symm.trans h
          exact hJ112 v_costs v_minutes v_paid v_first x2 x4 H locs ls h hP hD hS (lv_sub hl [0, 1, 2, 3] rfl)
        · have h := (if_neg c8).symm.trans h
          refine lv_iconst (v := 0) hx hb dX0_find_55 (by decide) ?_
          refine lv_istore (lv' := [(5, .int (0 : Int32)), (0, .ref (q 0)), (1, .ref (qm 0)), (2, .int x2), (4, .int x4), (6, .int x6)]) hx hb dX0_find_56 hl (by decide) rfl (fun ls hl => ?_)
          refine lv_iconst (v := 0) hx hb dX0_find_58 (by decide) ?_
          refine lv_istore (lv' := [(7, .int (0 : Int32)), (5, .int (0 : Int32)), (0, .ref (q 0)), (1, .ref (qm 0)), (2, .int x2), (4, .int x4), (6, .int x6)]) hx hb dX0_find_59 hl (by decide) rfl (fun ls hl => ?_)
          exact hL61 fu v_costs v_minutes v_paid v_first x2 x4 (0 : Int32) x6 (0 : Int32) H locs ls h hP hD hS (lv_sub hl [2, 3, 4, 5, 1, 6, 0] rfl)
  have hL3 : ∀ (n3 : Nat), ∀ (v_costs : (Nat → Int32)) (v_minutes : Int32) (v_paid : Int32) (v_first : Int32) (x2 : Int32) (x3 : Int32) (x4 : Int32) (x5 : Int32) (H : Heap) (locs : List Loc) (ls : Array Slot), f_X0_find_L3 fu n3 v_costs v_minutes v_paid v_first m_cornerCount m_streetCount m_guideCount m_hand m_ends m_farEnds m_lengths m_paces m_fees m_knows m_his x2 x3 x4 x5 = some res → va_P D vwCl [oX0 q v_minutes v_paid v_first, rA (q 1) cI 28 v_costs, oX4 qm m_cornerCount m_streetCount m_guideCount m_bellCount m_hand m_handTold, rA (qm 8) cI 9 m_ends, rA (qm 9) cI 9 m_farEnds, rA (qm 10) cI 9 m_lengths, rA (qm 11) cI 4 m_paces, rA (qm 12) cI 4 m_fees, rA (qm 13) cI 4 m_knows, rA (qm 14) cI 4 m_his] H → va_D A [oX0 q v_minutes v_paid v_first, rA (q 1) cI 28 v_costs, oX4 qm m_cornerCount m_streetCount m_guideCount m_bellCount m_hand m_handTold, rA (qm 8) cI 9 m_ends, rA (qm 9) cI 9 m_farEnds, rA (qm 10) cI 9 m_lengths, rA (qm 11) cI 4 m_paces, rA (qm 12) cI 4 m_fees, rA (qm 13) cI 4 m_knows, rA (qm 14) cI 4 m_his] → va_S A s.heap H locs → lv_has ls 8 [(0, .ref (q 0)), (1, .ref (qm 0)), (2, .int x2), (3, .int x3), (4, .int x4), (5, .int x5)] → W p l e rm_X0_find s m args below meth c H locs 0 0 Q (F0 m 3 ls []) := by
    intro n3
    induction n3 with
    | zero =>
      intro v_costs v_minutes v_paid v_first x2 x3 x4 x5 H locs ls h hP hD hS hl
      cases (show (none : Option R_X0_find) = some res from h)
    | succ n3 ih3 =>
      intro v_costs v_minutes v_paid v_first x2 x3 x4 x5 H locs ls h hP hD hS hl
      have h : f_X0_find_L3b fu (f_X0_find_L3 fu n3) v_costs v_minutes v_paid v_first m_cornerCount m_streetCount m_guideCount m_hand m_ends m_farEnds m_lengths m_paces m_fees m_knows m_his x2 x3 x4 x5 = some res := h
      unfold f_X0_find_L3b at h
      refine lv_iload hx hb dX0_find_3 (lv_at hl 5 rfl) ?_
      refine lv_bipush (v := 28) hx hb dX0_find_5 (by decide) ?_
      refine lv_icmp_ge (tgt := 37) hx hb dX0_find_7 (by decide) (fun c9 => ?_) (fun c9 => ?_)
      · have h := (if_pos c9).symm.trans h
        refine lv_iconst (v := 1) hx hb dX0_find_37 (by decide) ?_
        refine lv_istore (lv' := [(5, .int (1 : Int32)), (0, .ref (q 0)), (1, .ref (qm 0)), (2, .int x2), (3, .int x3), (4, .int x4)]) hx hb dX0_find_38 hl (by decide) rfl (fun ls hl => ?_)
        refine lv_iconst (v := 0) hx hb dX0_find_40 (by decide) ?_
        refine lv_istore (lv' := [(6, .int (0 : Int32)), (5, .int (1 : Int32)), (0, .ref (q 0)), (1, .ref (qm 0)), (2, .int x2), (3, .int x3), (4, .int x4)]) hx hb dX0_find_41 hl (by decide) rfl (fun ls hl => ?_)
        exact hL43 fu v_costs v_minutes v_paid v_first x2 x4 (1 : Int32) (0 : Int32) H locs ls h hP hD hS (lv_sub hl [2, 3, 4, 6, 1, 0] rfl)
      · have h := (if_neg c9).symm.trans h
        refine lv_aload_n hx hb dX0_find_10 rfl (lv_at hl 0 rfl) ?_
        refine va_get (C := RX0) (T := TX0) (N := 5) (v := .ref (q 1)) hx hb hts iw0 hown hK hP 0 rfl rfl 0 (Nat.le_of_ble_eq_true rfl) lk11 (fun _ h9 => h9) rfl dX0_find_11 ?_
        refine lv_iload hx hb dX0_find_14 (lv_at hl 5 rfl) ?_
        refine lv_iload hx hb dX0_find_16 (lv_at hl 5 rfl) ?_
        refine lv_iconst (v := 4) hx hb dX0_find_18 (by decide) ?_
        refine lv_idiv hx hb dX0_find_19 (by decide) ?_
        refine lv_iload_n hx hb dX0_find_20 rfl (lv_at hl 3 rfl) ?_
        refine lv_icmp_ne (tgt := 28) hx hb dX0_find_21 (by decide) (fun c10 => ?_) (fun c10 => ?_)
        · have h := (if_neg c10).symm.trans h
          refine lv_ldc (v := (1000000000)) hx hb hown (hts (.constant RX0 18 (1000000000)) (by decide +kernel)) dX0_find_28 ?_
          obtain ⟨hi11, h⟩ := xb_some h
          refine va_iast hx hb hK hP hD hS 1 0 rfl rfl hi11 dX0_find_30 (fun H locs hP hD hS => ?_)
          have hP : va_P D vwCl [oX0 q v_minutes v_paid v_first, rA (q 1) cI 28 (upd v_costs x5.toNatClampNeg (1000000000 : Int32)), oX4 qm m_cornerCount m_streetCount m_guideCount m_bellCount m_hand m_handTold, rA (qm 8) cI 9 m_ends, rA (qm 9) cI 9 m_farEnds, rA (qm 10) cI 9 m_lengths, rA (qm 11) cI 4 m_paces, rA (qm 12) cI 4 m_fees, rA (qm 13) cI 4 m_knows, rA (qm 14) cI 4 m_his] H := hP
          have hD : va_D A [oX0 q v_minutes v_paid v_first, rA (q 1) cI 28 (upd v_costs x5.toNatClampNeg (1000000000 : Int32)), oX4 qm m_cornerCount m_streetCount m_guideCount m_bellCount m_hand m_handTold, rA (qm 8) cI 9 m_ends, rA (qm 9) cI 9 m_farEnds, rA (qm 10) cI 9 m_lengths, rA (qm 11) cI 4 m_paces, rA (qm 12) cI 4 m_fees, rA (qm 13) cI 4 m_knows, rA (qm 14) cI 4 m_his] := hD
          refine lv_iinc (v := x5 + 1) (lv' := [(5, .int (x5 + 1)), (0, .ref (q 0)), (1, .ref (qm 0)), (2, .int x2), (3, .int x3), (4, .int x4)]) hx hb dX0_find_31 hl (k := 5) rfl rfl (by decide) rfl (fun ls hl => ?_)
          refine lv_goto (tgt := 3) hx hb dX0_find_34 (by decide) ?_
          exact ih3 (upd v_costs x5.toNatClampNeg (1000000000 : Int32)) v_minutes v_paid v_first x2 x3 x4 (x5 + 1) H locs ls h hP hD hS (lv_sub hl [1, 2, 3, 4, 5, 0] rfl)
        · have h := (if_pos c10).symm.trans h
          refine lv_iconst (v := 0) hx hb dX0_find_24 (by decide) ?_
          refine lv_goto (tgt := 30) hx hb dX0_find_25 (by decide) ?_
          obtain ⟨hi12, h⟩ := xb_some h
          refine va_iast hx hb hK hP hD hS 1 0 rfl rfl hi12 dX0_find_30 (fun H locs hP hD hS => ?_)
          have hP : va_P D vwCl [oX0 q v_minutes v_paid v_first, rA (q 1) cI 28 (upd v_costs x5.toNatClampNeg (0 : Int32)), oX4 qm m_cornerCount m_streetCount m_guideCount m_bellCount m_hand m_handTold, rA (qm 8) cI 9 m_ends, rA (qm 9) cI 9 m_farEnds, rA (qm 10) cI 9 m_lengths, rA (qm 11) cI 4 m_paces, rA (qm 12) cI 4 m_fees, rA (qm 13) cI 4 m_knows, rA (qm 14) cI 4 m_his] H := hP
          have hD : va_D A [oX0 q v_minutes v_paid v_first, rA (q 1) cI 28 (upd v_costs x5.toNatClampNeg (0 : Int32)), oX4 qm m_cornerCount m_streetCount m_guideCount m_bellCount m_hand m_handTold, rA (qm 8) cI 9 m_ends, rA (qm 9) cI 9 m_farEnds, rA (qm 10) cI 9 m_lengths, rA (qm 11) cI 4 m_paces, rA (qm 12) cI 4 m_fees, rA (qm 13) cI 4 m_knows, rA (qm 14) cI 4 m_his] := hD
          refine lv_iinc (v := x5 + 1) (lv' := [(5, .int (x5 + 1)), (0, .ref (q 0)), (1, .ref (qm 0)), (2, .int x2), (3, .int x3), (4, .int x4)]) hx hb dX0_find_31 hl (k := 5) rfl rfl (by decide) rfl (fun ls hl => ?_)
          refine lv_goto (tgt := 3) hx hb dX0_find_34 (by decide) ?_
          exact ih3 (upd v_costs x5.toNatClampNeg (0 : Int32)) v_minutes v_paid v_first x2 x3 x4 (x5 + 1) H locs ls h hP hD hS (lv_sub hl [1, 2, 3, 4, 5, 0] rfl)
  have h := hf
  unfold f_X0_find at h
  obtain ⟨H, eH⟩ : ∃ H, H = s.heap := ⟨_, rfl⟩
  rw [← eH] at hP ⊢
  obtain ⟨locs, el⟩ : ∃ locs : List Loc, locs = [] := ⟨_, rfl⟩
  rw [← el] at hS ⊢
  have hS : va_S A s.heap H locs := by rw [eH]; exact hS
  refine lv_iconst (v := 0) hx hb dX0_find_0 (by decide) ?_
  refine lv_istore (lv' := [(5, .int (0 : Int32)), (0, .ref (q 0)), (1, .ref (qm 0)), (2, .int x2), (3, .int x3), (4, .int x4)]) hx hb dX0_find_1 hl (by decide) rfl (fun ls hl => ?_)
  exact hL3 fu v_costs v_minutes v_paid v_first x2 x3 x4 (0 : Int32) H locs ls h hP hD hS (lv_sub hl [1, 2, 3, 4, 5, 0] rfl)
abbrev rm_X0_walkOn : Room := { frames := 0, cells := 0, slots := 0, locals := 0 }
set_option maxHeartbeats 4000000 in
set_option maxRecDepth 100000 in
theorem k_X0_walkOn (l : Launch) (D : va_G) (cI cZ cT : ClassId) (q : Nat → Nat) (qm : Nat → Nat) (sz : Nat) (v_minutes : Int32) (v_paid : Int32) (v_first : Int32) (m_cornerCount : Int32) (m_streetCount : Int32) (m_guideCount : Int32) (m_bellCount : Int32) (m_hand : Int32) (m_handTold : Int32) (v_reached : Nat → Int32) (m_ends : Nat → Int32) (m_farEnds : Nat → Int32) (m_lengths : Nat → Int32) (x2 : Int32) (x3 : Int32) (res : R_X0_walkOn) (fu : Nat) (hf : f_X0_walkOn fu v_reached m_streetCount m_ends m_farEnds m_lengths x2 x3 = some res) : Met l yX0_walkOn wsX0_walkOn rm_X0_walkOn (cPre D (tyz cI cZ cT) [.ref (q 0), .ref (qm 0), .int x2, .int x3] sz [oX0 q v_minutes v_paid v_first, rA (q 2) cI 501 v_reached, oX4 qm m_cornerCount m_streetCount m_guideCount m_bellCount m_hand m_handTold, rA (qm 8) cI 9 m_ends, rA (qm 9) cI 9 m_farEnds, rA (qm 10) cI 9 m_lengths]) (cPv D (tyz cI cZ cT) (fun (u : (Nat → Int32)) => u = res) (fun u => [oX0 q v_minutes v_paid v_first, rA (q 2) cI 501 u, oX4 qm m_cornerCount m_streetCount m_guideCount m_bellCount m_hand m_handTold, rA (qm 8) cI 9 m_ends, rA (qm 9) cI 9 m_farEnds, rA (qm 10) cI 9 m_lengths]) [oX0 q v_minutes v_paid v_first, rA (q 2) cI 501 v_reached, oX4 qm m_cornerCount m_streetCount m_guideCount m_bellCount m_hand m_handTold, rA (qm 8) cI 9 m_ends, rA (qm 9) cI 9 m_farEnds, rA (qm 10) cI 9 m_lengths] sz) 0 0 (va_A [oX0 q v_minutes v_paid v_first, rA (q 2) cI 501 v_reached, oX4 qm m_cornerCount m_streetCount m_guideCount m_bellCount m_hand m_handTold, rA (qm 8) cI 9 m_ends, rA (qm 9) cI 9 m_farEnds, rA (qm 10) cI 9 m_lengths] sz) := by
  refine vx_meth_v (by decide) rfl (Nat.le_of_ble_eq_true rfl) ?_
  intro p e s m args below meth c A Q hx hb hml hown hts hK hP hD hA hS hret ls hl
  have hown : s.vm.findClass RX0 = some m.cls := hown
  have hl : lv_has ls 6 [(0, .ref (q 0)), (1, .ref (qm 0)), (2, .int x2), (3, .int x3)] := hl
  have hFx : CallFix p m c cX0_walkOn 6 s args wsX0_walkOn RX0 := ⟨hx, hb, hml, hown, hts⟩
  have lk15 := hts (.fieldLink RX0 15 "FogGuides$Routes" "reached" "[I") (by decide +kernel)
  have iw0 : ∀ w ∈ u_ws RX0 TX0 5, w ∈ wsX0_walkOn := by decide +kernel
  have lk57 := hts (.fieldLink RX0 57 "FogGuides$TownMap" "farEnds" "[I") (by decide +kernel)
  have iw4 : ∀ w ∈ u_ws RX4 TX4 15, w ∈ wsX0_walkOn := by decide +kernel
  have lk54 := hts (.fieldLink RX0 54 "FogGuides$TownMap" "ends" "[I") (by decide +kernel)
  have lk36 := hts (.fieldLink RX0 36 "FogGuides$TownMap" "streetCount" "I") (by decide +kernel)
  have lk90 := hts (.fieldLink RX0 90 "FogGuides$TownMap" "lengths" "[I") (by decide +kernel)
  have hL3 : ∀ (n3 : Nat), ∀ (v_reached : (Nat → Int32)) (x2 : Int32) (x3 : Int32) (x4 : Int32) (H : Heap) (locs : List Loc) (ls : Array Slot), f_X0_walkOn_L3 fu n3 v_reached m_streetCount m_ends m_farEnds m_lengths x2 x3 x4 = some res → va_P D vwCl [oX0 q v_minutes v_paid v_first, rA (q 2) cI 501 v_reached, oX4 qm m_cornerCount m_streetCount m_guideCount m_bellCount m_hand m_handTold, rA (qm 8) cI 9 m_ends, rA (qm 9) cI 9 m_farEnds, rA (qm 10) cI 9 m_lengths] H → va_D A [oX0 q v_minutes v_paid v_first, rA (q 2) cI 501 v_reached, oX4 qm m_cornerCount m_streetCount m_guideCount m_bellCount m_hand m_handTold, rA (qm 8) cI 9 m_ends, rA (qm 9) cI 9 m_farEnds, rA (qm 10) cI 9 m_lengths] → va_S A s.heap H locs → lv_has ls 6 [(0, .ref (q 0)), (1, .ref (qm 0)), (2, .int x2), (3, .int x3), (4, .int x4)] → W p l e rm_X0_walkOn s m args below meth c H locs 0 0 Q (F0 m 3 ls []) := by
    intro n3
    induction n3 with
    | zero =>
      intro v_reached x2 x3 x4 H locs ls h hP hD hS hl
      cases (show (none : Option R_X0_walkOn) = some res from h)
    | succ n3 ih3 =>
      have hJ84 : ∀ (v_reached : (Nat → Int32)) (x2 : Int32) (x3 : Int32) (x4 : Int32) (x5 : Int32) (H : Heap) (locs : List Loc) (ls : Array Slot), f_X0_walkOn_J84 fu (f_X0_walkOn_L3 fu n3) v_reached m_streetCount m_ends m_farEnds m_lengths x2 x3 x4 x5 = some res → va_P D vwCl [oX0 q v_minutes v_paid v_first, rA (q 2) cI 501 v_reached, oX4 qm m_cornerCount m_streetCount m_guideCount m_bellCount m_hand m_handTold, rA (qm 8) cI 9 m_ends, rA (qm 9) cI 9 m_farEnds, rA (qm 10) cI 9 m_lengths] H → va_D A [oX0 q v_minutes v_paid v_first, rA (q 2) cI 501 v_reached, oX4 qm m_cornerCount m_streetCount m_guideCount m_bellCount m_hand m_handTold, rA (qm 8) cI 9 m_ends, rA (qm 9) cI 9 m_farEnds, rA (qm 10) cI 9 m_lengths] → va_S A s.heap H locs → lv_has ls 6 [(0, .ref (q 0)), (1, .ref (qm 0)), (2, .int x2), (3, .int x3), (4, .int x4), (5, .int x5)] → W p l e rm_X0_walkOn s m args below meth c H locs 0 0 Q (F0 m 84 ls []) := by
        intro v_reached x2 x3 x4 x5 H locs ls h hP hD hS hl
        unfold f_X0_walkOn_J84 at h
        refine lv_aload_n hx hb dX0_walkOn_84 rfl (lv_at hl 0 rfl) ?_
        refine va_get (C := RX0) (T := TX0) (N := 5) (v := .ref (q 2)) hx hb hts iw0 hown hK hP 0 rfl rfl 1 (Nat.le_of_ble_eq_true rfl) lk15 (fun _ h9 => h9) rfl dX0_walkOn_85 ?_
        refine lv_iload_n hx hb dX0_walkOn_88 rfl (lv_at hl 2 rfl) ?_
        obtain ⟨hi1, h⟩ := xb_some h
        refine va_iald hx hb hK hP 1 0 rfl rfl hi1 dX0_walkOn_89 ?_
        refine lv_aload_n hx hb dX0_walkOn_90 rfl (lv_at hl 1 rfl) ?_
        refine va_get (C := RX4) (T := TX4) (N := 15) (v := .ref (qm 9)) hx hb hts iw4 hown hK hP 2 rfl rfl 8 (Nat.le_of_ble_eq_true rfl) lk57 (fun _ h9 => h9) rfl dX0_walkOn_91 ?_
        refine lv_iload hx hb dX0_walkOn_94 (lv_at hl 4 rfl) ?_
        obtain ⟨hi2, h⟩ := xb_some h
        refine va_iald hx hb hK hP 4 0 rfl rfl hi2 dX0_walkOn_96 ?_
        refine lv_ishr hx hb dX0_walkOn_97 ?_
        refine lv_iconst (v := 1) hx hb dX0_walkOn_98 (by decide) ?_
        refine lv_iand hx hb dX0_walkOn_99 ?_
        refine lv_iconst (v := 1) hx hb dX0_walkOn_100 (by decide) ?_
        refine lv_icmp_ne (tgt := 123) hx hb dX0_walkOn_101 (by decide) (fun c3 => ?_) (fun c3 => ?_)
        · have h := (if_neg c3).symm.trans h
          refine lv_iinc (v := x4 + 1) (lv' := [(4, .int (x4 + 1)), (0, .ref (q 0)), (1, .ref (qm 0)), (2, .int x2), (3, .int x3), (5, .int x5)]) hx hb dX0_walkOn_123 hl (k := 4) rfl rfl (by decide) rfl (fun ls hl => ?_)
          refine lv_goto (tgt := 3) hx hb dX0_walkOn_126 (by decide) ?_
          exact ih3 v_reached x2 x3 (x4 + 1) H locs ls h hP hD hS (lv_sub hl [1, 2, 3, 4, 0] rfl)
        · have h := (if_pos c3).symm.trans h
          refine lv_aload_n hx hb dX0_walkOn_104 rfl (lv_at hl 0 rfl) ?_
          refine va_get (C := RX0) (T := TX0) (N := 5) (v := .ref (q 2)) hx hb hts iw0 hown hK hP 0 rfl rfl 1 (Nat.le_of_ble_eq_true rfl) lk15 (fun _ h9 => h9) rfl dX0_walkOn_105 ?_
          refine lv_iload hx hb dX0_walkOn_108 (lv_at hl 5 rfl) ?_
          refine lv_dup2_11 hx hb dX0_walkOn_110 rfl rfl ?_
          obtain ⟨hi4, h⟩ := xb_some h
          refine va_iald hx hb hK hP 1 0 rfl rfl hi4 dX0_walkOn_111 ?_
          refine lv_iconst (v := 1) hx hb dX0_walkOn_112 (by decide) ?_
          refine lv_aload_n hx hb dX0_walkOn_113 rfl (lv_at hl 1 rfl) ?_
          refine va_get (C := RX4) (T := TX4) (N := 15) (v := .ref (qm 8)) hx hb hts iw4 hown hK hP 2 rfl rfl 7 (Nat.le_of_ble_eq_true rfl) lk54 (fun _ h9 => h9) rfl dX0_walkOn_114 ?_
          refine lv_iload hx hb dX0_walkOn_117 (lv_at hl 4 rfl) ?_
          obtain ⟨hi5, h⟩ := xb_some h
          refine va_iald hx hb hK hP 3 0 rfl rfl hi5 dX0_walkOn_119 ?_
          refine lv_ishl hx hb dX0_walkOn_120 ?_
          refine lv_ior hx hb dX0_walkOn_121 ?_
          obtain ⟨hi6, h⟩ := xb_some h
          refine va_iast hx hb hK hP hD hS 1 0 rfl rfl hi6 dX0_walkOn_122 (fun H locs hP hD hS => ?_)
          have hP : va_P D vwCl [oX0 q v_minutes v_paid v_first, rA (q 2) cI 501 (upd v_reached x5.toNatClampNeg ((v_reached x5.toNatClampNeg) ||| ((1 : Int32) <<< ((m_ends x4.toNatClampNeg) &&& 31)))), oX4 qm m_cornerCount m_streetCount m_guideCount m_bellCount m_hand m_handTold, rA (qm 8) cI 9 m_ends, rA (qm 9) cI 9 m_farEnds, rA (qm 10) cI 9 m_lengths] H := hP
          have hD : va_D A [oX0 q v_minutes v_paid v_first, rA (q 2) cI 501 (upd v_reached x5.toNatClampNeg ((v_reached x5.toNatClampNeg) ||| ((1 : Int32) <<< ((m_ends x4.toNatClampNeg) &&& 31)))), oX4 qm m_cornerCount m_streetCount m_guideCount m_bellCount m_hand m_handTold, rA (qm 8) cI 9 m_ends, rA (qm 9) cI 9 m_farEnds, rA (qm 10) cI 9 m_lengths] := hD
          refine lv_iinc (v := x4 + 1) (lv' := [(4, .int (x4 + 1)), (0, .ref (q 0)), (1, .ref (qm 0)), (2, .int x2), (3, .int x3), (5, .int x5)]) hx hb dX0_walkOn_123 hl (k := 4) rfl rfl (by decide) rfl (fun ls hl => ?_)
          refine lv_goto (tgt := 3) hx hb dX0_walkOn_126 (by decide) ?_
          exact ih3 (upd v_reached x5.toNatClampNeg ((v_reached x5.toNatClampNeg) ||| ((1 : Int32) <<< ((m_ends x4.toNatClampNeg) &&& 31)))) x2 x3 (x4 + 1) H locs ls h hP hD hS (lv_sub hl [1, 2, 3, 4, 0] rfl)
      intro v_reached x2 x3 x4 H locs ls h hP hD hS hl
      have h : f_X0_walkOn_L3b fu (f_X0_walkOn_L3 fu n3) v_reached m_streetCount m_ends m_farEnds m_lengths x2 x3 x4 = some res := h
      unfold f_X0_walkOn_L3b at h
      refine lv_iload hx hb dX0_walkOn_3 (lv_at hl 4 rfl) ?_
      refine lv_aload_n hx hb dX0_walkOn_5 rfl (lv_at hl 1 rfl) ?_
      refine va_get (C := RX4) (T := TX4) (N := 15) (v := .int m_streetCount) hx hb hts iw4 hown hK hP 2 rfl rfl 1 (Nat.le_of_ble_eq_true rfl) lk36 (fun _ h9 => h9) rfl dX0_walkOn_6 ?_
      refine lv_icmp_ge (tgt := 129) hx hb dX0_walkOn_9 (by decide) (fun c7 => ?_) (fun c7 => ?_)
      · have h := (if_pos c7).symm.trans h
        exact hret v_reached H locs _ ls (Option.some.inj h) hP hD hS dX0_walkOn_129
      · have h := (if_neg c7).symm.trans h
        refine lv_iload_n hx hb dX0_walkOn_12 rfl (lv_at hl 2 rfl) ?_
        refine lv_aload_n hx hb dX0_walkOn_13 rfl (lv_at hl 1 rfl) ?_
        refine va_get (C := RX4) (T := TX4) (N := 15) (v := .ref (qm 10)) hx hb hts iw4 hown hK hP 2 rfl rfl 9 (Nat.le_of_ble_eq_true rfl) lk90 (fun _ h9 => h9) rfl dX0_walkOn_14 ?_
        refine lv_iload hx hb dX0_walkOn_17 (lv_at hl 4 rfl) ?_
        obtain ⟨hi8, h⟩ := xb_some h
        refine va_iald hx hb hK hP 5 0 rfl rfl hi8 dX0_walkOn_19 ?_
        refine lv_iadd hx hb dX0_walkOn_20 ?_
        refine lv_istore (lv' := [(5, .int (x2 + (m_lengths x4.toNatClampNeg))), (0, .ref (q 0)), (1, .ref (qm 0)), (2, .int x2), (3, .int x3), (4, .int x4)]) hx hb dX0_walkOn_21 hl (by decide) rfl (fun ls hl => ?_)
        refine lv_aload_n hx hb dX0_walkOn_23 rfl (lv_at hl 2 rfl) ?_
        refine va_get (C := RX4) (T := TX4) (N := 15) (v := .ref (qm 10)) hx hb hts iw4 hown hK hP 2 rfl rfl 9 (Nat.le_of_ble_eq_true rfl) lk90 (fun _ h9 => h9) rfl dX0_walkOn_24 ?_
        refine lv_iload hx hb dX0_walkOn_27 (lv_at hl 5 rfl) ?_
        obtain ⟨hi9, h⟩ := xb_some h
        refine va_iald hx hb hK hP 5 0 rfl rfl hi9 dX0_walkOn_29 ?_
        refine lv_iload_n hx hb dX0_walkOn_30 rfl (lv_at hl 4 rfl) ?_
        refine lv_icmp_gt (tgt := 123) hx hb dX0_walkOn_31 (by decide) (fun c10 => ?_) (fun c10 => ?_)
        · have h := (if_pos c10).symm.trans h
          refine lv_iinc (v := x4 + 1) (lv' := [(4, .int (x4 + 1)), (5, .int (x2 + (m_lengths x4.toNatClampNeg))), (0, .ref (q 0)), (1, .ref (qm 0)), (2, .int x2), (3, .int x3)]) hx hb dX0_walkOn_123 hl (k := 5) rfl rfl (by decide) rfl (fun ls hl => ?_)
          refine lv_goto (tgt := 3) hx hb dX0_walkOn_126 (by decide) ?_
          exact ih3 v_reached x2 x3 (x4 + 1) H locs ls h hP hD hS (lv_sub hl [2, 3, 4, 5, 0] rfl)
        · have h := (if_neg c10).symm.trans h
          refine lv_iload hx hb dX0_walkOn_34 (lv_at hl 0 rfl) ?_
          refine lv_sipush (v := 500) hx hb dX0_walkOn_36 (by decide) ?_
          refine lv_icmp_le (tgt := 45) hx hb dX0_walkOn_39 (by decide) (fun c11 => ?_) (fun c11 => ?_)
          · have h := (if_pos c11).symm.trans h
            refine lv_aload_n hx hb dX0_walkOn_45 rfl (lv_at hl 1 rfl) ?_
            refine va_get (C := RX0) (T := TX0) (N := 5) (v := .ref (q 2)) hx hb hts iw0 hown hK hP 0 rfl rfl 1 (Nat.le_of_ble_eq_true rfl) lk15 (fun _ h9 => h9) rfl dX0_walkOn_46 ?_
            refine lv_iload_n hx hb dX0_walkOn_49 rfl (lv_at hl 3 rfl) ?_
            obtain ⟨hi12, h⟩ := xb_some h
            refine va_iald hx hb hK hP 1 0 rfl rfl hi12 dX0_walkOn_50 ?_
            refine lv_aload_n hx hb dX0_walkOn_51 rfl (lv_at hl 2 rfl) ?_
            refine va_get (C := RX4) (T := TX4) (N := 15) (v := .ref (qm 8)) hx hb hts iw4 hown hK hP 2 rfl rfl 7 (Nat.le_of_ble_eq_true rfl) lk54 (fun _ h9 => h9) rfl dX0_walkOn_52 ?_
            refine lv_iload hx hb dX0_walkOn_55 (lv_at hl 5 rfl) ?_
            obtain ⟨hi13, h⟩ := xb_some h
            refine va_iald hx hb hK hP 3 0 rfl rfl hi13 dX0_walkOn_57 ?_
            refine lv_ishr hx hb dX0_walkOn_58 ?_
            refine lv_iconst (v := 1) hx hb dX0_walkOn_59 (by decide) ?_
            refine lv_iand hx hb dX0_walkOn_60 ?_
            refine lv_iconst (v := 1) hx hb dX0_walkOn_61 (by decide) ?_
            refine lv_icmp_ne (tgt := 84) hx hb dX0_walkOn_62 (by decide) (fun c14 => ?_) (fun c14 => ?_)
            · have h := (if_neg c14).symm.trans h
              exact hJ84 v_reached x2 x3 x4 (x2 + (m_lengths x4.toNatClampNeg)) H locs ls h hP hD hS (lv_sub hl [1, 2, 3, 4, 5, 0] rfl)
            · have h := (if_pos c14).symm.trans h
              refine lv_aload_n hx hb dX0_walkOn_65 rfl (lv_at hl 1 rfl) ?_
              refine va_get (C := RX0) (T := TX0) (N := 5) (v := .ref (q 2)) hx hb hts iw0 hown hK hP 0 rfl rfl 1 (Nat.le_of_ble_eq_true rfl) lk15 (fun _ h9 => h9) rfl dX0_walkOn_66 ?_
              refine lv_iload hx hb dX0_walkOn_69 (lv_at hl 0 rfl) ?_
              refine lv_dup2_11 hx hb dX0_walkOn_71 rfl rfl ?_
              obtain ⟨hi15, h⟩ := xb_some h
              refine va_iald hx hb hK hP 1 0 rfl rfl hi15 dX0_walkOn_72 ?_
              refine lv_iconst (v := 1) hx hb dX0_walkOn_73 (by decide) ?_
              refine lv_aload_n hx hb dX0_walkOn_74 rfl (lv_at hl 2 rfl) ?_
              refine va_get (C := RX4) (T := TX4) (N := 15) (v := .ref (qm 9)) hx hb hts iw4 hown hK hP 2 rfl rfl 8 (Nat.le_of_ble_eq_true rfl) lk57 (fun _ h9 => h9) rfl dX0_walkOn_75 ?_
              refine lv_iload hx hb dX0_walkOn_78 (lv_at hl 5 rfl) ?_
              obtain ⟨hi16, h⟩ := xb_some h
              refine va_iald hx hb hK hP 4 0 rfl rfl hi16 dX0_walkOn_80 ?_
              refine lv_ishl hx hb dX0_walkOn_81 ?_
              refine lv_ior hx hb dX0_walkOn_82 ?_
              obtain ⟨hi17, h⟩ := xb_some h
              refine va_iast hx hb hK hP hD hS 1 0 rfl rfl hi17 dX0_walkOn_83 (fun H locs hP hD hS => ?_)
              have hP : va_P D vwCl [oX0 q v_minutes v_paid v_first, rA (q 2) cI 501 (upd v_reached (x2 + (m_lengths x4.toNatClampNeg)).toNatClampNeg ((v_reached (x2 + (m_lengths x4.toNatClampNeg)).toNatClampNeg) ||| ((1 : Int32) <<< ((m_farEnds x4.toNatClampNeg) &&& 31)))), oX4 qm m_cornerCount m_streetCount m_guideCount m_bellCount m_hand m_handTold, rA (qm 8) cI 9 m_ends, rA (qm 9) cI 9 m_farEnds, rA (qm 10) cI 9 m_lengths] H := hP
              have hD : va_D A [oX0 q v_minutes v_paid v_first, rA (q 2) cI 501 (upd v_reached (x2 + (m_lengths x4.toNatClampNeg)).toNatClampNeg ((v_reached (x2 + (m_lengths x4.toNatClampNeg)).toNatClampNeg) ||| ((1 : Int32) <<< ((m_farEnds x4.toNatClampNeg) &&& 31)))), oX4 qm m_cornerCount m_streetCount m_guideCount m_bellCount m_hand m_handTold, rA (qm 8) cI 9 m_ends, rA (qm 9) cI 9 m_farEnds, rA (qm 10) cI 9 m_lengths] := hD
              exact hJ84 (upd v_reached (x2 + (m_lengths x4.toNatClampNeg)).toNatClampNeg ((v_reached (x2 + (m_lengths x4.toNatClampNeg)).toNatClampNeg) ||| ((1 : Int32) <<< ((m_farEnds x4.toNatClampNeg) &&& 31)))) x2 x3 x4 (x2 + (m_lengths x4.toNatClampNeg)) H locs ls h hP hD hS (lv_sub hl [1, 2, 3, 4, 5, 0] rfl)
          · have h := (if_neg c11).symm.trans h
            refine lv_goto (tgt := 123) hx hb dX0_walkOn_42 (by decide) ?_
            refine lv_iinc (v := x4 + 1) (lv' := [(4, .int (x4 + 1)), (5, .int (x2 + (m_lengths x4.toNatClampNeg))), (0, .ref (q 0)), (1, .ref (qm 0)), (2, .int x2), (3, .int x3)]) hx hb dX0_walkOn_123 hl (k := 5) rfl rfl (by decide) rfl (fun ls hl => ?_)
            refine lv_goto (tgt := 3) hx hb dX0_walkOn_126 (by decide) ?_
            exact ih3 v_reached x2 x3 (x4 + 1) H locs ls h hP hD hS (lv_sub hl [2, 3, 4, 5, 0] rfl)
  have h := hf
  unfold f_X0_walkOn at h
  obtain ⟨H, eH⟩ : ∃ H, H = s.heap := ⟨_, rfl⟩
  rw [← eH] at hP ⊢
  obtain ⟨locs, el⟩ : ∃ locs : List Loc, locs = [] := ⟨_, rfl⟩
  rw [← el] at hS ⊢
  have hS : va_S A s.heap H locs := by rw [eH]; exact hS
  refine lv_iconst (v := 0) hx hb dX0_walkOn_0 (by decide) ?_
  refine lv_istore (lv' := [(4, .int (0 : Int32)), (0, .ref (q 0)), (1, .ref (qm 0)), (2, .int x2), (3, .int x3)]) hx hb dX0_walkOn_1 hl (by decide) rfl (fun ls hl => ?_)
  exact hL3 fu v_reached x2 x3 (0 : Int32) H locs ls h hP hD hS (lv_sub hl [1, 2, 3, 4, 0] rfl)
abbrev rm_X0_minutesAlone : Room := { frames := 2, cells := 0, slots := 0, locals := 43 }
set_option maxHeartbeats 4000000 in
set_option maxRecDepth 100000 in
theorem k_X0_minutesAlone (l : Launch) (D : va_G) (cI cZ cT : ClassId) (q : Nat → Nat) (qm : Nat → Nat) (sz : Nat) (v_minutes : Int32) (v_paid : Int32) (v_first : Int32) (m_cornerCount : Int32) (m_streetCount : Int32) (m_guideCount : Int32) (m_bellCount : Int32) (m_hand : Int32) (m_handTold : Int32) (v_reached : Nat → Int32) (m_ends : Nat → Int32) (m_farEnds : Nat → Int32) (m_lengths : Nat → Int32) (m_bells : Nat → Int32) (x2 : Int32) (x3 : Int32) (x4 : Int32) (res : R_X0_minutesAlone) (fu : Nat) (hf : f_X0_minutesAlone fu v_reached m_streetCount m_bellCount m_ends m_farEnds m_lengths m_bells x2 x3 x4 = some res) : Met l yX0_minutesAlone wsX0_minutesAlone rm_X0_minutesAlone (cPre D (tyz cI cZ cT) [.ref (q 0), .ref (qm 0), .int x2, .int x3, .int x4] sz [oX0 q v_minutes v_paid v_first, rA (q 2) cI 501 v_reached, oX4 qm m_cornerCount m_streetCount m_guideCount m_bellCount m_hand m_handTold, rA (qm 8) cI 9 m_ends, rA (qm 9) cI 9 m_farEnds, rA (qm 10) cI 9 m_lengths, rA (qm 15) cI 8 m_bells]) (cPi D (tyz cI cZ cT) (fun (r : Int32) (u : (Nat → Int32)) => (r, u) = res) (fun u => [oX0 q v_minutes v_paid v_first, rA (q 2) cI 501 u, oX4 qm m_cornerCount m_streetCount m_guideCount m_bellCount m_hand m_handTold, rA (qm 8) cI 9 m_ends, rA (qm 9) cI 9 m_farEnds, rA (qm 10) cI 9 m_lengths, rA (qm 15) cI 8 m_bells]) [oX0 q v_minutes v_paid v_first, rA (q 2) cI 501 v_reached, oX4 qm m_cornerCount m_streetCount m_guideCount m_bellCount m_hand m_handTold, rA (qm 8) cI 9 m_ends, rA (qm 9) cI 9 m_farEnds, rA (qm 10) cI 9 m_lengths, rA (qm 15) cI 8 m_bells] sz) 0 0 (va_A [oX0 q v_minutes v_paid v_first, rA (q 2) cI 501 v_reached, oX4 qm m_cornerCount m_streetCount m_guideCount m_bellCount m_hand m_handTold, rA (qm 8) cI 9 m_ends, rA (qm 9) cI 9 m_farEnds, rA (qm 10) cI 9 m_lengths, rA (qm 15) cI 8 m_bells] sz) := by
  refine vx_meth_i (by decide) rfl (Nat.le_of_ble_eq_true rfl) ?_
  intro p e s m args below meth c A Q hx hb hml hown hts hK hP hD hA hS hret ls hl
  have hown : s.vm.findClass RX0 = some m.cls := hown
  have hl : lv_has ls 6 [(0, .ref (q 0)), (1, .ref (qm 0)), (2, .int x2), (3, .int x3), (4, .int x4)] := hl
  have hFx : CallFix p m c cX0_minutesAlone 6 s args wsX0_minutesAlone RX0 := ⟨hx, hb, hml, hown, hts⟩
  have lk15 := hts (.fieldLink RX0 15 "FogGuides$Routes" "reached" "[I") (by decide +kernel)
  have iw0 : ∀ w ∈ u_ws RX0 TX0 5, w ∈ wsX0_minutesAlone := by decide +kernel
  have hL37 : ∀ (n37 : Nat), ∀ (v_reached : (Nat → Int32)) (x3 : Int32) (x4 : Int32) (x5 : Int32) (H : Heap) (locs : List Loc) (ls : Array Slot), f_X0_minutesAlone_L37 fu n37 v_reached m_streetCount m_bellCount m_ends m_farEnds m_lengths m_bells x3 x4 x5 = some res → va_P D vwCl [oX0 q v_minutes v_paid v_first, rA (q 2) cI 501 v_reached, oX4 qm m_cornerCount m_streetCount m_guideCount m_bellCount m_hand m_handTold, rA (qm 8) cI 9 m_ends, rA (qm 9) cI 9 m_farEnds, rA (qm 10) cI 9 m_lengths, rA (qm 15) cI 8 m_bells] H → va_D A [oX0 q v_minutes v_paid v_first, rA (q 2) cI 501 v_reached, oX4 qm m_cornerCount m_streetCount m_guideCount m_bellCount m_hand m_handTold, rA (qm 8) cI 9 m_ends, rA (qm 9) cI 9 m_farEnds, rA (qm 10) cI 9 m_lengths, rA (qm 15) cI 8 m_bells] → va_S A s.heap H locs → lv_has ls 6 [(0, .ref (q 0)), (1, .ref (qm 0)), (3, .int x3), (4, .int x4), (5, .int x5)] → W p l e rm_X0_minutesAlone s m args below meth c H locs 0 0 Q (F0 m 37 ls []) := by
    intro n37
    induction n37 with
    | zero =>
      intro v_reached x3 x4 x5 H locs ls h hP hD hS hl
      cases (show (none : Option R_X0_minutesAlone) = some res from h)
    | succ n37 ih37 =>
      have hJ91 : ∀ (v_reached : (Nat → Int32)) (x3 : Int32) (x4 : Int32) (x5 : Int32) (H : Heap) (locs : List Loc) (ls : Array Slot), f_X0_minutesAlone_J91 fu (f_X0_minutesAlone_L37 fu n37) v_reached m_streetCount m_bellCount m_ends m_farEnds m_lengths m_bells x3 x4 x5 = some res → va_P D vwCl [oX0 q v_minutes v_paid v_first, rA (q 2) cI 501 v_reached, oX4 qm m_cornerCount m_streetCount m_guideCount m_bellCount m_hand m_handTold, rA (qm 8) cI 9 m_ends, rA (qm 9) cI 9 m_farEnds, rA (qm 10) cI 9 m_lengths, rA (qm 15) cI 8 m_bells] H → va_D A [oX0 q v_minutes v_paid v_first, rA (q 2) cI 501 v_reached, oX4 qm m_cornerCount m_streetCount m_guideCount m_bellCount m_hand m_handTold, rA (qm 8) cI 9 m_ends, rA (qm 9) cI 9 m_farEnds, rA (qm 10) cI 9 m_lengths, rA (qm 15) cI 8 m_bells] → va_S A s.heap H locs → lv_has ls 6 [(0, .ref (q 0)), (1, .ref (qm 0)), (3, .int x3), (4, .int x4), (5, .int x5)] → W p l e rm_X0_minutesAlone s m args below meth c H locs 0 0 Q (F0 m 91 ls []) := by
        intro v_reached x3 x4 x5 H locs ls h hP hD hS hl
        unfold f_X0_minutesAlone_J91 at h
        refine lv_aload_n hx hb dX0_minutesAlone_91 rfl (lv_at hl 0 rfl) ?_
        refine lv_aload_n hx hb dX0_minutesAlone_92 rfl (lv_at hl 1 rfl) ?_
        refine lv_iload hx hb dX0_minutesAlone_93 (lv_at hl 4 rfl) ?_
        refine lv_aload_n hx hb dX0_minutesAlone_95 rfl (lv_at hl 1 rfl) ?_
        refine lv_iload_n hx hb dX0_minutesAlone_96 rfl (lv_at hl 2 rfl) ?_
        refine lv_iload hx hb dX0_minutesAlone_97 (lv_at hl 4 rfl) ?_
        refine lv_iadd hx hb dX0_minutesAlone_99 ?_
        obtain ⟨r1, hr1, h⟩ := xk_some h
        refine vx_VJ (As := [.int (x3 + x5)]) (rest := [.int x5, .ref (qm 0), .ref (q 0)]) hFx (k_X4_thinFrom l D cI cZ cT qm H.size m_cornerCount m_streetCount m_guideCount m_bellCount m_hand m_handTold m_bells (x3 + x5) r1 fu hr1) (cwV 1 hts gX0_minutesAlone_X4_thinFrom rfl rfl rfl (by decide +kernel) ⟨Nat.le_of_ble_eq_true rfl, Nat.le_of_ble_eq_true rfl⟩) hK hP hD hS hA [2, 6] rfl rfl 4 0 rfl rfl rfl hl.1 rfl (Nat.le_of_ble_eq_true rfl) dX0_minutesAlone_100 ⟨Nat.zero_le _, Nat.zero_le _⟩ (fun H locs hP hS => ?_)
        obtain ⟨r2, hr2, h⟩ := xk_some h
        refine vx_VV (As := [.ref (qm 0), .int x5, .int r1]) (rest := []) (wr := [rA (qm 15) cI 8 m_bells]) (wn := [oX0 q v_minutes v_paid v_first, rA (q 2) cI 501 r2, oX4 qm m_cornerCount m_streetCount m_guideCount m_bellCount m_hand m_handTold, rA (qm 8) cI 9 m_ends, rA (qm 9) cI 9 m_farEnds, rA (qm 10) cI 9 m_lengths, rA (qm 15) cI 8 m_bells]) hFx (k_X0_walkOn l D cI cZ cT q qm H.size v_minutes v_paid v_first m_cornerCount m_streetCount m_guideCount m_bellCount m_hand m_handTold v_reached m_ends m_farEnds m_lengths x5 r1 r2 fu hr2) (cwV 3 hts gX0_minutesAlone_X0_walkOn rfl rfl rfl (by decide +kernel) ⟨Nat.le_of_ble_eq_true rfl, Nat.le_of_ble_eq_true rfl⟩) hK hP hD hS hA [0, 1, 2, 3, 4, 5] [6] [1, 2, 3, 4, 5, 6, 0] rfl rfl rfl rfl (by decide) rfl rfl 0 0 rfl rfl rfl hl.1 rfl (Nat.le_of_ble_eq_true rfl) dX0_minutesAlone_103 ⟨Nat.zero_le _, Nat.zero_le _⟩ (fun H locs hP hD hS => ?_)
        refine lv_iinc (v := x5 + 1) (lv' := [(5, .int (x5 + 1)), (0, .ref (q 0)), (1, .ref (qm 0)), (3, .int x3), (4, .int x4)]) hx hb dX0_minutesAlone_106 hl (k := 4) rfl rfl (by decide) rfl (fun ls hl => ?_)
        refine lv_goto (tgt := 37) hx hb dX0_minutesAlone_109 (by decide) ?_
        exact ih37 r2 x3 x4 (x5 + 1) H locs ls h hP hD hS (lv_sub hl [1, 2, 3, 4, 0] rfl)
      intro v_reached x3 x4 x5 H locs ls h hP hD hS hl
      have h : f_X0_minutesAlone_L37b fu (f_X0_minutesAlone_L37 fu n37) v_reached m_streetCount m_bellCount m_ends m_farEnds m_lengths m_bells x3 x4 x5 = some res := h
      unfold f_X0_minutesAlone_L37b at h
      refine lv_iload hx hb dX0_minutesAlone_37 (lv_at hl 4 rfl) ?_
      refine lv_sipush (v := 500) hx hb dX0_minutesAlone_39 (by decide) ?_
      refine lv_icmp_gt (tgt := 112) hx hb dX0_minutesAlone_42 (by decide) (fun c3 => ?_) (fun c3 => ?_)
      · have h := (if_pos c3).symm.trans h
        refine lv_bipush (v := (-9)) hx hb dX0_minutesAlone_112 (by decide) ?_
        exact hret (-9 : Int32) v_reached H locs _ ls (Option.some.inj h) hP hD hS dX0_minutesAlone_114
      · have h := (if_neg c3).symm.trans h
        refine lv_aload_n hx hb dX0_minutesAlone_45 rfl (lv_at hl 0 rfl) ?_
        refine va_get (C := RX0) (T := TX0) (N := 5) (v := .ref (q 2)) hx hb hts iw0 hown hK hP 0 rfl rfl 1 (Nat.le_of_ble_eq_true rfl) lk15 (fun _ h9 => h9) rfl dX0_minutesAlone_46 ?_
        refine lv_iload hx hb dX0_minutesAlone_49 (lv_at hl 4 rfl) ?_
        obtain ⟨hi4, h⟩ := xb_some h
        refine va_iald hx hb hK hP 1 0 rfl rfl hi4 dX0_minutesAlone_51 ?_
        refine lv_iload hx hb dX0_minutesAlone_52 (lv_at hl 3 rfl) ?_
        refine lv_ishr hx hb dX0_minutesAlone_54 ?_
        refine lv_iconst (v := 1) hx hb dX0_minutesAlone_55 (by decide) ?_
        refine lv_iand hx hb dX0_minutesAlone_56 ?_
        refine lv_iconst (v := 1) hx hb dX0_minutesAlone_57 (by decide) ?_
        refine lv_icmp_ne (tgt := 64) hx hb dX0_minutesAlone_58 (by decide) (fun c5 => ?_) (fun c5 => ?_)
        · have h := (if_neg c5).symm.trans h
          refine lv_iload hx hb dX0_minutesAlone_64 (lv_at hl 4 rfl) ?_
          refine lv_sipush (v := 500) hx hb dX0_minutesAlone_66 (by decide) ?_
          refine lv_icmp_ge (tgt := 91) hx hb dX0_minutesAlone_69 (by decide) (fun c6 => ?_) (fun c6 => ?_)
          · have h := (if_pos c6).symm.trans h
            exact hJ91 v_reached x3 x4 x5 H locs ls h hP hD hS (lv_sub hl [0, 1, 2, 3, 4] rfl)
          · have h := (if_neg c6).symm.trans h
            refine lv_aload_n hx hb dX0_minutesAlone_72 rfl (lv_at hl 0 rfl) ?_
            refine va_get (C := RX0) (T := TX0) (N := 5) (v := .ref (q 2)) hx hb hts iw0 hown hK hP 0 rfl rfl 1 (Nat.le_of_ble_eq_true rfl) lk15 (fun _ h9 => h9) rfl dX0_minutesAlone_73 ?_
            refine lv_iload hx hb dX0_minutesAlone_76 (lv_at hl 4 rfl) ?_
            refine lv_iconst (v := 1) hx hb dX0_minutesAlone_78 (by decide) ?_
            refine lv_iadd hx hb dX0_minutesAlone_79 ?_
            refine lv_dup2_11 hx hb dX0_minutesAlone_80 rfl rfl ?_
            obtain ⟨hi7, h⟩ := xb_some h
            refine va_iald hx hb hK hP 1 0 rfl rfl hi7 dX0_minutesAlone_81 ?_
            refine lv_aload_n hx hb dX0_minutesAlone_82 rfl (lv_at hl 0 rfl) ?_
            refine va_get (C := RX0) (T := TX0) (N := 5) (v := .ref (q 2)) hx hb hts iw0 hown hK hP 0 rfl rfl 1 (Nat.le_of_ble_eq_true rfl) lk15 (fun _ h9 => h9) rfl dX0_minutesAlone_83 ?_
            refine lv_iload hx hb dX0_minutesAlone_86 (lv_at hl 4 rfl) ?_
            obtain ⟨hi8, h⟩ := xb_some h
            refine va_iald hx hb hK hP 1 0 rfl rfl hi8 dX0_minutesAlone_88 ?_
            refine lv_ior hx hb dX0_minutesAlone_89 ?_
            obtain ⟨hi9, h⟩ := xb_some h
            refine va_iast hx hb hK hP hD hS 1 0 rfl rfl hi9 dX0_minutesAlone_90 (fun H locs hP hD hS => ?_)
            have hP : va_P D vwCl [oX0 q v_minutes v_paid v_first, rA (q 2) cI 501 (upd v_reached (x5 + (1 : Int32)).toNatClampNeg ((v_reached (x5 + (1 : Int32)).toNatClampNeg) ||| (v_reached x5.toNatClampNeg))), oX4 qm m_cornerCount m_streetCount m_guideCount m_bellCount m_hand m_handTold, rA (qm 8) cI 9 m_ends, rA (qm 9) cI 9 m_farEnds, rA (qm 10) cI 9 m_lengths, rA (qm 15) cI 8 m_bells] H := hP
            have hD : va_D A [oX0 q v_minutes v_paid v_first, rA (q 2) cI 501 (upd v_reached (x5 + (1 : Int32)).toNatClampNeg ((v_reached (x5 + (1 : Int32)).toNatClampNeg) ||| (v_reached x5.toNatClampNeg))), oX4 qm m_cornerCount m_streetCount m_guideCount m_bellCount m_hand m_handTold, rA (qm 8) cI 9 m_ends, rA (qm 9) cI 9 m_farEnds, rA (qm 10) cI 9 m_lengths, rA (qm 15) cI 8 m_bells] := hD
            exact hJ91 (upd v_reached (x5 + (1 : Int32)).toNatClampNeg ((v_reached (x5 + (1 : Int32)).toNatClampNeg) ||| (v_reached x5.toNatClampNeg))) x3 x4 x5 H locs ls h hP hD hS (lv_sub hl [0, 1, 2, 3, 4] rfl)
        · have h := (if_pos c5).symm.trans h
          refine lv_iload hx hb dX0_minutesAlone_61 (lv_at hl 4 rfl) ?_
          exact hret x5 v_reached H locs _ ls (Option.some.inj h) hP hD hS dX0_minutesAlone_63
  have hL3 : ∀ (n3 : Nat), ∀ (v_reached : (Nat → Int32)) (x2 : Int32) (x3 : Int32) (x4 : Int32) (x5 : Int32) (H : Heap) (locs : List Loc) (ls : Array Slot), f_X0_minutesAlone_L3 fu n3 v_reached m_streetCount m_bellCount m_ends m_farEnds m_lengths m_bells x2 x3 x4 x5 = some res → va_P D vwCl [oX0 q v_minutes v_paid v_first, rA (q 2) cI 501 v_reached, oX4 qm m_cornerCount m_streetCount m_guideCount m_bellCount m_hand m_handTold, rA (qm 8) cI 9 m_ends, rA (qm 9) cI 9 m_farEnds, rA (qm 10) cI 9 m_lengths, rA (qm 15) cI 8 m_bells] H → va_D A [oX0 q v_minutes v_paid v_first, rA (q 2) cI 501 v_reached, oX4 qm m_cornerCount m_streetCount m_guideCount m_bellCount m_hand m_handTold, rA (qm 8) cI 9 m_ends, rA (qm 9) cI 9 m_farEnds, rA (qm 10) cI 9 m_lengths, rA (qm 15) cI 8 m_bells] → va_S A s.heap H locs → lv_has ls 6 [(0, .ref (q 0)), (1, .ref (qm 0)), (2, .int x2), (3, .int x3), (4, .int x4), (5, .int x5)] → W p l e rm_X0_minutesAlone s m args below meth c H locs 0 0 Q (F0 m 3 ls []) := by
    intro n3
    induction n3 with
    | zero =>
      intro v_reached x2 x3 x4 x5 H locs ls h hP hD hS hl
      cases (show (none : Option R_X0_minutesAlone) = some res from h)
    | succ n3 ih3 =>
      intro v_reached x2 x3 x4 x5 H locs ls h hP hD hS hl
      have h : f_X0_minutesAlone_L3b fu (f_X0_minutesAlone_L3 fu n3) v_reached m_streetCount m_bellCount m_ends m_farEnds m_lengths m_bells x2 x3 x4 x5 = some res := h
      unfold f_X0_minutesAlone_L3b at h
      refine lv_iload hx hb dX0_minutesAlone_3 (lv_at hl 5 rfl) ?_
      refine lv_sipush (v := 500) hx hb dX0_minutesAlone_5 (by decide) ?_
      refine lv_icmp_gt (tgt := 25) hx hb dX0_minutesAlone_8 (by decide) (fun c10 => ?_) (fun c10 => ?_)
      · have h := (if_pos c10).symm.trans h
        refine lv_aload_n hx hb dX0_minutesAlone_25 rfl (lv_at hl 0 rfl) ?_
        refine va_get (C := RX0) (T := TX0) (N := 5) (v := .ref (q 2)) hx hb hts iw0 hown hK hP 0 rfl rfl 1 (Nat.le_of_ble_eq_true rfl) lk15 (fun _ h9 => h9) rfl dX0_minutesAlone_26 ?_
        refine lv_iconst (v := 0) hx hb dX0_minutesAlone_29 (by decide) ?_
        refine lv_iconst (v := 1) hx hb dX0_minutesAlone_30 (by decide) ?_
        refine lv_iload_n hx hb dX0_minutesAlone_31 rfl (lv_at hl 2 rfl) ?_
        refine lv_ishl hx hb dX0_minutesAlone_32 ?_
        obtain ⟨hi11, h⟩ := xb_some h
        refine va_iast hx hb hK hP hD hS 1 0 rfl rfl hi11 dX0_minutesAlone_33 (fun H locs hP hD hS => ?_)
        have hP : va_P D vwCl [oX0 q v_minutes v_paid v_first, rA (q 2) cI 501 (upd v_reached (0 : Int32).toNatClampNeg ((1 : Int32) <<< (x2 &&& 31))), oX4 qm m_cornerCount m_streetCount m_guideCount m_bellCount m_hand m_handTold, rA (qm 8) cI 9 m_ends, rA (qm 9) cI 9 m_farEnds, rA (qm 10) cI 9 m_lengths, rA (qm 15) cI 8 m_bells] H := hP
        have hD : va_D A [oX0 q v_minutes v_paid v_first, rA (q 2) cI 501 (upd v_reached (0 : Int32).toNatClampNeg ((1 : Int32) <<< (x2 &&& 31))), oX4 qm m_cornerCount m_streetCount m_guideCount m_bellCount m_hand m_handTold, rA (qm 8) cI 9 m_ends, rA (qm 9) cI 9 m_farEnds, rA (qm 10) cI 9 m_lengths, rA (qm 15) cI 8 m_bells] := hD
        refine lv_iconst (v := 0) hx hb dX0_minutesAlone_34 (by decide) ?_
        refine lv_istore (lv' := [(5, .int (0 : Int32)), (0, .ref (q 0)), (1, .ref (qm 0)), (2, .int x2), (3, .int x3), (4, .int x4)]) hx hb dX0_minutesAlone_35 hl (by decide) rfl (fun ls hl => ?_)
        exact hL37 fu (upd v_reached (0 : Int32).toNatClampNeg ((1 : Int32) <<< (x2 &&& 31))) x3 x4 (0 : Int32) H locs ls h hP hD hS (lv_sub hl [1, 2, 4, 5, 0] rfl)
      · have h := (if_neg c10).symm.trans h
        refine lv_aload_n hx hb dX0_minutesAlone_11 rfl (lv_at hl 0 rfl) ?_
        refine va_get (C := RX0) (T := TX0) (N := 5) (v := .ref (q 2)) hx hb hts iw0 hown hK hP 0 rfl rfl 1 (Nat.le_of_ble_eq_true rfl) lk15 (fun _ h9 => h9) rfl dX0_minutesAlone_12 ?_
        refine lv_iload hx hb dX0_minutesAlone_15 (lv_at hl 5 rfl) ?_
        refine lv_iconst (v := 0) hx hb dX0_minutesAlone_17 (by decide) ?_
        obtain ⟨hi12, h⟩ := xb_some h
        refine va_iast hx hb hK hP hD hS 1 0 rfl rfl hi12 dX0_minutesAlone_18 (fun H locs hP hD hS => ?_)
        have hP : va_P D vwCl [oX0 q v_minutes v_paid v_first, rA (q 2) cI 501 (upd v_reached x5.toNatClampNeg (0 : Int32)), oX4 qm m_cornerCount m_streetCount m_guideCount m_bellCount m_hand m_handTold, rA (qm 8) cI 9 m_ends, rA (qm 9) cI 9 m_farEnds, rA (qm 10) cI 9 m_lengths, rA (qm 15) cI 8 m_bells] H := hP
        have hD : va_D A [oX0 q v_minutes v_paid v_first, rA (q 2) cI 501 (upd v_reached x5.toNatClampNeg (0 : Int32)), oX4 qm m_cornerCount m_streetCount m_guideCount m_bellCount m_hand m_handTold, rA (qm 8) cI 9 m_ends, rA (qm 9) cI 9 m_farEnds, rA (qm 10) cI 9 m_lengths, rA (qm 15) cI 8 m_bells] := hD
        refine lv_iinc (v := x5 + 1) (lv' := [(5, .int (x5 + 1)), (0, .ref (q 0)), (1, .ref (qm 0)), (2, .int x2), (3, .int x3), (4, .int x4)]) hx hb dX0_minutesAlone_19 hl (k := 5) rfl rfl (by decide) rfl (fun ls hl => ?_)
        refine lv_goto (tgt := 3) hx hb dX0_minutesAlone_22 (by decide) ?_
        exact ih3 (upd v_reached x5.toNatClampNeg (0 : Int32)) x2 x3 x4 (x5 + 1) H locs ls h hP hD hS (lv_sub hl [1, 2, 3, 4, 5, 0] rfl)
  have h := hf
  unfold f_X0_minutesAlone at h
  obtain ⟨H, eH⟩ : ∃ H, H = s.heap := ⟨_, rfl⟩
  rw [← eH] at hP ⊢
  obtain ⟨locs, el⟩ : ∃ locs : List Loc, locs = [] := ⟨_, rfl⟩
  rw [← el] at hS ⊢
  have hS : va_S A s.heap H locs := by rw [eH]; exact hS
  refine lv_iconst (v := 0) hx hb dX0_minutesAlone_0 (by decide) ?_
  refine lv_istore (lv' := [(5, .int (0 : Int32)), (0, .ref (q 0)), (1, .ref (qm 0)), (2, .int x2), (3, .int x3), (4, .int x4)]) hx hb dX0_minutesAlone_1 hl (by decide) rfl (fun ls hl => ?_)
  exact hL3 fu v_reached x2 x3 x4 (0 : Int32) H locs ls h hP hD hS (lv_sub hl [1, 2, 3, 4, 5, 0] rfl)
