abbrev rm_X5_add : Room := { frames := 0, cells := 0, slots := 0, locals := 0 }
set_option maxHeartbeats 4000000 in
set_option maxRecDepth 100000 in
theorem k_X5_add (l : Launch) (D : va_G) (cI cZ cT : ClassId) (q : Nat → Nat) (sz : Nat) (v_size : Int32) (v_bestWorth : Int32) (v_bestSet : Int32) (v_froms : Nat → Int32) (v_tos : Nat → Int32) (v_worths : Nat → Int32) (x1 : Int32) (x2 : Int32) (x3 : Int32) (res : R_X5_add) (hf : f_X5_add v_size v_froms v_tos v_worths x1 x2 x3 = some res) : Met l yX5_add wsX5_add rm_X5_add (cPre D (tyz cI cZ cT) [.ref (q 0), .int x1, .int x2, .int x3] sz [oX5 q v_size v_bestWorth v_bestSet, rA (q 2) cI 4 v_froms, rA (q 3) cI 4 v_tos, rA (q 4) cI 4 v_worths]) (cPi D (tyz cI cZ cT) (fun (r : Int32) (u : Int32 × (Nat → Int32) × (Nat → Int32) × (Nat → Int32)) => (r, u) = res) (fun u => [oX5 q u.1 v_bestWorth v_bestSet, rA (q 2) cI 4 u.2.1, rA (q 3) cI 4 u.2.2.1, rA (q 4) cI 4 u.2.2.2]) [oX5 q v_size v_bestWorth v_bestSet, rA (q 2) cI 4 v_froms, rA (q 3) cI 4 v_tos, rA (q 4) cI 4 v_worths] sz) 0 0 (va_A [oX5 q v_size v_bestWorth v_bestSet, rA (q 2) cI 4 v_froms, rA (q 3) cI 4 v_tos, rA (q 4) cI 4 v_worths] sz) := by
  refine vx_meth_z (by decide) rfl (Nat.le_of_ble_eq_true rfl) ?_
  intro p e s m args below meth c A Q hx hb hml hown hts hK hP hD hA hS hret ls hl
  have hown : s.vm.findClass RX5 = some m.cls := hown
  have hl : lv_has ls 4 [(0, .ref (q 0)), (1, .int x1), (2, .int x2), (3, .int x3)] := hl
  have hFx : CallFix p m c cX5_add 4 s args wsX5_add RX5 := ⟨hx, hb, hml, hown, hts⟩
  have lk24 := hts (.fieldLink RX5 24 "FogGuides$WishList" "size" "I") (by decide +kernel)
  have iw5 : ∀ w ∈ u_ws RX5 TX5 7, w ∈ wsX5_add := by decide +kernel
  have lk9 := hts (.fieldLink RX5 9 "FogGuides$WishList" "froms" "[I") (by decide +kernel)
  have lk15 := hts (.fieldLink RX5 15 "FogGuides$WishList" "tos" "[I") (by decide +kernel)
  have lk18 := hts (.fieldLink RX5 18 "FogGuides$WishList" "worths" "[I") (by decide +kernel)
  have h := hf
  unfold f_X5_add at h
  obtain ⟨H, eH⟩ : ∃ H, H = s.heap := ⟨_, rfl⟩
  rw [← eH] at hP ⊢
  obtain ⟨locs, el⟩ : ∃ locs : List Loc, locs = [] := ⟨_, rfl⟩
  rw [← el] at hS ⊢
  have hS : va_S A s.heap H locs := by rw [eH]; exact hS
  refine lv_aload_n hx hb dX5_add_0 rfl (lv_at hl 0 rfl) ?_
  refine va_get (C := RX5) (T := TX5) (N := 7) (v := .int v_size) hx hb hts iw5 hown hK hP 0 rfl rfl 0 (Nat.le_of_ble_eq_true rfl) lk24 (fun _ h9 => h9) rfl dX5_add_1 ?_
  refine lv_iconst (v := 4) hx hb dX5_add_4 (by decide) ?_
  refine lv_icmp_lt (tgt := 10) hx hb dX5_add_5 (by decide) (fun c1 => ?_) (fun c1 => ?_)
  · have h := (if_pos c1).symm.trans h
    refine lv_aload_n hx hb dX5_add_10 rfl (lv_at hl 0 rfl) ?_
    refine va_get (C := RX5) (T := TX5) (N := 7) (v := .ref (q 2)) hx hb hts iw5 hown hK hP 0 rfl rfl 1 (Nat.le_of_ble_eq_true rfl) lk9 (fun _ h9 => h9) rfl dX5_add_11 ?_
    refine lv_aload_n hx hb dX5_add_14 rfl (lv_at hl 0 rfl) ?_
    refine va_get (C := RX5) (T := TX5) (N := 7) (v := .int v_size) hx hb hts iw5 hown hK hP 0 rfl rfl 0 (Nat.le_of_ble_eq_true rfl) lk24 (fun _ h9 => h9) rfl dX5_add_15 ?_
    refine lv_iload_n hx hb dX5_add_18 rfl (lv_at hl 1 rfl) ?_
    obtain ⟨hi2, h⟩ := xb_some h
    refine va_iast hx hb hK hP hD hS 1 0 rfl rfl hi2 dX5_add_19 (fun H locs hP hD hS => ?_)
    have hP : va_P D vwCl [oX5 q v_size v_bestWorth v_bestSet, rA (q 2) cI 4 (upd v_froms v_size.toNatClampNeg x1), rA (q 3) cI 4 v_tos, rA (q 4) cI 4 v_worths] H := hP
    have hD : va_D A [oX5 q v_size v_bestWorth v_bestSet, rA (q 2) cI 4 (upd v_froms v_size.toNatClampNeg x1), rA (q 3) cI 4 v_tos, rA (q 4) cI 4 v_worths] := hD
    refine lv_aload_n hx hb dX5_add_20 rfl (lv_at hl 0 rfl) ?_
    refine va_get (C := RX5) (T := TX5) (N := 7) (v := .ref (q 3)) hx hb hts iw5 hown hK hP 0 rfl rfl 2 (Nat.le_of_ble_eq_true rfl) lk15 (fun _ h9 => h9) rfl dX5_add_21 ?_
    refine lv_aload_n hx hb dX5_add_24 rfl (lv_at hl 0 rfl) ?_
    refine va_get (C := RX5) (T := TX5) (N := 7) (v := .int v_size) hx hb hts iw5 hown hK hP 0 rfl rfl 0 (Nat.le_of_ble_eq_true rfl) lk24 (fun _ h9 => h9) rfl dX5_add_25 ?_
    refine lv_iload_n hx hb dX5_add_28 rfl (lv_at hl 2 rfl) ?_
    obtain ⟨hi3, h⟩ := xb_some h
    refine va_iast hx hb hK hP hD hS 2 0 rfl rfl hi3 dX5_add_29 (fun H locs hP hD hS => ?_)
    have hP : va_P D vwCl [oX5 q v_size v_bestWorth v_bestSet, rA (q 2) cI 4 (upd v_froms v_size.toNatClampNeg x1), rA (q 3) cI 4 (upd v_tos v_size.toNatClampNeg x2), rA (q 4) cI 4 v_worths] H := hP
    have hD : va_D A [oX5 q v_size v_bestWorth v_bestSet, rA (q 2) cI 4 (upd v_froms v_size.toNatClampNeg x1), rA (q 3) cI 4 (upd v_tos v_size.toNatClampNeg x2), rA (q 4) cI 4 v_worths] := hD
    refine lv_aload_n hx hb dX5_add_30 rfl (lv_at hl 0 rfl) ?_
    refine va_get (C := RX5) (T := TX5) (N := 7) (v := .ref (q 4)) hx hb hts iw5 hown hK hP 0 rfl rfl 3 (Nat.le_of_ble_eq_true rfl) lk18 (fun _ h9 => h9) rfl dX5_add_31 ?_
    refine lv_aload_n hx hb dX5_add_34 rfl (lv_at hl 0 rfl) ?_
    refine va_get (C := RX5) (T := TX5) (N := 7) (v := .int v_size) hx hb hts iw5 hown hK hP 0 rfl rfl 0 (Nat.le_of_ble_eq_true rfl) lk24 (fun _ h9 => h9) rfl dX5_add_35 ?_
    refine lv_iload_n hx hb dX5_add_38 rfl (lv_at hl 3 rfl) ?_
    obtain ⟨hi4, h⟩ := xb_some h
    refine va_iast hx hb hK hP hD hS 3 0 rfl rfl hi4 dX5_add_39 (fun H locs hP hD hS => ?_)
    have hP : va_P D vwCl [oX5 q v_size v_bestWorth v_bestSet, rA (q 2) cI 4 (upd v_froms v_size.toNatClampNeg x1), rA (q 3) cI 4 (upd v_tos v_size.toNatClampNeg x2), rA (q 4) cI 4 (upd v_worths v_size.toNatClampNeg x3)] H := hP
    have hD : va_D A [oX5 q v_size v_bestWorth v_bestSet, rA (q 2) cI 4 (upd v_froms v_size.toNatClampNeg x1), rA (q 3) cI 4 (upd v_tos v_size.toNatClampNeg x2), rA (q 4) cI 4 (upd v_worths v_size.toNatClampNeg x3)] := hD
    refine lv_aload_n hx hb dX5_add_40 rfl (lv_at hl 0 rfl) ?_
    refine lv_dup hx hb dX5_add_41 rfl ?_
    refine va_get (C := RX5) (T := TX5) (N := 7) (v := .int v_size) hx hb hts iw5 hown hK hP 0 rfl rfl 0 (Nat.le_of_ble_eq_true rfl) lk24 (fun _ h9 => h9) rfl dX5_add_42 ?_
    refine lv_iconst (v := 1) hx hb dX5_add_45 (by decide) ?_
    refine lv_iadd hx hb dX5_add_46 ?_
    refine va_put (C := RX5) (T := TX5) (N := 7) (v := .int (v_size + (1 : Int32))) (ty := .int) hx hb hts iw5 tyX5 tyX5_ok nmX5 hown hK hP hD hS 0 rfl rfl 0 (Nat.le_of_ble_eq_true rfl) lk24 (fun _ h9 => h9) rfl (by decide +kernel) rfl rfl (Nat.le_of_ble_eq_true rfl) dX5_add_47 (fun H locs hP hD hS => ?_)
    have hP : va_P D vwCl [oX5 q (v_size + (1 : Int32)) v_bestWorth v_bestSet, rA (q 2) cI 4 (upd v_froms v_size.toNatClampNeg x1), rA (q 3) cI 4 (upd v_tos v_size.toNatClampNeg x2), rA (q 4) cI 4 (upd v_worths v_size.toNatClampNeg x3)] H := hP
    have hD : va_D A [oX5 q (v_size + (1 : Int32)) v_bestWorth v_bestSet, rA (q 2) cI 4 (upd v_froms v_size.toNatClampNeg x1), rA (q 3) cI 4 (upd v_tos v_size.toNatClampNeg x2), rA (q 4) cI 4 (upd v_worths v_size.toNatClampNeg x3)] := hD
    refine lv_iconst (v := 1) hx hb dX5_add_50 (by decide) ?_
    exact hret (1 : Int32) ((v_size + (1 : Int32), upd v_froms v_size.toNatClampNeg x1, upd v_tos v_size.toNatClampNeg x2, upd v_worths v_size.toNatClampNeg x3)) H locs _ ls (Or.inr rfl) (Option.some.inj h) hP hD hS dX5_add_51
  · have h := (if_neg c1).symm.trans h
    refine lv_iconst (v := 0) hx hb dX5_add_8 (by decide) ?_
    exact hret (0 : Int32) (v_size, v_froms, v_tos, v_worths) H locs _ ls (Or.inl rfl) (Option.some.inj h) hP hD hS dX5_add_9
abbrev rm_X5_takeStreets : Room := { frames := 2, cells := 0, slots := 0, locals := 64 }
set_option maxHeartbeats 4000000 in
set_option maxRecDepth 100000 in
theorem k_X5_takeStreets (l : Launch) (D : va_G) (cI cZ cT : ClassId) (q : Nat → Nat) (qm : Nat → Nat) (sz : Nat) (v_size : Int32) (v_bestWorth : Int32) (v_bestSet : Int32) (m_cornerCount : Int32) (m_streetCount : Int32) (m_guideCount : Int32) (m_bellCount : Int32) (m_hand : Int32) (m_handTold : Int32) (v_ways : Nat → Int32) (m_ends : Nat → Int32) (m_farEnds : Nat → Int32) (m_lengths : Nat → Int32) (m_paces : Nat → Int32) (m_knows : Nat → Int32) (x2 : Int32) (res : R_X5_takeStreets) (fu : Nat) (hf : f_X5_takeStreets fu v_ways m_streetCount m_guideCount m_ends m_farEnds m_lengths m_paces m_knows x2 = some res) : Met l yX5_takeStreets wsX5_takeStreets rm_X5_takeStreets (cPre D (tyz cI cZ cT) [.ref (q 0), .ref (qm 0), .int x2] sz [oX5 q v_size v_bestWorth v_bestSet, rA (q 5) cI 49 v_ways, oX4 qm m_cornerCount m_streetCount m_guideCount m_bellCount m_hand m_handTold, rA (qm 8) cI 9 m_ends, rA (qm 9) cI 9 m_farEnds, rA (qm 10) cI 9 m_lengths, rA (qm 11) cI 4 m_paces, rA (qm 13) cI 4 m_knows]) (cPv D (tyz cI cZ cT) (fun (u : (Nat → Int32)) => u = res) (fun u => [oX5 q v_size v_bestWorth v_bestSet, rA (q 5) cI 49 u, oX4 qm m_cornerCount m_streetCount m_guideCount m_bellCount m_hand m_handTold, rA (qm 8) cI 9 m_ends, rA (qm 9) cI 9 m_farEnds, rA (qm 10) cI 9 m_lengths, rA (qm 11) cI 4 m_paces, rA (qm 13) cI 4 m_knows]) [oX5 q v_size v_bestWorth v_bestSet, rA (q 5) cI 49 v_ways, oX4 qm m_cornerCount m_streetCount m_guideCount m_bellCount m_hand m_handTold, rA (qm 8) cI 9 m_ends, rA (qm 9) cI 9 m_farEnds, rA (qm 10) cI 9 m_lengths, rA (qm 11) cI 4 m_paces, rA (qm 13) cI 4 m_knows] sz) 0 0 (va_A [oX5 q v_size v_bestWorth v_bestSet, rA (q 5) cI 49 v_ways, oX4 qm m_cornerCount m_streetCount m_guideCount m_bellCount m_hand m_handTold, rA (qm 8) cI 9 m_ends, rA (qm 9) cI 9 m_farEnds, rA (qm 10) cI 9 m_lengths, rA (qm 11) cI 4 m_paces, rA (qm 13) cI 4 m_knows] sz) := by
  refine vx_meth_v (by decide) rfl (Nat.le_of_ble_eq_true rfl) ?_
  intro p e s m args below meth c A Q hx hb hml hown hts hK hP hD hA hS hret ls hl
  have hown : s.vm.findClass RX5 = some m.cls := hown
  have hl : lv_has ls 7 [(0, .ref (q 0)), (1, .ref (qm 0)), (2, .int x2)] := hl
  have hFx : CallFix p m c cX5_takeStreets 7 s args wsX5_takeStreets RX5 := ⟨hx, hb, hml, hown, hts⟩
  have lk45 := hts (.fieldLink RX5 45 "FogGuides$TownMap" "streetCount" "I") (by decide +kernel)
  have iw4 : ∀ w ∈ u_ws RX4 TX4 15, w ∈ wsX5_takeStreets := by decide +kernel
  have lk58 := hts (.fieldLink RX5 58 "FogGuides$TownMap" "ends" "[I") (by decide +kernel)
  have lk61 := hts (.fieldLink RX5 61 "FogGuides$TownMap" "farEnds" "[I") (by decide +kernel)
  have lk21 := hts (.fieldLink RX5 21 "FogGuides$WishList" "ways" "[I") (by decide +kernel)
  have iw5 : ∀ w ∈ u_ws RX5 TX5 7, w ∈ wsX5_takeStreets := by decide +kernel
  have hL43 : ∀ (n43 : Nat), ∀ (v_ways : (Nat → Int32)) (x2 : Int32) (x3 : Int32) (H : Heap) (locs : List Loc) (ls : Array Slot), f_X5_takeStreets_L43 fu n43 v_ways m_streetCount m_guideCount m_ends m_farEnds m_lengths m_paces m_knows x2 x3 = some res → va_P D vwCl [oX5 q v_size v_bestWorth v_bestSet, rA (q 5) cI 49 v_ways, oX4 qm m_cornerCount m_streetCount m_guideCount m_bellCount m_hand m_handTold, rA (qm 8) cI 9 m_ends, rA (qm 9) cI 9 m_farEnds, rA (qm 10) cI 9 m_lengths, rA (qm 11) cI 4 m_paces, rA (qm 13) cI 4 m_knows] H → va_D A [oX5 q v_size v_bestWorth v_bestSet, rA (q 5) cI 49 v_ways, oX4 qm m_cornerCount m_streetCount m_guideCount m_bellCount m_hand m_handTold, rA (qm 8) cI 9 m_ends, rA (qm 9) cI 9 m_farEnds, rA (qm 10) cI 9 m_lengths, rA (qm 11) cI 4 m_paces, rA (qm 13) cI 4 m_knows] → va_S A s.heap H locs → lv_has ls 7 [(0, .ref (q 0)), (1, .ref (qm 0)), (2, .int x2), (3, .int x3)] → W p l e rm_X5_takeStreets s m args below meth c H locs 0 0 Q (F0 m 43 ls []) := by
    intro n43
    induction n43 with
    | zero =>
      intro v_ways x2 x3 H locs ls h hP hD hS hl
      cases (show (none : Option R_X5_takeStreets) = some res from h)
    | succ n43 ih43 =>
      intro v_ways x2 x3 H locs ls h hP hD hS hl
      have h : f_X5_takeStreets_L43b fu (f_X5_takeStreets_L43 fu n43) v_ways m_streetCount m_guideCount m_ends m_farEnds m_lengths m_paces m_knows x2 x3 = some res := h
      unfold f_X5_takeStreets_L43b at h
      refine lv_iload_n hx hb dX5_takeStreets_43 rfl (lv_at hl 3 rfl) ?_
      refine lv_aload_n hx hb dX5_takeStreets_44 rfl (lv_at hl 1 rfl) ?_
      refine va_get (C := RX4) (T := TX4) (N := 15) (v := .int m_streetCount) hx hb hts iw4 hown hK hP 2 rfl rfl 1 (Nat.le_of_ble_eq_true rfl) lk45 (fun _ h9 => h9) rfl dX5_takeStreets_45 ?_
      refine lv_icmp_ge (tgt := 151) hx hb dX5_takeStreets_48 (by decide) (fun c1 => ?_) (fun c1 => ?_)
      · have h := (if_pos c1).symm.trans h
        exact hret v_ways H locs _ ls (Option.some.inj h) hP hD hS dX5_takeStreets_151
      · have h := (if_neg c1).symm.trans h
        refine lv_aload_n hx hb dX5_takeStreets_51 rfl (lv_at hl 1 rfl) ?_
        refine lv_iload_n hx hb dX5_takeStreets_52 rfl (lv_at hl 2 rfl) ?_
        refine lv_iload_n hx hb dX5_takeStreets_53 rfl (lv_at hl 3 rfl) ?_
        obtain ⟨r2, hr2, h⟩ := xk_some h
        refine vx_VJ (As := [.int x2, .int x3]) (rest := []) hFx (k_X4_knowsStreet l D cI cZ cT qm H.size m_cornerCount m_streetCount m_guideCount m_bellCount m_hand m_handTold m_knows x2 x3 r2 hr2) (cwV 2 hts gX5_takeStreets_X4_knowsStreet rfl rfl rfl (by decide +kernel) ⟨Nat.le_of_ble_eq_true rfl, Nat.le_of_ble_eq_true rfl⟩) hK hP hD hS hA [2, 7] rfl rfl 4 0 rfl rfl rfl hl.1 rfl (Nat.le_of_ble_eq_true rfl) dX5_takeStreets_54 ⟨Nat.zero_le _, Nat.zero_le _⟩ (fun H locs hP hS => ?_)
        refine lv_if_ne (tgt := 63) hx hb dX5_takeStreets_57 (by decide) (fun c3 => ?_) (fun c3 => ?_)
        · have h := (if_neg c3).symm.trans h
          refine lv_aload_n hx hb dX5_takeStreets_63 rfl (lv_at hl 1 rfl) ?_
          refine lv_iload_n hx hb dX5_takeStreets_64 rfl (lv_at hl 2 rfl) ?_
          refine lv_iload_n hx hb dX5_takeStreets_65 rfl (lv_at hl 3 rfl) ?_
          obtain ⟨r4, hr4, h⟩ := xk_some h
          refine vx_VJ (As := [.int x2, .int x3]) (rest := []) hFx (k_X4_ledMinutes l D cI cZ cT qm H.size m_cornerCount m_streetCount m_guideCount m_bellCount m_hand m_handTold m_lengths m_paces x2 x3 r4 hr4) (cwV 2 hts gX5_takeStreets_X4_ledMinutes rfl rfl rfl (by decide +kernel) ⟨Nat.le_of_ble_eq_true rfl, Nat.le_of_ble_eq_true rfl⟩) hK hP hD hS hA [2, 5, 6] rfl rfl 4 0 rfl rfl rfl hl.1 rfl (Nat.le_of_ble_eq_true rfl) dX5_takeStreets_66 ⟨Nat.zero_le _, Nat.zero_le _⟩ (fun H locs hP hS => ?_)
          refine lv_istore (lv' := [(4, .int r4), (0, .ref (q 0)), (1, .ref (qm 0)), (2, .int x2), (3, .int x3)]) hx hb dX5_takeStreets_69 hl (by decide) rfl (fun ls hl => ?_)
          refine lv_aload_n hx hb dX5_takeStreets_71 rfl (lv_at hl 2 rfl) ?_
          refine va_get (C := RX4) (T := TX4) (N := 15) (v := .ref (qm 8)) hx hb hts iw4 hown hK hP 2 rfl rfl 7 (Nat.le_of_ble_eq_true rfl) lk58 (fun _ h9 => h9) rfl dX5_takeStreets_72 ?_
          refine lv_iload_n hx hb dX5_takeStreets_75 rfl (lv_at hl 4 rfl) ?_
          obtain ⟨hi5, h⟩ := xb_some h
          refine va_iald hx hb hK hP 3 0 rfl rfl hi5 dX5_takeStreets_76 ?_
          refine lv_bipush (v := 7) hx hb dX5_takeStreets_77 (by decide) ?_
          refine lv_imul hx hb dX5_takeStreets_79 ?_
          refine lv_aload_n hx hb dX5_takeStreets_80 rfl (lv_at hl 2 rfl) ?_
          refine va_get (C := RX4) (T := TX4) (N := 15) (v := .ref (qm 9)) hx hb hts iw4 hown hK hP 2 rfl rfl 8 (Nat.le_of_ble_eq_true rfl) lk61 (fun _ h9 => h9) rfl dX5_takeStreets_81 ?_
          refine lv_iload_n hx hb dX5_takeStreets_84 rfl (lv_at hl 4 rfl) ?_
          obtain ⟨hi6, h⟩ := xb_some h
          refine va_iald hx hb hK hP 4 0 rfl rfl hi6 dX5_takeStreets_85 ?_
          refine lv_iadd hx hb dX5_takeStreets_86 ?_
          refine lv_istore (lv' := [(5, .int (((m_ends x3.toNatClampNeg) * (7 : Int32)) + (m_farEnds x3.toNatClampNeg))), (4, .int r4), (0, .ref (q 0)), (1, .ref (qm 0)), (2, .int x2), (3, .int x3)]) hx hb dX5_takeStreets_87 hl (by decide) rfl (fun ls hl => ?_)
          refine lv_aload_n hx hb dX5_takeStreets_89 rfl (lv_at hl 3 rfl) ?_
          refine va_get (C := RX4) (T := TX4) (N := 15) (v := .ref (qm 9)) hx hb hts iw4 hown hK hP 2 rfl rfl 8 (Nat.le_of_ble_eq_true rfl) lk61 (fun _ h9 => h9) rfl dX5_takeStreets_90 ?_
          refine lv_iload_n hx hb dX5_takeStreets_93 rfl (lv_at hl 5 rfl) ?_
          obtain ⟨hi7, h⟩ := xb_some h
          refine va_iald hx hb hK hP 4 0 rfl rfl hi7 dX5_takeStreets_94 ?_
          refine lv_bipush (v := 7) hx hb dX5_takeStreets_95 (by decide) ?_
          refine lv_imul hx hb dX5_takeStreets_97 ?_
          refine lv_aload_n hx hb dX5_takeStreets_98 rfl (lv_at hl 3 rfl) ?_
          refine va_get (C := RX4) (T := TX4) (N := 15) (v := .ref (qm 8)) hx hb hts iw4 hown hK hP 2 rfl rfl 7 (Nat.le_of_ble_eq_true rfl) lk58 (fun _ h9 => h9) rfl dX5_takeStreets_99 ?_
          refine lv_iload_n hx hb dX5_takeStreets_102 rfl (lv_at hl 5 rfl) ?_
          obtain ⟨hi8, h⟩ := xb_some h
          refine va_iald hx hb hK hP 3 0 rfl rfl hi8 dX5_takeStreets_103 ?_
          refine lv_iadd hx hb dX5_takeStreets_104 ?_
          refine lv_istore (lv' := [(6, .int (((m_farEnds x3.toNatClampNeg) * (7 : Int32)) + (m_ends x3.toNatClampNeg))), (5, .int (((m_ends x3.toNatClampNeg) * (7 : Int32)) + (m_farEnds x3.toNatClampNeg))), (4, .int r4), (0, .ref (q 0)), (1, .ref (qm 0)), (2, .int x2), (3, .int x3)]) hx hb dX5_takeStreets_105 hl (by decide) rfl (fun ls hl => ?_)
          refine lv_aload_n hx hb dX5_takeStreets_107 rfl (lv_at hl 3 rfl) ?_
          refine va_get (C := RX5) (T := TX5) (N := 7) (v := .ref (q 5)) hx hb hts iw5 hown hK hP 0 rfl rfl 4 (Nat.le_of_ble_eq_true rfl) lk21 (fun _ h9 => h9) rfl dX5_takeStreets_108 ?_
          refine lv_iload hx hb dX5_takeStreets_111 (lv_at hl 1 rfl) ?_
          refine lv_aload_n hx hb dX5_takeStreets_113 rfl (lv_at hl 3 rfl) ?_
          refine va_get (C := RX5) (T := TX5) (N := 7) (v := .ref (q 5)) hx hb hts iw5 hown hK hP 0 rfl rfl 4 (Nat.le_of_ble_eq_true rfl) lk21 (fun _ h9 => h9) rfl dX5_takeStreets_114 ?_
          refine lv_iload hx hb dX5_takeStreets_117 (lv_at hl 1 rfl) ?_
          obtain ⟨hi9, h⟩ := xb_some h
          refine va_iald hx hb hK hP 1 0 rfl rfl hi9 dX5_takeStreets_119 ?_
          refine lv_iload hx hb dX5_takeStreets_120 (lv_at hl 2 rfl) ?_
          refine va_mmin hx hb (hml.trans hl.1.symm) hown (hts (.methodLink RX5 64 Lib.Math.min.name) (by decide +kernel)) (hts (.static Lib.Math.min.name) (by decide +kernel)) (hts (.initialized "java/lang/Math") (by decide +kernel)) (hts (.code Lib.Math.min.name Lib.Math.min.code 2 (some .int)) (by decide +kernel)) (Nat.le_of_ble_eq_true rfl) (Nat.le_of_ble_eq_true rfl) (Nat.zero_le _) (Nat.zero_le _) dX5_takeStreets_122 ?_
          obtain ⟨hi10, h⟩ := xb_some h
          refine va_iast hx hb hK hP hD hS 1 0 rfl rfl hi10 dX5_takeStreets_125 (fun H locs hP hD hS => ?_)
          have hP : va_P D vwCl [oX5 q v_size v_bestWorth v_bestSet, rA (q 5) cI 49 (upd v_ways (((m_ends x3.toNatClampNeg) * (7 : Int32)) + (m_farEnds x3.toNatClampNeg)).toNatClampNeg (if r4 < (v_ways (((m_ends x3.toNatClampNeg) * (7 : Int32)) + (m_farEnds x3.toNatClampNeg)).toNatClampNeg) then r4 else (v_ways (((m_ends x3.toNatClampNeg) * (7 : Int32)) + (m_farEnds x3.toNatClampNeg)).toNatClampNeg))), oX4 qm m_cornerCount m_streetCount m_guideCount m_bellCount m_hand m_handTold, rA (qm 8) cI 9 m_ends, rA (qm 9) cI 9 m_farEnds, rA (qm 10) cI 9 m_lengths, rA (qm 11) cI 4 m_paces, rA (qm 13) cI 4 m_knows] H := hP
          have hD : va_D A [oX5 q v_size v_bestWorth v_bestSet, rA (q 5) cI 49 (upd v_ways (((m_ends x3.toNatClampNeg) * (7 : Int32)) + (m_farEnds x3.toNatClampNeg)).toNatClampNeg (if r4 < (v_ways (((m_ends x3.toNatClampNeg) * (7 : Int32)) + (m_farEnds x3.toNatClampNeg)).toNatClampNeg) then r4 else (v_ways (((m_ends x3.toNatClampNeg) * (7 : Int32)) + (m_farEnds x3.toNatClampNeg)).toNatClampNeg))), oX4 qm m_cornerCount m_streetCount m_guideCount m_bellCount m_hand m_handTold, rA (qm 8) cI 9 m_ends, rA (qm 9) cI 9 m_farEnds, rA (qm 10) cI 9 m_lengths, rA (qm 11) cI 4 m_paces, rA (qm 13) cI 4 m_knows] := hD
          refine lv_aload_n hx hb dX5_takeStreets_126 rfl (lv_at hl 3 rfl) ?_
          refine va_get (C := RX5) (T := TX5) (N := 7) (v := .ref (q 5)) hx hb hts iw5 hown hK hP 0 rfl rfl 4 (Nat.le_of_ble_eq_true rfl) lk21 (fun _ h9 => h9) rfl dX5_takeStreets_127 ?_
          refine lv_iload hx hb dX5_takeStreets_130 (lv_at hl 0 rfl) ?_
          refine lv_aload_n hx hb dX5_takeStreets_132 rfl (lv_at hl 3 rfl) ?_
          refine va_get (C := RX5) (T := TX5) (N := 7) (v := .ref (q 5)) hx hb hts iw5 hown hK hP 0 rfl rfl 4 (Nat.le_of_ble_eq_true rfl) lk21 (fun _ h9 => h9) rfl dX5_takeStreets_133 ?_
          refine lv_iload hx hb dX5_takeStreets_136 (lv_at hl 0 rfl) ?_
          obtain ⟨hi11, h⟩ := xb_some h
          refine va_iald hx hb hK hP 1 0 rfl rfl hi11 dX5_takeStreets_138 ?_
          refine lv_iload hx hb dX5_takeStreets_139 (lv_at hl 2 rfl) ?_
          refine va_mmin hx hb (hml.trans hl.1.symm) hown (hts (.methodLink RX5 64 Lib.Math.min.name) (by decide +kernel)) (hts (.static Lib.Math.min.name) (by decide +kernel)) (hts (.initialized "java/lang/Math") (by decide +kernel)) (hts (.code Lib.Math.min.name Lib.Math.min.code 2 (some .int)) (by decide +kernel)) (Nat.le_of_ble_eq_true rfl) (Nat.le_of_ble_eq_true rfl) (Nat.zero_le _) (Nat.zero_le _) dX5_takeStreets_141 ?_
          obtain ⟨hi12, h⟩ := xb_some h
          refine va_iast hx hb hK hP hD hS 1 0 rfl rfl hi12 dX5_takeStreets_144 (fun H locs hP hD hS => ?_)
          have hP : va_P D vwCl [oX5 q v_size v_bestWorth v_bestSet, rA (q 5) cI 49 (upd (upd v_ways (((m_ends x3.toNatClampNeg) * (7 : Int32)) + (m_farEnds x3.toNatClampNeg)).toNatClampNeg (if r4 < (v_ways (((m_ends x3.toNatClampNeg) * (7 : Int32)) + (m_farEnds x3.toNatClampNeg)).toNatClampNeg) then r4 else (v_ways (((m_ends x3.toNatClampNeg) * (7 : Int32)) + (m_farEnds x3.toNatClampNeg)).toNatClampNeg))) (((m_farEnds x3.toNatClampNeg) * (7 : Int32)) + (m_ends x3.toNatClampNeg)).toNatClampNeg (if r4 < ((upd v_ways (((m_ends x3.toNatClampNeg) * (7 : Int32)) + (m_farEnds x3.toNatClampNeg)).toNatClampNeg (if r4 < (v_ways (((m_ends x3.toNatClampNeg) * (7 : Int32)) + (m_farEnds x3.toNatClampNeg)).toNatClampNeg) then r4 else (v_ways (((m_ends x3.toNatClampNeg) * (7 : Int32)) + (m_farEnds x3.toNatClampNeg)).toNatClampNeg))) (((m_farEnds x3.toNatClampNeg) * (7 : Int32)) + (m_ends x3.toNatClampNeg)).toNatClampNeg) then r4 else ((upd v_ways (((m_ends x3.toNatClampNeg) * (7 : Int32)) + (m_farEnds x3.toNatClampNeg)).toNatClampNeg (if r4 < (v_ways (((m_ends x3.toNatClampNeg) * (7 : Int32)) + (m_farEnds x3.toNatClampNeg)).toNatClampNeg) then r4 else (v_ways (((m_ends x3.toNatClampNeg) * (7 : Int32)) + (m_farEnds x3.toNatClampNeg)).toNatClampNeg))) (((m_farEnds x3.toNatClampNeg) * (7 : Int32)) + (m_ends x3.toNatClampNeg)).toNatClampNeg))), oX4 qm m_cornerCount m_streetCount m_guideCount m_bellCount m_hand m_handTold, rA (qm 8) cI 9 m_ends, rA (qm 9) cI 9 m_farEnds, rA (qm 10) cI 9 m_lengths, rA (qm 11) cI 4 m_paces, rA (qm 13) cI 4 m_knows] H := hP
          have hD : va_D A [oX5 q v_size v_bestWorth v_bestSet, rA (q 5) cI 49 (upd (upd v_ways (((m_ends x3.toNatClampNeg) * (7 : Int32)) + (m_farEnds x3.toNatClampNeg)).toNatClampNeg (if r4 < (v_ways (((m_ends x3.toNatClampNeg) * (7 : Int32)) + (m_farEnds x3.toNatClampNeg)).toNatClampNeg) then r4 else (v_ways (((m_ends x3.toNatClampNeg) * (7 : Int32)) + (m_farEnds x3.toNatClampNeg)).toNatClampNeg))) (((m_farEnds x3.toNatClampNeg) * (7 : Int32)) + (m_ends x3.toNatClampNeg)).toNatClampNeg (if r4 < ((upd v_ways (((m_ends x3.toNatClampNeg) * (7 : Int32)) + (m_farEnds x3.toNatClampNeg)).toNatClampNeg (if r4 < (v_ways (((m_ends x3.toNatClampNeg) * (7 : Int32)) + (m_farEnds x3.toNatClampNeg)).toNatClampNeg) then r4 else (v_ways (((m_ends x3.toNatClampNeg) * (7 : Int32)) + (m_farEnds x3.toNatClampNeg)).toNatClampNeg))) (((m_farEnds x3.toNatClampNeg) * (7 : Int32)) + (m_ends x3.toNatClampNeg)).toNatClampNeg) then r4 else ((upd v_ways (((m_ends x3.toNatClampNeg) * (7 : Int32)) + (m_farEnds x3.toNatClampNeg)).toNatClampNeg (if r4 < (v_ways (((m_ends x3.toNatClampNeg) * (7 : Int32)) + (m_farEnds x3.toNatClampNeg)).toNatClampNeg) then r4 else (v_ways (((m_ends x3.toNatClampNeg) * (7 : Int32)) + (m_farEnds x3.toNatClampNeg)).toNatClampNeg))) (((m_farEnds x3.toNatClampNeg) * (7 : Int32)) + (m_ends x3.toNatClampNeg)).toNatClampNeg))), oX4 qm m_cornerCount m_streetCount m_guideCount m_bellCount m_hand m_handTold, rA (qm 8) cI 9 m_ends, rA (qm 9) cI 9 m_farEnds, rA (qm 10) cI 9 m_lengths, rA (qm 11) cI 4 m_paces, rA (qm 13) cI 4 m_knows] := hD
          refine lv_iinc (v := x3 + 1) (lv' := [(3, .int (x3 + 1)), (6, .int (((m_farEnds x3.toNatClampNeg) * (7 : Int32)) + (m_ends x3.toNatClampNeg))), (5, .int (((m_ends x3.toNatClampNeg) * (7 : Int32)) + (m_farEnds x3.toNatClampNeg))), (4, .int r4), (0, .ref (q 0)), (1, .ref (qm 0)), (2, .int x2)]) hx hb dX5_takeStreets_145 hl (k := 6) rfl rfl (by decide) rfl (fun ls hl => ?_)
          refine lv_goto (tgt := 43) hx hb dX5_takeStreets_148 (by decide) ?_
          exact ih43 (upd (upd v_ways (((m_ends x3.toNatClampNeg) * (7 : Int32)) + (m_farEnds x3.toNatClampNeg)).toNatClampNeg (if r4 < (v_ways (((m_ends x3.toNatClampNeg) * (7 : Int32)) + (m_farEnds x3.toNatClampNeg)).toNatClampNeg) then r4 else (v_ways (((m_ends x3.toNatClampNeg) * (7 : Int32)) + (m_farEnds x3.toNatClampNeg)).toNatClampNeg))) (((m_farEnds x3.toNatClampNeg) * (7 : Int32)) + (m_ends x3.toNatClampNeg)).toNatClampNeg (if r4 < ((upd v_ways (((m_ends x3.toNatClampNeg) * (7 : Int32)) + (m_farEnds x3.toNatClampNeg)).toNatClampNeg (if r4 < (v_ways (((m_ends x3.toNatClampNeg) * (7 : Int32)) + (m_farEnds x3.toNatClampNeg)).toNatClampNeg) then r4 else (v_ways (((m_ends x3.toNatClampNeg) * (7 : Int32)) + (m_farEnds x3.toNatClampNeg)).toNatClampNeg))) (((m_farEnds x3.toNatClampNeg) * (7 : Int32)) + (m_ends x3.toNatClampNeg)).toNatClampNeg) then r4 else ((upd v_ways (((m_ends x3.toNatClampNeg) * (7 : Int32)) + (m_farEnds x3.toNatClampNeg)).toNatClampNeg (if r4 < (v_ways (((m_ends x3.toNatClampNeg) * (7 : Int32)) + (m_farEnds x3.toNatClampNeg)).toNatClampNeg) then r4 else (v_ways (((m_ends x3.toNatClampNeg) * (7 : Int32)) + (m_farEnds x3.toNatClampNeg)).toNatClampNeg))) (((m_farEnds x3.toNatClampNeg) * (7 : Int32)) + (m_ends x3.toNatClampNeg)).toNatClampNeg))) x2 (x3 + 1) H locs ls h hP hD hS (lv_sub hl [4, 5, 6, 0] rfl)
        · have h := (if_pos c3).symm.trans h
          refine lv_goto (tgt := 145) hx hb dX5_takeStreets_60 (by decide) ?_
          refine lv_iinc (v := x3 + 1) (lv' := [(3, .int (x3 + 1)), (0, .ref (q 0)), (1, .ref (qm 0)), (2, .int x2)]) hx hb dX5_takeStreets_145 hl (k := 3) rfl rfl (by decide) rfl (fun ls hl => ?_)
          refine lv_goto (tgt := 43) hx hb dX5_takeStreets_148 (by decide) ?_
          exact ih43 v_ways x2 (x3 + 1) H locs ls h hP hD hS (lv_sub hl [1, 2, 3, 0] rfl)
  have hL2 : ∀ (n2 : Nat), ∀ (v_ways : (Nat → Int32)) (x2 : Int32) (x3 : Int32) (H : Heap) (locs : List Loc) (ls : Array Slot), f_X5_takeStreets_L2 fu n2 v_ways m_streetCount m_guideCount m_ends m_farEnds m_lengths m_paces m_knows x2 x3 = some res → va_P D vwCl [oX5 q v_size v_bestWorth v_bestSet, rA (q 5) cI 49 v_ways, oX4 qm m_cornerCount m_streetCount m_guideCount m_bellCount m_hand m_handTold, rA (qm 8) cI 9 m_ends, rA (qm 9) cI 9 m_farEnds, rA (qm 10) cI 9 m_lengths, rA (qm 11) cI 4 m_paces, rA (qm 13) cI 4 m_knows] H → va_D A [oX5 q v_size v_bestWorth v_bestSet, rA (q 5) cI 49 v_ways, oX4 qm m_cornerCount m_streetCount m_guideCount m_bellCount m_hand m_handTold, rA (qm 8) cI 9 m_ends, rA (qm 9) cI 9 m_farEnds, rA (qm 10) cI 9 m_lengths, rA (qm 11) cI 4 m_paces, rA (qm 13) cI 4 m_knows] → va_S A s.heap H locs → lv_has ls 7 [(0, .ref (q 0)), (1, .ref (qm 0)), (2, .int x2), (3, .int x3)] → W p l e rm_X5_takeStreets s m args below meth c H locs 0 0 Q (F0 m 2 ls []) := by
    intro n2
    induction n2 with
    | zero =>
      intro v_ways x2 x3 H locs ls h hP hD hS hl
      cases (show (none : Option R_X5_takeStreets) = some res from h)
    | succ n2 ih2 =>
      intro v_ways x2 x3 H locs ls h hP hD hS hl
      have h : f_X5_takeStreets_L2b fu (f_X5_takeStreets_L2 fu n2) v_ways m_streetCount m_guideCount m_ends m_farEnds m_lengths m_paces m_knows x2 x3 = some res := h
      unfold f_X5_takeStreets_L2b at h
      refine lv_iload_n hx hb dX5_takeStreets_2 rfl (lv_at hl 3 rfl) ?_
      refine lv_aload_n hx hb dX5_takeStreets_3 rfl (lv_at hl 0 rfl) ?_
      refine va_get (C := RX5) (T := TX5) (N := 7) (v := .ref (q 5)) hx hb hts iw5 hown hK hP 0 rfl rfl 4 (Nat.le_of_ble_eq_true rfl) lk21 (fun _ h9 => h9) rfl dX5_takeStreets_4 ?_
      refine va_alen (v := 49) hx hb hK hP 1 0 rfl rfl rfl dX5_takeStreets_7 ?_
      refine lv_icmp_ge (tgt := 41) hx hb dX5_takeStreets_8 (by decide) (fun c13 => ?_) (fun c13 => ?_)
      · have h := (if_pos c13).symm.trans h
        refine lv_iconst (v := 0) hx hb dX5_takeStreets_41 (by decide) ?_
        refine lv_istore_n (lv' := [(3, .int (0 : Int32)), (0, .ref (q 0)), (1, .ref (qm 0)), (2, .int x2)]) hx hb dX5_takeStreets_42 rfl hl (by decide) rfl (fun ls hl => ?_)
        exact hL43 fu v_ways x2 (0 : Int32) H locs ls h hP hD hS (lv_sub hl [1, 2, 3, 0] rfl)
      · have h := (if_neg c13).symm.trans h
        refine lv_aload_n hx hb dX5_takeStreets_11 rfl (lv_at hl 0 rfl) ?_
        refine va_get (C := RX5) (T := TX5) (N := 7) (v := .ref (q 5)) hx hb hts iw5 hown hK hP 0 rfl rfl 4 (Nat.le_of_ble_eq_true rfl) lk21 (fun _ h9 => h9) rfl dX5_takeStreets_12 ?_
        refine lv_iload_n hx hb dX5_takeStreets_15 rfl (lv_at hl 3 rfl) ?_
        refine lv_iload_n hx hb dX5_takeStreets_16 rfl (lv_at hl 3 rfl) ?_
        refine lv_bipush (v := 7) hx hb dX5_takeStreets_17 (by decide) ?_
        refine lv_idiv hx hb dX5_takeStreets_19 (by decide) ?_
        refine lv_iload_n hx hb dX5_takeStreets_20 rfl (lv_at hl 3 rfl) ?_
        refine lv_bipush (v := 7) hx hb dX5_takeStreets_21 (by decide) ?_
        refine lv_irem hx hb dX5_takeStreets_23 (by decide) ?_
        refine lv_icmp_ne (tgt := 31) hx hb dX5_takeStreets_24 (by decide) (fun c14 => ?_) (fun c14 => ?_)
        · have h := (if_neg c14).symm.trans h
          refine lv_sipush (v := 10000) hx hb dX5_takeStreets_31 (by decide) ?_
          obtain ⟨hi15, h⟩ := xb_some h
          refine va_iast hx hb hK hP hD hS 1 0 rfl rfl hi15 dX5_takeStreets_34 (fun H locs hP hD hS => ?_)
          have hP : va_P D vwCl [oX5 q v_size v_bestWorth v_bestSet, rA (q 5) cI 49 (upd v_ways x3.toNatClampNeg (10000 : Int32)), oX4 qm m_cornerCount m_streetCount m_guideCount m_bellCount m_hand m_handTold, rA (qm 8) cI 9 m_ends, rA (qm 9) cI 9 m_farEnds, rA (qm 10) cI 9 m_lengths, rA (qm 11) cI 4 m_paces, rA (qm 13) cI 4 m_knows] H := hP
          have hD : va_D A [oX5 q v_size v_bestWorth v_bestSet, rA (q 5) cI 49 (upd v_ways x3.toNatClampNeg (10000 : Int32)), oX4 qm m_cornerCount m_streetCount m_guideCount m_bellCount m_hand m_handTold, rA (qm 8) cI 9 m_ends, rA (qm 9) cI 9 m_farEnds, rA (qm 10) cI 9 m_lengths, rA (qm 11) cI 4 m_paces, rA (qm 13) cI 4 m_knows] := hD
          refine lv_iinc (v := x3 + 1) (lv' := [(3, .int (x3 + 1)), (0, .ref (q 0)), (1, .ref (qm 0)), (2, .int x2)]) hx hb dX5_takeStreets_35 hl (k := 3) rfl rfl (by decide) rfl (fun ls hl => ?_)
          refine lv_goto (tgt := 2) hx hb dX5_takeStreets_38 (by decide) ?_
          exact ih2 (upd v_ways x3.toNatClampNeg (10000 : Int32)) x2 (x3 + 1) H locs ls h hP hD hS (lv_sub hl [1, 2, 3, 0] rfl)
        · have h := (if_pos c14).symm.trans h
          refine lv_iconst (v := 0) hx hb dX5_takeStreets_27 (by decide) ?_
          refine lv_goto (tgt := 34) hx hb dX5_takeStreets_28 (by decide) ?_
          obtain ⟨hi16, h⟩ := xb_some h
          refine va_iast hx hb hK hP hD hS 1 0 rfl rfl hi16 dX5_takeStreets_34 (fun H locs hP hD hS => ?_)
          have hP : va_P D vwCl [oX5 q v_size v_bestWorth v_bestSet, rA (q 5) cI 49 (upd v_ways x3.toNatClampNeg (0 : Int32)), oX4 qm m_cornerCount m_streetCount m_guideCount m_bellCount m_hand m_handTold, rA (qm 8) cI 9 m_ends, rA (qm 9) cI 9 m_farEnds, rA (qm 10) cI 9 m_lengths, rA (qm 11) cI 4 m_paces, rA (qm 13) cI 4 m_knows] H := hP
          have hD : va_D A [oX5 q v_size v_bestWorth v_bestSet, rA (q 5) cI 49 (upd v_ways x3.toNatClampNeg (0 : Int32)), oX4 qm m_cornerCount m_streetCount m_guideCount m_bellCount m_hand m_handTold, rA (qm 8) cI 9 m_ends, rA (qm 9) cI 9 m_farEnds, rA (qm 10) cI 9 m_lengths, rA (qm 11) cI 4 m_paces, rA (qm 13) cI 4 m_knows] := hD
          refine lv_iinc (v := x3 + 1) (lv' := [(3, .int (x3 + 1)), (0, .ref (q 0)), (1, .ref (qm 0)), (2, .int x2)]) hx hb dX5_takeStreets_35 hl (k := 3) rfl rfl (by decide) rfl (fun ls hl => ?_)
          refine lv_goto (tgt := 2) hx hb dX5_takeStreets_38 (by decide) ?_
          exact ih2 (upd v_ways x3.toNatClampNeg (0 : Int32)) x2 (x3 + 1) H locs ls h hP hD hS (lv_sub hl [1, 2, 3, 0] rfl)
  have h := hf
  unfold f_X5_takeStreets at h
  obtain ⟨H, eH⟩ : ∃ H, H = s.heap := ⟨_, rfl⟩
  rw [← eH] at hP ⊢
  obtain ⟨locs, el⟩ : ∃ locs : List Loc, locs = [] := ⟨_, rfl⟩
  rw [← el] at hS ⊢
  have hS : va_S A s.heap H locs := by rw [eH]; exact hS
  refine lv_iconst (v := 0) hx hb dX5_takeStreets_0 (by decide) ?_
  refine lv_istore_n (lv' := [(3, .int (0 : Int32)), (0, .ref (q 0)), (1, .ref (qm 0)), (2, .int x2)]) hx hb dX5_takeStreets_1 rfl hl (by decide) rfl (fun ls hl => ?_)
  exact hL2 fu v_ways x2 (0 : Int32) H locs ls h hP hD hS (lv_sub hl [1, 2, 3, 0] rfl)
abbrev rm_X5_shortenWays : Room := { frames := 1, cells := 0, slots := 0, locals := 64 }
set_option maxHeartbeats 4000000 in
set_option maxRecDepth 100000 in
theorem k_X5_shortenWays (l : Launch) (D : va_G) (cI cZ cT : ClassId) (q : Nat → Nat) (sz : Nat) (v_size : Int32) (v_bestWorth : Int32) (v_bestSet : Int32) (v_ways : Nat → Int32) (res : R_X5_shortenWays) (fu : Nat) (hf : f_X5_shortenWays fu v_ways = some res) : Met l yX5_shortenWays wsX5_shortenWays rm_X5_shortenWays (cPre D (tyz cI cZ cT) [.ref (q 0)] sz [oX5 q v_size v_bestWorth v_bestSet, rA (q 5) cI 49 v_ways]) (cPv D (tyz cI cZ cT) (fun (u : (Nat → Int32)) => u = res) (fun u => [oX5 q v_size v_bestWorth v_bestSet, rA (q 5) cI 49 u]) [oX5 q v_size v_bestWorth v_bestSet, rA (q 5) cI 49 v_ways] sz) 0 0 (va_A [oX5 q v_size v_bestWorth v_bestSet, rA (q 5) cI 49 v_ways] sz) := by
  refine vx_meth_v (by decide) rfl (Nat.le_of_ble_eq_true rfl) ?_
  intro p e s m args below meth c A Q hx hb hml hown hts hK hP hD hA hS hret ls hl
  have hown : s.vm.findClass RX5 = some m.cls := hown
  have hl : lv_has ls 5 [(0, .ref (q 0))] := hl
  have hFx : CallFix p m c cX5_shortenWays 5 s args wsX5_shortenWays RX5 := ⟨hx, hb, hml, hown, hts⟩
  have lk21 := hts (.fieldLink RX5 21 "FogGuides$WishList" "ways" "[I") (by decide +kernel)
  have iw5 : ∀ w ∈ u_ws RX5 TX5 7, w ∈ wsX5_shortenWays := by decide +kernel
  have hL2 : ∀ (n2 : Nat), ∀ (v_ways : (Nat → Int32)) (x1 : Int32) (H : Heap) (locs : List Loc) (ls : Array Slot), f_X5_shortenWays_L2 fu n2 v_ways x1 = some res → va_P D vwCl [oX5 q v_size v_bestWorth v_bestSet, rA (q 5) cI 49 v_ways] H → va_D A [oX5 q v_size v_bestWorth v_bestSet, rA (q 5) cI 49 v_ways] → va_S A s.heap H locs → lv_has ls 5 [(0, .ref (q 0)), (1, .int x1)] → W p l e rm_X5_shortenWays s m args below meth c H locs 0 0 Q (F0 m 2 ls []) := by
    intro n2
    induction n2 with
    | zero =>
      intro v_ways x1 H locs ls h hP hD hS hl
      cases (show (none : Option R_X5_shortenWays) = some res from h)
    | succ n2 ih2 =>
      have hL10 : ∀ (n10 : Nat), ∀ (v_ways : (Nat → Int32)) (x1 : Int32) (x2 : Int32) (H : Heap) (locs : List Loc) (ls : Array Slot), f_X5_shortenWays_L10 fu (f_X5_shortenWays_L2 fu n2) n10 v_ways x1 x2 = some res → va_P D vwCl [oX5 q v_size v_bestWorth v_bestSet, rA (q 5) cI 49 v_ways] H → va_D A [oX5 q v_size v_bestWorth v_bestSet, rA (q 5) cI 49 v_ways] → va_S A s.heap H locs → lv_has ls 5 [(0, .ref (q 0)), (1, .int x1), (2, .int x2)] → W p l e rm_X5_shortenWays s m args below meth c H locs 0 0 Q (F0 m 10 ls []) := by
        intro n10
        induction n10 with
        | zero =>
          intro v_ways x1 x2 H locs ls h hP hD hS hl
          cases (show (none : Option R_X5_shortenWays) = some res from h)
        | succ n10 ih10 =>
          intro v_ways x1 x2 H locs ls h hP hD hS hl
          have h : f_X5_shortenWays_L10b fu (f_X5_shortenWays_L2 fu n2) (f_X5_shortenWays_L10 fu (f_X5_shortenWays_L2 fu n2) n10) v_ways x1 x2 = some res := h
          unfold f_X5_shortenWays_L10b at h
          refine lv_iload_n hx hb dX5_shortenWays_10 rfl (lv_at hl 2 rfl) ?_
          refine lv_aload_n hx hb dX5_shortenWays_11 rfl (lv_at hl 0 rfl) ?_
          refine va_get (C := RX5) (T := TX5) (N := 7) (v := .ref (q 5)) hx hb hts iw5 hown hK hP 0 rfl rfl 4 (Nat.le_of_ble_eq_true rfl) lk21 (fun _ h9 => h9) rfl dX5_shortenWays_12 ?_
          refine va_alen (v := 49) hx hb hK hP 1 0 rfl rfl rfl dX5_shortenWays_15 ?_
          refine lv_icmp_ge (tgt := 75) hx hb dX5_shortenWays_16 (by decide) (fun c1 => ?_) (fun c1 => ?_)
          · have h := (if_pos c1).symm.trans h
            refine lv_iinc (v := x1 + 1) (lv' := [(1, .int (x1 + 1)), (0, .ref (q 0)), (2, .int x2)]) hx hb dX5_shortenWays_75 hl (k := 1) rfl rfl (by decide) rfl (fun ls hl => ?_)
            refine lv_goto (tgt := 2) hx hb dX5_shortenWays_78 (by decide) ?_
            exact ih2 v_ways (x1 + 1) H locs ls h hP hD hS (lv_sub hl [1, 0] rfl)
          · have h := (if_neg c1).symm.trans h
            refine lv_aload_n hx hb dX5_shortenWays_19 rfl (lv_at hl 0 rfl) ?_
            refine va_get (C := RX5) (T := TX5) (N := 7) (v := .ref (q 5)) hx hb hts iw5 hown hK hP 0 rfl rfl 4 (Nat.le_of_ble_eq_true rfl) lk21 (fun _ h9 => h9) rfl dX5_shortenWays_20 ?_
            refine lv_iload_n hx hb dX5_shortenWays_23 rfl (lv_at hl 2 rfl) ?_
            refine lv_bipush (v := 7) hx hb dX5_shortenWays_24 (by decide) ?_
            refine lv_idiv hx hb dX5_shortenWays_26 (by decide) ?_
            refine lv_bipush (v := 7) hx hb dX5_shortenWays_27 (by decide) ?_
            refine lv_imul hx hb dX5_shortenWays_29 ?_
            refine lv_iload_n hx hb dX5_shortenWays_30 rfl (lv_at hl 1 rfl) ?_
            refine lv_iadd hx hb dX5_shortenWays_31 ?_
            obtain ⟨hi2, h⟩ := xb_some h
            refine va_iald hx hb hK hP 1 0 rfl rfl hi2 dX5_shortenWays_32 ?_
            refine lv_istore_n (lv' := [(3, .int (v_ways (((x2 / (7 : Int32)) * (7 : Int32)) + x1).toNatClampNeg)), (0, .ref (q 0)), (1, .int x1), (2, .int x2)]) hx hb dX5_shortenWays_33 rfl hl (by decide) rfl (fun ls hl => ?_)
            refine lv_aload_n hx hb dX5_shortenWays_34 rfl (lv_at hl 1 rfl) ?_
            refine va_get (C := RX5) (T := TX5) (N := 7) (v := .ref (q 5)) hx hb hts iw5 hown hK hP 0 rfl rfl 4 (Nat.le_of_ble_eq_true rfl) lk21 (fun _ h9 => h9) rfl dX5_shortenWays_35 ?_
            refine lv_iload_n hx hb dX5_shortenWays_38 rfl (lv_at hl 2 rfl) ?_
            refine lv_bipush (v := 7) hx hb dX5_shortenWays_39 (by decide) ?_
            refine lv_imul hx hb dX5_shortenWays_41 ?_
            refine lv_iload_n hx hb dX5_shortenWays_42 rfl (lv_at hl 3 rfl) ?_
            refine lv_bipush (v := 7) hx hb dX5_shortenWays_43 (by decide) ?_
            refine lv_irem hx hb dX5_shortenWays_45 (by decide) ?_
            refine lv_iadd hx hb dX5_shortenWays_46 ?_
            obtain ⟨hi3, h⟩ := xb_some h
            refine va_iald hx hb hK hP 1 0 rfl rfl hi3 dX5_shortenWays_47 ?_
            refine lv_istore (lv' := [(4, .int (v_ways ((x1 * (7 : Int32)) + (x2 - x2 / (7 : Int32) * (7 : Int32))).toNatClampNeg)), (3, .int (v_ways (((x2 / (7 : Int32)) * (7 : Int32)) + x1).toNatClampNeg)), (0, .ref (q 0)), (1, .int x1), (2, .int x2)]) hx hb dX5_shortenWays_48 hl (by decide) rfl (fun ls hl => ?_)
            refine lv_aload_n hx hb dX5_shortenWays_50 rfl (lv_at hl 2 rfl) ?_
            refine va_get (C := RX5) (T := TX5) (N := 7) (v := .ref (q 5)) hx hb hts iw5 hown hK hP 0 rfl rfl 4 (Nat.le_of_ble_eq_true rfl) lk21 (fun _ h9 => h9) rfl dX5_shortenWays_51 ?_
            refine lv_iload_n hx hb dX5_shortenWays_54 rfl (lv_at hl 4 rfl) ?_
            refine lv_aload_n hx hb dX5_shortenWays_55 rfl (lv_at hl 2 rfl) ?_
            refine va_get (C := RX5) (T := TX5) (N := 7) (v := .ref (q 5)) hx hb hts iw5 hown hK hP 0 rfl rfl 4 (Nat.le_of_ble_eq_true rfl) lk21 (fun _ h9 => h9) rfl dX5_shortenWays_56 ?_
            refine lv_iload_n hx hb dX5_shortenWays_59 rfl (lv_at hl 4 rfl) ?_
            obtain ⟨hi4, h⟩ := xb_some h
            refine va_iald hx hb hK hP 1 0 rfl rfl hi4 dX5_shortenWays_60 ?_
            refine lv_iload_n hx hb dX5_shortenWays_61 rfl (lv_at hl 1 rfl) ?_
            refine lv_iload hx hb dX5_shortenWays_62 (lv_at hl 0 rfl) ?_
            refine lv_iadd hx hb dX5_shortenWays_64 ?_
            refine va_mmin hx hb (hml.trans hl.1.symm) hown (hts (.methodLink RX5 64 Lib.Math.min.name) (by decide +kernel)) (hts (.static Lib.Math.min.name) (by decide +kernel)) (hts (.initialized "java/lang/Math") (by decide +kernel)) (hts (.code Lib.Math.min.name Lib.Math.min.code 2 (some .int)) (by decide +kernel)) (Nat.le_of_ble_eq_true rfl) (Nat.le_of_ble_eq_true rfl) (Nat.zero_le _) (Nat.zero_le _) dX5_shortenWays_65 ?_
            obtain ⟨hi5, h⟩ := xb_some h
            refine va_iast hx hb hK hP hD hS 1 0 rfl rfl hi5 dX5_shortenWays_68 (fun H locs hP hD hS => ?_)
            have hP : va_P D vwCl [oX5 q v_size v_bestWorth v_bestSet, rA (q 5) cI 49 (upd v_ways x2.toNatClampNeg (if ((v_ways (((x2 / (7 : Int32)) * (7 : Int32)) + x1).toNatClampNeg) + (v_ways ((x1 * (7 : Int32)) + (x2 - x2 / (7 : Int32) * (7 : Int32))).toNatClampNeg)) < (v_ways x2.toNatClampNeg) then ((v_ways (((x2 / (7 : Int32)) * (7 : Int32)) + x1).toNatClampNeg) + (v_ways ((x1 * (7 : Int32)) + (x2 - x2 / (7 : Int32) * (7 : Int32))).toNatClampNeg)) else (v_ways x2.toNatClampNeg)))] H := hP
            have hD : va_D A [oX5 q v_size v_bestWorth v_bestSet, rA (q 5) cI 49 (upd v_ways x2.toNatClampNeg (if ((v_ways (((x2 / (7 : Int32)) * (7 : Int32)) + x1).toNatClampNeg) + (v_ways ((x1 * (7 : Int32)) + (x2 - x2 / (7 : Int32) * (7 : Int32))).toNatClampNeg)) < (v_ways x2.toNatClampNeg) then ((v_ways (((x2 / (7 : Int32)) * (7 : Int32)) + x1).toNatClampNeg) + (v_ways ((x1 * (7 : Int32)) + (x2 - x2 / (7 : Int32) * (7 : Int32))).toNatClampNeg)) else (v_ways x2.toNatClampNeg)))] := hD
            refine lv_iinc (v := x2 + 1) (lv' := [(2, .int (x2 + 1)), (4, .int (v_ways ((x1 * (7 : Int32)) + (x2 - x2 / (7 : Int32) * (7 : Int32))).toNatClampNeg)), (3, .int (v_ways (((x2 / (7 : Int32)) * (7 : Int32)) + x1).toNatClampNeg)), (0, .ref (q 0)), (1, .int x1)]) hx hb dX5_shortenWays_69 hl (k := 4) rfl rfl (by decide) rfl (fun ls hl => ?_)
            refine lv_goto (tgt := 10) hx hb dX5_shortenWays_72 (by decide) ?_
            exact ih10 (upd v_ways x2.toNatClampNeg (if ((v_ways (((x2 / (7 : Int32)) * (7 : Int32)) + x1).toNatClampNeg) + (v_ways ((x1 * (7 : Int32)) + (x2 - x2 / (7 : Int32) * (7 : Int32))).toNatClampNeg)) < (v_ways x2.toNatClampNeg) then ((v_ways (((x2 / (7 : Int32)) * (7 : Int32)) + x1).toNatClampNeg) + (v_ways ((x1 * (7 : Int32)) + (x2 - x2 / (7 : Int32) * (7 : Int32))).toNatClampNeg)) else (v_ways x2.toNatClampNeg))) x1 (x2 + 1) H locs ls h hP hD hS (lv_sub hl [3, 4, 0] rfl)
      intro v_ways x1 H locs ls h hP hD hS hl
      have h : f_X5_shortenWays_L2b fu (f_X5_shortenWays_L2 fu n2) v_ways x1 = some res := h
      unfold f_X5_shortenWays_L2b at h
      refine lv_iload_n hx hb dX5_shortenWays_2 rfl (lv_at hl 1 rfl) ?_
      refine lv_bipush (v := 7) hx hb dX5_shortenWays_3 (by decide) ?_
      refine lv_icmp_ge (tgt := 81) hx hb dX5_shortenWays_5 (by decide) (fun c6 => ?_) (fun c6 => ?_)
      · have h := (if_pos c6).symm.trans h
        exact hret v_ways H locs _ ls (Option.some.inj h) hP hD hS dX5_shortenWays_81
      · have h := (if_neg c6).symm.trans h
        refine lv_iconst (v := 0) hx hb dX5_shortenWays_8 (by decide) ?_
        refine lv_istore_n (lv' := [(2, .int (0 : Int32)), (0, .ref (q 0)), (1, .int x1)]) hx hb dX5_shortenWays_9 rfl hl (by decide) rfl (fun ls hl => ?_)
        exact hL10 fu v_ways x1 (0 : Int32) H locs ls h hP hD hS (lv_sub hl [1, 2, 0] rfl)
  have h := hf
  unfold f_X5_shortenWays at h
  obtain ⟨H, eH⟩ : ∃ H, H = s.heap := ⟨_, rfl⟩
  rw [← eH] at hP ⊢
  obtain ⟨locs, el⟩ : ∃ locs : List Loc, locs = [] := ⟨_, rfl⟩
  rw [← el] at hS ⊢
  have hS : va_S A s.heap H locs := by rw [eH]; exact hS
  refine lv_iconst (v := 0) hx hb dX5_shortenWays_0 (by decide) ?_
  refine lv_istore_n (lv' := [(1, .int (0 : Int32)), (0, .ref (q 0))]) hx hb dX5_shortenWays_1 rfl hl (by decide) rfl (fun ls hl => ?_)
  exact hL2 fu v_ways (0 : Int32) H locs ls h hP hD hS (lv_sub hl [1, 0] rfl)
abbrev rm_X5_tryOn (n : Nat) : Room := { frames := 0 + n, cells := 0, slots := 0, locals := 0 + n * 27 }
set_option maxHeartbeats 4000000 in
set_option maxRecDepth 100000 in
theorem k_X5_tryOn (l : Launch) (D : va_G) (cI cZ cT : ClassId) (fu : Nat) : ∀ (n : Nat) (q : Nat → Nat) (sz : Nat) (v_size : Int32) (v_bestWorth : Int32) (v_bestSet : Int32) (v_froms : Nat → Int32) (v_tos : Nat → Int32) (v_worths : Nat → Int32) (v_ways : Nat → Int32) (x1 : Int32) (x2 : Int32) (x3 : Int32) (x4 : Int32) (x5 : Int32) (res : R_X5_tryOn) (hf : f_X5_tryOn fu n v_size v_froms v_tos v_worths v_ways v_bestWorth v_bestSet x1 x2 x3 x4 x5 = some res), Met l yX5_tryOn wsX5_tryOn (rm_X5_tryOn n) (cPre D (tyz cI cZ cT) [.ref (q 0), .int x1, .int x2, .int x3, .int x4, .int x5] sz [oX5 q v_size v_bestWorth v_bestSet, rA (q 2) cI 4 v_froms, rA (q 3) cI 4 v_tos, rA (q 4) cI 4 v_worths, rA (q 5) cI 49 v_ways]) (cPv D (tyz cI cZ cT) (fun (u : Int32 × Int32) => u = res) (fun u => [oX5 q v_size u.1 u.2, rA (q 2) cI 4 v_froms, rA (q 3) cI 4 v_tos, rA (q 4) cI 4 v_worths, rA (q 5) cI 49 v_ways]) [oX5 q v_size v_bestWorth v_bestSet, rA (q 2) cI 4 v_froms, rA (q 3) cI 4 v_tos, rA (q 4) cI 4 v_worths, rA (q 5) cI 49 v_ways] sz) 0 0 (va_A [oX5 q v_size v_bestWorth v_bestSet, rA (q 2) cI 4 v_froms, rA (q 3) cI 4 v_tos, rA (q 4) cI 4 v_worths, rA (q 5) cI 49 v_ways] sz) := by
  intro n
  induction n with
  | zero =>
    intro q sz v_size v_bestWorth v_bestSet v_froms v_tos v_worths v_ways x1 x2 x3 x4 x5 res hf
    cases (show (none : Option R_X5_tryOn) = some res from hf)
  | succ n IH =>
    intro q sz v_size v_bestWorth v_bestSet v_froms v_tos v_worths v_ways x1 x2 x3 x4 x5 res hf
    refine vx_meth_v (by decide) rfl (Nat.le_of_ble_eq_true rfl) ?_
    intro p e s m args below meth c A Q hx hb hml hown hts hK hP hD hA hS hret ls hl
    have hown : s.vm.findClass RX5 = some m.cls := hown
    have hl : lv_has ls 8 [(0, .ref (q 0)), (1, .int x1), (2, .int x2), (3, .int x3), (4, .int x4), (5, .int x5)] := hl
    have hFx : CallFix p m c cX5_tryOn 8 s args wsX5_tryOn RX5 := ⟨hx, hb, hml, hown, hts⟩
    have lk24 := hts (.fieldLink RX5 24 "FogGuides$WishList" "size" "I") (by decide +kernel)
    have iw5 : ∀ w ∈ u_ws RX5 TX5 7, w ∈ wsX5_tryOn := by decide +kernel
    have lk21 := hts (.fieldLink RX5 21 "FogGuides$WishList" "ways" "[I") (by decide +kernel)
    have lk9 := hts (.fieldLink RX5 9 "FogGuides$WishList" "froms" "[I") (by decide +kernel)
    have lk15 := hts (.fieldLink RX5 15 "FogGuides$WishList" "tos" "[I") (by decide +kernel)
    have lk18 := hts (.fieldLink RX5 18 "FogGuides$WishList" "worths" "[I") (by decide +kernel)
    have lk35 := hts (.fieldLink RX5 35 "FogGuides$WishList" "bestWorth" "I") (by decide +kernel)
    have lk38 := hts (.fieldLink RX5 38 "FogGuides$WishList" "bestSet" "I") (by decide +kernel)
    have hL47 : ∀ (n47 : Nat), ∀ (v_bestWorth : Int32) (v_bestSet : Int32) (x1 : Int32) (x2 : Int32) (x3 : Int32) (x4 : Int32) (x5 : Int32) (x6 : Int32) (H : Heap) (locs : List Loc) (ls : Array Slot), f_X5_tryOn_L47 fu (f_X5_tryOn fu n) n47 v_size v_froms v_tos v_worths v_ways v_bestWorth v_bestSet x1 x2 x3 x4 x5 x6 = some res → va_P D vwCl [oX5 q v_size v_bestWorth v_bestSet, rA (q 2) cI 4 v_froms, rA (q 3) cI 4 v_tos, rA (q 4) cI 4 v_worths, rA (q 5) cI 49 v_ways] H → va_D A [oX5 q v_size v_bestWorth v_bestSet, rA (q 2) cI 4 v_froms, rA (q 3) cI 4 v_tos, rA (q 4) cI 4 v_worths, rA (q 5) cI 49 v_ways] → va_S A s.heap H locs → lv_has ls 8 [(0, .ref (q 0)), (1, .int x1), (2, .int x2), (3, .int x3), (4, .int x4), (5, .int x5), (6, .int x6)] → W p l e (rm_X5_tryOn (n + 1)) s m args below meth c H locs 0 0 Q (F0 m 47 ls []) := by
      intro n47
      induction n47 with
      | zero =>
        intro v_bestWorth v_bestSet x1 x2 x3 x4 x5 x6 H locs ls h hP hD hS hl
        cases (show (none : Option R_X5_tryOn) = some res from h)
      | succ n47 ih47 =>
        intro v_bestWorth v_bestSet x1 x2 x3 x4 x5 x6 H locs ls h hP hD hS hl
        have h : f_X5_tryOn_L47b fu (f_X5_tryOn fu n) (f_X5_tryOn_L47 fu (f_X5_tryOn fu n) n47) v_size v_froms v_tos v_worths v_ways v_bestWorth v_bestSet x1 x2 x3 x4 x5 x6 = some res := h
        unfold f_X5_tryOn_L47b at h
        refine lv_iload hx hb dX5_tryOn_47 (lv_at hl 6 rfl) ?_
        refine lv_aload_n hx hb dX5_tryOn_49 rfl (lv_at hl 0 rfl) ?_
        refine va_get (C := RX5) (T := TX5) (N := 7) (v := .int v_size) hx hb hts iw5 hown hK hP 0 rfl rfl 0 (Nat.le_of_ble_eq_true rfl) lk24 (fun _ h9 => h9) rfl dX5_tryOn_50 ?_
        refine lv_icmp_ge (tgt := 159) hx hb dX5_tryOn_53 (by decide) (fun c1 => ?_) (fun c1 => ?_)
        · have h := (if_pos c1).symm.trans h
          exact hret (v_bestWorth, v_bestSet) H locs _ ls (Option.some.inj h) hP hD hS dX5_tryOn_159
        · have h := (if_neg c1).symm.trans h
          refine lv_iload_n hx hb dX5_tryOn_56 rfl (lv_at hl 3 rfl) ?_
          refine lv_iload hx hb dX5_tryOn_57 (lv_at hl 6 rfl) ?_
          refine lv_ishr hx hb dX5_tryOn_59 ?_
          refine lv_iconst (v := 1) hx hb dX5_tryOn_60 (by decide) ?_
          refine lv_iand hx hb dX5_tryOn_61 ?_
          refine lv_iconst (v := 1) hx hb dX5_tryOn_62 (by decide) ?_
          refine lv_icmp_ne (tgt := 69) hx hb dX5_tryOn_63 (by decide) (fun c2 => ?_) (fun c2 => ?_)
          · have h := (if_neg c2).symm.trans h
            refine lv_aload_n hx hb dX5_tryOn_69 rfl (lv_at hl 0 rfl) ?_
            refine va_get (C := RX5) (T := TX5) (N := 7) (v := .ref (q 5)) hx hb hts iw5 hown hK hP 0 rfl rfl 4 (Nat.le_of_ble_eq_true rfl) lk21 (fun _ h9 => h9) rfl dX5_tryOn_70 ?_
            refine lv_iload_n hx hb dX5_tryOn_73 rfl (lv_at hl 1 rfl) ?_
            refine lv_bipush (v := 7) hx hb dX5_tryOn_74 (by decide) ?_
            refine lv_imul hx hb dX5_tryOn_76 ?_
            refine lv_aload_n hx hb dX5_tryOn_77 rfl (lv_at hl 0 rfl) ?_
            refine va_get (C := RX5) (T := TX5) (N := 7) (v := .ref (q 2)) hx hb hts iw5 hown hK hP 0 rfl rfl 1 (Nat.le_of_ble_eq_true rfl) lk9 (fun _ h9 => h9) rfl dX5_tryOn_78 ?_
            refine lv_iload hx hb dX5_tryOn_81 (lv_at hl 6 rfl) ?_
            obtain ⟨hi3, h⟩ := xb_some h
            refine va_iald hx hb hK hP 1 0 rfl rfl hi3 dX5_tryOn_83 ?_
            refine lv_iadd hx hb dX5_tryOn_84 ?_
            obtain ⟨hi4, h⟩ := xb_some h
            refine va_iald hx hb hK hP 4 0 rfl rfl hi4 dX5_tryOn_85 ?_
            refine lv_aload_n hx hb dX5_tryOn_86 rfl (lv_at hl 0 rfl) ?_
            refine va_get (C := RX5) (T := TX5) (N := 7) (v := .ref (q 5)) hx hb hts iw5 hown hK hP 0 rfl rfl 4 (Nat.le_of_ble_eq_true rfl) lk21 (fun _ h9 => h9) rfl dX5_tryOn_87 ?_
            refine lv_aload_n hx hb dX5_tryOn_90 rfl (lv_at hl 0 rfl) ?_
            refine va_get (C := RX5) (T := TX5) (N := 7) (v := .ref (q 2)) hx hb hts iw5 hown hK hP 0 rfl rfl 1 (Nat.le_of_ble_eq_true rfl) lk9 (fun _ h9 => h9) rfl dX5_tryOn_91 ?_
            refine lv_iload hx hb dX5_tryOn_94 (lv_at hl 6 rfl) ?_
            obtain ⟨hi5, h⟩ := xb_some h
            refine va_iald hx hb hK hP 1 0 rfl rfl hi5 dX5_tryOn_96 ?_
            refine lv_bipush (v := 7) hx hb dX5_tryOn_97 (by decide) ?_
            refine lv_imul hx hb dX5_tryOn_99 ?_
            refine lv_aload_n hx hb dX5_tryOn_100 rfl (lv_at hl 0 rfl) ?_
            refine va_get (C := RX5) (T := TX5) (N := 7) (v := .ref (q 3)) hx hb hts iw5 hown hK hP 0 rfl rfl 2 (Nat.le_of_ble_eq_true rfl) lk15 (fun _ h9 => h9) rfl dX5_tryOn_101 ?_
            refine lv_iload hx hb dX5_tryOn_104 (lv_at hl 6 rfl) ?_
            obtain ⟨hi6, h⟩ := xb_some h
            refine va_iald hx hb hK hP 2 0 rfl rfl hi6 dX5_tryOn_106 ?_
            refine lv_iadd hx hb dX5_tryOn_107 ?_
            obtain ⟨hi7, h⟩ := xb_some h
            refine va_iald hx hb hK hP 4 0 rfl rfl hi7 dX5_tryOn_108 ?_
            refine lv_iadd hx hb dX5_tryOn_109 ?_
            refine lv_istore (lv' := [(7, .int ((v_ways ((x1 * (7 : Int32)) + (v_froms x6.toNatClampNeg)).toNatClampNeg) + (v_ways (((v_froms x6.toNatClampNeg) * (7 : Int32)) + (v_tos x6.toNatClampNeg)).toNatClampNeg))), (0, .ref (q 0)), (1, .int x1), (2, .int x2), (3, .int x3), (4, .int x4), (5, .int x5), (6, .int x6)]) hx hb dX5_tryOn_110 hl (by decide) rfl (fun ls hl => ?_)
            refine lv_iload hx hb dX5_tryOn_112 (lv_at hl 0 rfl) ?_
            refine lv_iload_n hx hb dX5_tryOn_114 rfl (lv_at hl 3 rfl) ?_
            refine lv_icmp_gt (tgt := 153) hx hb dX5_tryOn_115 (by decide) (fun c8 => ?_) (fun c8 => ?_)
            · have h := (if_pos c8).symm.trans h
              refine lv_iinc (v := x6 + 1) (lv' := [(6, .int (x6 + 1)), (7, .int ((v_ways ((x1 * (7 : Int32)) + (v_froms x6.toNatClampNeg)).toNatClampNeg) + (v_ways (((v_froms x6.toNatClampNeg) * (7 : Int32)) + (v_tos x6.toNatClampNeg)).toNatClampNeg))), (0, .ref (q 0)), (1, .int x1), (2, .int x2), (3, .int x3), (4, .int x4), (5, .int x5)]) hx hb dX5_tryOn_153 hl (k := 7) rfl rfl (by decide) rfl (fun ls hl => ?_)
              refine lv_goto (tgt := 47) hx hb dX5_tryOn_156 (by decide) ?_
              exact ih47 v_bestWorth v_bestSet x1 x2 x3 x4 x5 (x6 + 1) H locs ls h hP hD hS (lv_sub hl [2, 3, 4, 5, 6, 7, 0] rfl)
            · have h := (if_neg c8).symm.trans h
              refine lv_aload_n hx hb dX5_tryOn_118 rfl (lv_at hl 1 rfl) ?_
              refine lv_aload_n hx hb dX5_tryOn_119 rfl (lv_at hl 1 rfl) ?_
              refine va_get (C := RX5) (T := TX5) (N := 7) (v := .ref (q 3)) hx hb hts iw5 hown hK hP 0 rfl rfl 2 (Nat.le_of_ble_eq_true rfl) lk15 (fun _ h9 => h9) rfl dX5_tryOn_120 ?_
              refine lv_iload hx hb dX5_tryOn_123 (lv_at hl 7 rfl) ?_
              obtain ⟨hi9, h⟩ := xb_some h
              refine va_iald hx hb hK hP 2 0 rfl rfl hi9 dX5_tryOn_125 ?_
              refine lv_iload_n hx hb dX5_tryOn_126 rfl (lv_at hl 3 rfl) ?_
              refine lv_iload hx hb dX5_tryOn_127 (lv_at hl 0 rfl) ?_
              refine lv_isub hx hb dX5_tryOn_129 ?_
              refine lv_iload_n hx hb dX5_tryOn_130 rfl (lv_at hl 4 rfl) ?_
              refine lv_iconst (v := 1) hx hb dX5_tryOn_131 (by decide) ?_
              refine lv_iload hx hb dX5_tryOn_132 (lv_at hl 7 rfl) ?_
              refine lv_ishl hx hb dX5_tryOn_134 ?_
              refine lv_ior hx hb dX5_tryOn_135 ?_
              refine lv_iload hx hb dX5_tryOn_136 (lv_at hl 5 rfl) ?_
              refine lv_aload_n hx hb dX5_tryOn_138 rfl (lv_at hl 1 rfl) ?_
              refine va_get (C := RX5) (T := TX5) (N := 7) (v := .ref (q 4)) hx hb hts iw5 hown hK hP 0 rfl rfl 3 (Nat.le_of_ble_eq_true rfl) lk18 (fun _ h9 => h9) rfl dX5_tryOn_139 ?_
              refine lv_iload hx hb dX5_tryOn_142 (lv_at hl 7 rfl) ?_
              obtain ⟨hi10, h⟩ := xb_some h
              refine va_iald hx hb hK hP 3 0 rfl rfl hi10 dX5_tryOn_144 ?_
              refine lv_iadd hx hb dX5_tryOn_145 ?_
              refine lv_iload hx hb dX5_tryOn_146 (lv_at hl 6 rfl) ?_
              refine lv_iconst (v := 1) hx hb dX5_tryOn_148 (by decide) ?_
              refine lv_iadd hx hb dX5_tryOn_149 ?_
              obtain ⟨r11, hr11, h⟩ := xk_some h
              refine vx_VV (As := [.int (v_tos x6.toNatClampNeg), .int (x2 - ((v_ways ((x1 * (7 : Int32)) + (v_froms x6.toNatClampNeg)).toNatClampNeg) + (v_ways (((v_froms x6.toNatClampNeg) * (7 : Int32)) + (v_tos x6.toNatClampNeg)).toNatClampNeg))), .int (x3 ||| ((1 : Int32) <<< (x6 &&& 31))), .int (x4 + (v_worths x6.toNatClampNeg)), .int (x5 + (1 : Int32))]) (rest := []) (wr := []) (wn := [oX5 q v_size r11.1 r11.2, rA (q 2) cI 4 v_froms, rA (q 3) cI 4 v_tos, rA (q 4) cI 4 v_worths, rA (q 5) cI 49 v_ways]) hFx (IH q H.size v_size v_bestWorth v_bestSet v_froms v_tos v_worths v_ways (v_tos x6.toNatClampNeg) (x2 - ((v_ways ((x1 * (7 : Int32)) + (v_froms x6.toNatClampNeg)).toNatClampNeg) + (v_ways (((v_froms x6.toNatClampNeg) * (7 : Int32)) + (v_tos x6.toNatClampNeg)).toNatClampNeg))) (x3 ||| ((1 : Int32) <<< (x6 &&& 31))) (x4 + (v_worths x6.toNatClampNeg)) (x5 + (1 : Int32)) r11 hr11) (cwV 5 hts gX5_tryOn_X5_tryOn rfl rfl rfl (by decide +kernel) ⟨by simp only [rm_X5_tryOn, rm_X5_tryOn]; omega, by simp only [rm_X5_tryOn, rm_X5_tryOn]; omega⟩) hK hP hD hS hA [0, 1, 2, 3, 4] [] [0, 1, 2, 3, 4] rfl rfl rfl rfl (by decide) rfl rfl 5 0 rfl rfl rfl hl.1 rfl (Nat.le_of_ble_eq_true rfl) dX5_tryOn_150 ⟨Nat.zero_le _, Nat.zero_le _⟩ (fun H locs hP hD hS => ?_)
              refine lv_iinc (v := x6 + 1) (lv' := [(6, .int (x6 + 1)), (7, .int ((v_ways ((x1 * (7 : Int32)) + (v_froms x6.toNatClampNeg)).toNatClampNeg) + (v_ways (((v_froms x6.toNatClampNeg) * (7 : Int32)) + (v_tos x6.toNatClampNeg)).toNatClampNeg))), (0, .ref (q 0)), (1, .int x1), (2, .int x2), (3, .int x3), (4, .int x4), (5, .int x5)]) hx hb dX5_tryOn_153 hl (k := 7) rfl rfl (by decide) rfl (fun ls hl => ?_)
              refine lv_goto (tgt := 47) hx hb dX5_tryOn_156 (by decide) ?_
              exact ih47 r11.1 r11.2 x1 x2 x3 x4 x5 (x6 + 1) H locs ls h hP hD hS (lv_sub hl [2, 3, 4, 5, 6, 7, 0] rfl)
          · have h := (if_pos c2).symm.trans h
            refine lv_goto (tgt := 153) hx hb dX5_tryOn_66 (by decide) ?_
            refine lv_iinc (v := x6 + 1) (lv' := [(6, .int (x6 + 1)), (0, .ref (q 0)), (1, .int x1), (2, .int x2), (3, .int x3), (4, .int x4), (5, .int x5)]) hx hb dX5_tryOn_153 hl (k := 6) rfl rfl (by decide) rfl (fun ls hl => ?_)
            refine lv_goto (tgt := 47) hx hb dX5_tryOn_156 (by decide) ?_
            exact ih47 v_bestWorth v_bestSet x1 x2 x3 x4 x5 (x6 + 1) H locs ls h hP hD hS (lv_sub hl [1, 2, 3, 4, 5, 6, 0] rfl)
    have hJ37 : ∀ (v_bestWorth : Int32) (v_bestSet : Int32) (x1 : Int32) (x2 : Int32) (x3 : Int32) (x4 : Int32) (x5 : Int32) (H : Heap) (locs : List Loc) (ls : Array Slot), f_X5_tryOn_J37 fu (f_X5_tryOn fu n) v_size v_froms v_tos v_worths v_ways v_bestWorth v_bestSet x1 x2 x3 x4 x5 = some res → va_P D vwCl [oX5 q v_size v_bestWorth v_bestSet, rA (q 2) cI 4 v_froms, rA (q 3) cI 4 v_tos, rA (q 4) cI 4 v_worths, rA (q 5) cI 49 v_ways] H → va_D A [oX5 q v_size v_bestWorth v_bestSet, rA (q 2) cI 4 v_froms, rA (q 3) cI 4 v_tos, rA (q 4) cI 4 v_worths, rA (q 5) cI 49 v_ways] → va_S A s.heap H locs → lv_has ls 8 [(0, .ref (q 0)), (1, .int x1), (2, .int x2), (3, .int x3), (4, .int x4), (5, .int x5)] → W p l e (rm_X5_tryOn (n + 1)) s m args below meth c H locs 0 0 Q (F0 m 37 ls []) := by
      intro v_bestWorth v_bestSet x1 x2 x3 x4 x5 H locs ls h hP hD hS hl
      unfold f_X5_tryOn_J37 at h
      refine lv_iload hx hb dX5_tryOn_37 (lv_at hl 5 rfl) ?_
      refine lv_iconst (v := 4) hx hb dX5_tryOn_39 (by decide) ?_
      refine lv_icmp_lt (tgt := 44) hx hb dX5_tryOn_40 (by decide) (fun c12 => ?_) (fun c12 => ?_)
      · have h := (if_pos c12).symm.trans h
        refine lv_iconst (v := 0) hx hb dX5_tryOn_44 (by decide) ?_
        refine lv_istore (lv' := [(6, .int (0 : Int32)), (0, .ref (q 0)), (1, .int x1), (2, .int x2), (3, .int x3), (4, .int x4), (5, .int x5)]) hx hb dX5_tryOn_45 hl (by decide) rfl (fun ls hl => ?_)
        exact hL47 fu v_bestWorth v_bestSet x1 x2 x3 x4 x5 (0 : Int32) H locs ls h hP hD hS (lv_sub hl [1, 2, 3, 4, 5, 6, 0] rfl)
      · have h := (if_neg c12).symm.trans h
        exact hret (v_bestWorth, v_bestSet) H locs _ ls (Option.some.inj h) hP hD hS dX5_tryOn_43
    have hJ26 : ∀ (v_bestWorth : Int32) (v_bestSet : Int32) (x1 : Int32) (x2 : Int32) (x3 : Int32) (x4 : Int32) (x5 : Int32) (H : Heap) (locs : List Loc) (ls : Array Slot), f_X5_tryOn_J26 fu (f_X5_tryOn fu n) v_size v_froms v_tos v_worths v_ways v_bestWorth v_bestSet x1 x2 x3 x4 x5 = some res → va_P D vwCl [oX5 q v_size v_bestWorth v_bestSet, rA (q 2) cI 4 v_froms, rA (q 3) cI 4 v_tos, rA (q 4) cI 4 v_worths, rA (q 5) cI 49 v_ways] H → va_D A [oX5 q v_size v_bestWorth v_bestSet, rA (q 2) cI 4 v_froms, rA (q 3) cI 4 v_tos, rA (q 4) cI 4 v_worths, rA (q 5) cI 49 v_ways] → va_S A s.heap H locs → lv_has ls 8 [(0, .ref (q 0)), (1, .int x1), (2, .int x2), (3, .int x3), (4, .int x4), (5, .int x5)] → W p l e (rm_X5_tryOn (n + 1)) s m args below meth c H locs 0 0 Q (F0 m 26 ls []) := by
      intro v_bestWorth v_bestSet x1 x2 x3 x4 x5 H locs ls h hP hD hS hl
      unfold f_X5_tryOn_J26 at h
      refine lv_aload_n hx hb dX5_tryOn_26 rfl (lv_at hl 0 rfl) ?_
      refine lv_iload hx hb dX5_tryOn_27 (lv_at hl 4 rfl) ?_
      refine va_put (C := RX5) (T := TX5) (N := 7) (v := .int x4) (ty := .int) hx hb hts iw5 tyX5 tyX5_ok nmX5 hown hK hP hD hS 0 rfl rfl 5 (Nat.le_of_ble_eq_true rfl) lk35 (fun _ h9 => h9) rfl (by decide +kernel) rfl rfl (Nat.le_of_ble_eq_true rfl) dX5_tryOn_29 (fun H locs hP hD hS => ?_)
      have hP : va_P D vwCl [oX5 q v_size x4 v_bestSet, rA (q 2) cI 4 v_froms, rA (q 3) cI 4 v_tos, rA (q 4) cI 4 v_worths, rA (q 5) cI 49 v_ways] H := hP
      have hD : va_D A [oX5 q v_size x4 v_bestSet, rA (q 2) cI 4 v_froms, rA (q 3) cI 4 v_tos, rA (q 4) cI 4 v_worths, rA (q 5) cI 49 v_ways] := hD
      refine lv_aload_n hx hb dX5_tryOn_32 rfl (lv_at hl 0 rfl) ?_
      refine lv_iload_n hx hb dX5_tryOn_33 rfl (lv_at hl 3 rfl) ?_
      refine va_put (C := RX5) (T := TX5) (N := 7) (v := .int x3) (ty := .int) hx hb hts iw5 tyX5 tyX5_ok nmX5 hown hK hP hD hS 0 rfl rfl 6 (Nat.le_of_ble_eq_true rfl) lk38 (fun _ h9 => h9) rfl (by decide +kernel) rfl rfl (Nat.le_of_ble_eq_true rfl) dX5_tryOn_34 (fun H locs hP hD hS => ?_)
      have hP : va_P D vwCl [oX5 q v_size x4 x3, rA (q 2) cI 4 v_froms, rA (q 3) cI 4 v_tos, rA (q 4) cI 4 v_worths, rA (q 5) cI 49 v_ways] H := hP
      have hD : va_D A [oX5 q v_size x4 x3, rA (q 2) cI 4 v_froms, rA (q 3) cI 4 v_tos, rA (q 4) cI 4 v_worths, rA (q 5) cI 49 v_ways] := hD
      exact hJ37 x4 x3 x1 x2 x3 x4 x5 H locs ls h hP hD hS (lv_sub hl [0, 1, 2, 3, 4, 5] rfl)
    have h : f_X5_tryOnb fu (f_X5_tryOn fu n) v_size v_froms v_tos v_worths v_ways v_bestWorth v_bestSet x1 x2 x3 x4 x5 = some res := hf
    unfold f_X5_tryOnb at h
    obtain ⟨H, eH⟩ : ∃ H, H = s.heap := ⟨_, rfl⟩
    rw [← eH] at hP ⊢
    obtain ⟨locs, el⟩ : ∃ locs : List Loc, locs = [] := ⟨_, rfl⟩
    rw [← el] at hS ⊢
    have hS : va_S A s.heap H locs := by rw [eH]; exact hS
    refine lv_iload hx hb dX5_tryOn_0 (lv_at hl 4 rfl) ?_
    refine lv_aload_n hx hb dX5_tryOn_2 rfl (lv_at hl 0 rfl) ?_
    refine va_get (C := RX5) (T := TX5) (N := 7) (v := .int v_bestWorth) hx hb hts iw5 hown hK hP 0 rfl rfl 5 (Nat.le_of_ble_eq_true rfl) lk35 (fun _ h9 => h9) rfl dX5_tryOn_3 ?_
    refine lv_icmp_gt (tgt := 26) hx hb dX5_tryOn_6 (by decide) (fun c13 => ?_) (fun c13 => ?_)
    · have h := (if_pos c13).symm.trans h
      exact hJ26 v_bestWorth v_bestSet x1 x2 x3 x4 x5 H locs ls h hP hD hS (lv_sub hl [0, 1, 2, 3, 4, 5] rfl)
    · have h := (if_neg c13).symm.trans h
      refine lv_iload hx hb dX5_tryOn_9 (lv_at hl 4 rfl) ?_
      refine lv_aload_n hx hb dX5_tryOn_11 rfl (lv_at hl 0 rfl) ?_
      refine va_get (C := RX5) (T := TX5) (N := 7) (v := .int v_bestWorth) hx hb hts iw5 hown hK hP 0 rfl rfl 5 (Nat.le_of_ble_eq_true rfl) lk35 (fun _ h9 => h9) rfl dX5_tryOn_12 ?_
      refine lv_icmp_ne (tgt := 37) hx hb dX5_tryOn_15 (by decide) (fun c14 => ?_) (fun c14 => ?_)
      · have h := (if_neg c14).symm.trans h
        exact hJ37 v_bestWorth v_bestSet x1 x2 x3 x4 x5 H locs ls h hP hD hS (lv_sub hl [0, 1, 2, 3, 4, 5] rfl)
      · have h := (if_pos c14).symm.trans h
        refine lv_iload_n hx hb dX5_tryOn_18 rfl (lv_at hl 3 rfl) ?_
        refine lv_aload_n hx hb dX5_tryOn_19 rfl (lv_at hl 0 rfl) ?_
        refine va_get (C := RX5) (T := TX5) (N := 7) (v := .int v_bestSet) hx hb hts iw5 hown hK hP 0 rfl rfl 6 (Nat.le_of_ble_eq_true rfl) lk38 (fun _ h9 => h9) rfl dX5_tryOn_20 ?_
        refine lv_icmp_ge (tgt := 37) hx hb dX5_tryOn_23 (by decide) (fun c15 => ?_) (fun c15 => ?_)
        · have h := (if_pos c15).symm.trans h
          exact hJ37 v_bestWorth v_bestSet x1 x2 x3 x4 x5 H locs ls h hP hD hS (lv_sub hl [0, 1, 2, 3, 4, 5] rfl)
        · have h := (if_neg c15).symm.trans h
          exact hJ26 v_bestWorth v_bestSet x1 x2 x3 x4 x5 H locs ls h hP hD hS (lv_sub hl [0, 1, 2, 3, 4, 5] rfl)
abbrev rm_X5_findBestDay : Room := { frames := 7, cells := 0, slots := 0, locals := 189 }
set_option maxHeartbeats 4000000 in
set_option maxRecDepth 100000 in
theorem k_X5_findBestDay (l : Launch) (D : va_G) (cI cZ cT : ClassId) (q : Nat → Nat) (qm : Nat → Nat) (sz : Nat) (v_size : Int32) (v_bestWorth : Int32) (v_bestSet : Int32) (m_cornerCount : Int32) (m_streetCount : Int32) (m_guideCount : Int32) (m_bellCount : Int32) (m_hand : Int32) (m_handTold : Int32) (v_froms : Nat → Int32) (v_tos : Nat → Int32) (v_worths : Nat → Int32) (v_ways : Nat → Int32) (m_ends : Nat → Int32) (m_farEnds : Nat → Int32) (m_lengths : Nat → Int32) (m_paces : Nat → Int32) (m_knows : Nat → Int32) (x2 : Int32) (x3 : Int32) (x4 : Int32) (res : R_X5_findBestDay) (fu : Nat) (hf : f_X5_findBestDay fu v_size v_froms v_tos v_worths v_ways v_bestWorth v_bestSet m_streetCount m_guideCount m_ends m_farEnds m_lengths m_paces m_knows x2 x3 x4 = some res) : Met l yX5_findBestDay wsX5_findBestDay rm_X5_findBestDay (cPre D (tyz cI cZ cT) [.ref (q 0), .ref (qm 0), .int x2, .int x3, .int x4] sz [oX5 q v_size v_bestWorth v_bestSet, rA (q 2) cI 4 v_froms, rA (q 3) cI 4 v_tos, rA (q 4) cI 4 v_worths, rA (q 5) cI 49 v_ways, oX4 qm m_cornerCount m_streetCount m_guideCount m_bellCount m_hand m_handTold, rA (qm 8) cI 9 m_ends, rA (qm 9) cI 9 m_farEnds, rA (qm 10) cI 9 m_lengths, rA (qm 11) cI 4 m_paces, rA (qm 13) cI 4 m_knows]) (cPv D (tyz cI cZ cT) (fun (u : (Nat → Int32) × Int32 × Int32) => u = res) (fun u => [oX5 q v_size u.2.1 u.2.2, rA (q 2) cI 4 v_froms, rA (q 3) cI 4 v_tos, rA (q 4) cI 4 v_worths, rA (q 5) cI 49 u.1, oX4 qm m_cornerCount m_streetCount m_guideCount m_bellCount m_hand m_handTold, rA (qm 8) cI 9 m_ends, rA (qm 9) cI 9 m_farEnds, rA (qm 10) cI 9 m_lengths, rA (qm 11) cI 4 m_paces, rA (qm 13) cI 4 m_knows]) [oX5 q v_size v_bestWorth v_bestSet, rA (q 2) cI 4 v_froms, rA (q 3) cI 4 v_tos, rA (q 4) cI 4 v_worths, rA (q 5) cI 49 v_ways, oX4 qm m_cornerCount m_streetCount m_guideCount m_bellCount m_hand m_handTold, rA (qm 8) cI 9 m_ends, rA (qm 9) cI 9 m_farEnds, rA (qm 10) cI 9 m_lengths, rA (qm 11) cI 4 m_paces, rA (qm 13) cI 4 m_knows] sz) 0 0 (va_A [oX5 q v_size v_bestWorth v_bestSet, rA (q 2) cI 4 v_froms, rA (q 3) cI 4 v_tos, rA (q 4) cI 4 v_worths, rA (q 5) cI 49 v_ways, oX4 qm m_cornerCount m_streetCount m_guideCount m_bellCount m_hand m_handTold, rA (qm 8) cI 9 m_ends, rA (qm 9) cI 9 m_farEnds, rA (qm 10) cI 9 m_lengths, rA (qm 11) cI 4 m_paces, rA (qm 13) cI 4 m_knows] sz) := by
  refine vx_meth_v (by decide) rfl (Nat.le_of_ble_eq_true rfl) ?_
  intro p e s m args below meth c A Q hx hb hml hown hts hK hP hD hA hS hret ls hl
  have hown : s.vm.findClass RX5 = some m.cls := hown
  have hl : lv_has ls 5 [(0, .ref (q 0)), (1, .ref (qm 0)), (2, .int x2), (3, .int x3), (4, .int x4)] := hl
  have hFx : CallFix p m c cX5_findBestDay 5 s args wsX5_findBestDay RX5 := ⟨hx, hb, hml, hown, hts⟩
  have lk35 := hts (.fieldLink RX5 35 "FogGuides$WishList" "bestWorth" "I") (by decide +kernel)
  have iw5 : ∀ w ∈ u_ws RX5 TX5 7, w ∈ wsX5_findBestDay := by decide +kernel
  have lk38 := hts (.fieldLink RX5 38 "FogGuides$WishList" "bestSet" "I") (by decide +kernel)
  have h := hf
  unfold f_X5_findBestDay at h
  obtain ⟨H, eH⟩ : ∃ H, H = s.heap := ⟨_, rfl⟩
  rw [← eH] at hP ⊢
  obtain ⟨locs, el⟩ : ∃ locs : List Loc, locs = [] := ⟨_, rfl⟩
  rw [← el] at hS ⊢
  have hS : va_S A s.heap H locs := by rw [eH]; exact hS
  refine lv_aload_n hx hb dX5_findBestDay_0 rfl (lv_at hl 0 rfl) ?_
  refine lv_aload_n hx hb dX5_findBestDay_1 rfl (lv_at hl 1 rfl) ?_
  refine lv_iload_n hx hb dX5_findBestDay_2 rfl (lv_at hl 2 rfl) ?_
  obtain ⟨r1, hr1, h⟩ := xk_some h
  refine vx_VV (As := [.ref (qm 0), .int x2]) (rest := []) (wr := [rA (q 2) cI 4 v_froms, rA (q 3) cI 4 v_tos, rA (q 4) cI 4 v_worths]) (wn := [oX5 q v_size v_bestWorth v_bestSet, rA (q 2) cI 4 v_froms, rA (q 3) cI 4 v_tos, rA (q 4) cI 4 v_worths, rA (q 5) cI 49 r1, oX4 qm m_cornerCount m_streetCount m_guideCount m_bellCount m_hand m_handTold, rA (qm 8) cI 9 m_ends, rA (qm 9) cI 9 m_farEnds, rA (qm 10) cI 9 m_lengths, rA (qm 11) cI 4 m_paces, rA (qm 13) cI 4 m_knows]) hFx (k_X5_takeStreets l D cI cZ cT q qm H.size v_size v_bestWorth v_bestSet m_cornerCount m_streetCount m_guideCount m_bellCount m_hand m_handTold v_ways m_ends m_farEnds m_lengths m_paces m_knows x2 r1 fu hr1) (cwV 2 hts gX5_findBestDay_X5_takeStreets rfl rfl rfl (by decide +kernel) ⟨Nat.le_of_ble_eq_true rfl, Nat.le_of_ble_eq_true rfl⟩) hK hP hD hS hA [0, 4, 5, 6, 7, 8, 9, 10] [1, 2, 3] [3, 0, 1, 2, 4, 5, 6, 7, 8, 9, 10] rfl rfl rfl rfl (by decide) rfl rfl 5 0 rfl rfl rfl hl.1 rfl (Nat.le_of_ble_eq_true rfl) dX5_findBestDay_3 ⟨Nat.zero_le _, Nat.zero_le _⟩ (fun H locs hP hD hS => ?_)
  refine lv_aload_n hx hb dX5_findBestDay_6 rfl (lv_at hl 0 rfl) ?_
  obtain ⟨r2, hr2, h⟩ := xk_some h
  refine vx_VV (As := []) (rest := []) (wr := [rA (q 2) cI 4 v_froms, rA (q 3) cI 4 v_tos, rA (q 4) cI 4 v_worths, oX4 qm m_cornerCount m_streetCount m_guideCount m_bellCount m_hand m_handTold, rA (qm 8) cI 9 m_ends, rA (qm 9) cI 9 m_farEnds, rA (qm 10) cI 9 m_lengths, rA (qm 11) cI 4 m_paces, rA (qm 13) cI 4 m_knows]) (wn := [oX5 q v_size v_bestWorth v_bestSet, rA (q 2) cI 4 v_froms, rA (q 3) cI 4 v_tos, rA (q 4) cI 4 v_worths, rA (q 5) cI 49 r2, oX4 qm m_cornerCount m_streetCount m_guideCount m_bellCount m_hand m_handTold, rA (qm 8) cI 9 m_ends, rA (qm 9) cI 9 m_farEnds, rA (qm 10) cI 9 m_lengths, rA (qm 11) cI 4 m_paces, rA (qm 13) cI 4 m_knows]) hFx (k_X5_shortenWays l D cI cZ cT q H.size v_size v_bestWorth v_bestSet r1 r2 fu hr2) (cwV 0 hts gX5_findBestDay_X5_shortenWays rfl rfl rfl (by decide +kernel) ⟨Nat.le_of_ble_eq_true rfl, Nat.le_of_ble_eq_true rfl⟩) hK hP hD hS hA [0, 4] [1, 2, 3, 5, 6, 7, 8, 9, 10] [9, 0, 1, 2, 10, 3, 4, 5, 6, 7, 8] rfl rfl rfl rfl (by decide) rfl rfl 5 0 rfl rfl rfl hl.1 rfl (Nat.le_of_ble_eq_true rfl) dX5_findBestDay_7 ⟨Nat.zero_le _, Nat.zero_le _⟩ (fun H locs hP hD hS => ?_)
  refine lv_aload_n hx hb dX5_findBestDay_10 rfl (lv_at hl 0 rfl) ?_
  refine lv_iconst (v := 0) hx hb dX5_findBestDay_11 (by decide) ?_
  refine va_put (C := RX5) (T := TX5) (N := 7) (v := .int (0 : Int32)) (ty := .int) hx hb hts iw5 tyX5 tyX5_ok nmX5 hown hK hP hD hS 0 rfl rfl 5 (Nat.le_of_ble_eq_true rfl) lk35 (fun _ h9 => h9) rfl (by decide +kernel) rfl rfl (Nat.le_of_ble_eq_true rfl) dX5_findBestDay_12 (fun H locs hP hD hS => ?_)
  have hP : va_P D vwCl [oX5 q v_size (0 : Int32) v_bestSet, rA (q 2) cI 4 v_froms, rA (q 3) cI 4 v_tos, rA (q 4) cI 4 v_worths, rA (q 5) cI 49 r2, oX4 qm m_cornerCount m_streetCount m_guideCount m_bellCount m_hand m_handTold, rA (qm 8) cI 9 m_ends, rA (qm 9) cI 9 m_farEnds, rA (qm 10) cI 9 m_lengths, rA (qm 11) cI 4 m_paces, rA (qm 13) cI 4 m_knows] H := hP
  have hD : va_D A [oX5 q v_size (0 : Int32) v_bestSet, rA (q 2) cI 4 v_froms, rA (q 3) cI 4 v_tos, rA (q 4) cI 4 v_worths, rA (q 5) cI 49 r2, oX4 qm m_cornerCount m_streetCount m_guideCount m_bellCount m_hand m_handTold, rA (qm 8) cI 9 m_ends, rA (qm 9) cI 9 m_farEnds, rA (qm 10) cI 9 m_lengths, rA (qm 11) cI 4 m_paces, rA (qm 13) cI 4 m_knows] := hD
  refine lv_aload_n hx hb dX5_findBestDay_15 rfl (lv_at hl 0 rfl) ?_
  refine lv_iconst (v := 0) hx hb dX5_findBestDay_16 (by decide) ?_
  refine va_put (C := RX5) (T := TX5) (N := 7) (v := .int (0 : Int32)) (ty := .int) hx hb hts iw5 tyX5 tyX5_ok nmX5 hown hK hP hD hS 0 rfl rfl 6 (Nat.le_of_ble_eq_true rfl) lk38 (fun _ h9 => h9) rfl (by decide +kernel) rfl rfl (Nat.le_of_ble_eq_true rfl) dX5_findBestDay_17 (fun H locs hP hD hS => ?_)
  have hP : va_P D vwCl [oX5 q v_size (0 : Int32) (0 : Int32), rA (q 2) cI 4 v_froms, rA (q 3) cI 4 v_tos, rA (q 4) cI 4 v_worths, rA (q 5) cI 49 r2, oX4 qm m_cornerCount m_streetCount m_guideCount m_bellCount m_hand m_handTold, rA (qm 8) cI 9 m_ends, rA (qm 9) cI 9 m_farEnds, rA (qm 10) cI 9 m_lengths, rA (qm 11) cI 4 m_paces, rA (qm 13) cI 4 m_knows] H := hP
  have hD : va_D A [oX5 q v_size (0 : Int32) (0 : Int32), rA (q 2) cI 4 v_froms, rA (q 3) cI 4 v_tos, rA (q 4) cI 4 v_worths, rA (q 5) cI 49 r2, oX4 qm m_cornerCount m_streetCount m_guideCount m_bellCount m_hand m_handTold, rA (qm 8) cI 9 m_ends, rA (qm 9) cI 9 m_farEnds, rA (qm 10) cI 9 m_lengths, rA (qm 11) cI 4 m_paces, rA (qm 13) cI 4 m_knows] := hD
  refine lv_aload_n hx hb dX5_findBestDay_20 rfl (lv_at hl 0 rfl) ?_
  refine lv_iload_n hx hb dX5_findBestDay_21 rfl (lv_at hl 3 rfl) ?_
  refine lv_iload hx hb dX5_findBestDay_22 (lv_at hl 4 rfl) ?_
  refine lv_iconst (v := 0) hx hb dX5_findBestDay_24 (by decide) ?_
  refine lv_iconst (v := 0) hx hb dX5_findBestDay_25 (by decide) ?_
  refine lv_iconst (v := 0) hx hb dX5_findBestDay_26 (by decide) ?_
  obtain ⟨r3, hr3, h⟩ := xk_some h
  refine vx_VV (As := [.int x3, .int x4, .int (0 : Int32), .int (0 : Int32), .int (0 : Int32)]) (rest := []) (wr := [oX4 qm m_cornerCount m_streetCount m_guideCount m_bellCount m_hand m_handTold, rA (qm 8) cI 9 m_ends, rA (qm 9) cI 9 m_farEnds, rA (qm 10) cI 9 m_lengths, rA (qm 11) cI 4 m_paces, rA (qm 13) cI 4 m_knows]) (wn := [oX5 q v_size r3.1 r3.2, rA (q 2) cI 4 v_froms, rA (q 3) cI 4 v_tos, rA (q 4) cI 4 v_worths, rA (q 5) cI 49 r2, oX4 qm m_cornerCount m_streetCount m_guideCount m_bellCount m_hand m_handTold, rA (qm 8) cI 9 m_ends, rA (qm 9) cI 9 m_farEnds, rA (qm 10) cI 9 m_lengths, rA (qm 11) cI 4 m_paces, rA (qm 13) cI 4 m_knows]) hFx (k_X5_tryOn l D cI cZ cT fu 6 q H.size v_size (0 : Int32) (0 : Int32) v_froms v_tos v_worths r2 x3 x4 (0 : Int32) (0 : Int32) (0 : Int32) r3 hr3) (cwV 5 hts gX5_findBestDay_X5_tryOn rfl rfl rfl (by decide +kernel) ⟨Nat.le_of_ble_eq_true rfl, Nat.le_of_ble_eq_true rfl⟩) hK hP hD hS hA [0, 1, 2, 3, 4] [5, 6, 7, 8, 9, 10] [6, 7, 8, 9, 10, 0, 1, 2, 3, 4, 5] rfl rfl rfl rfl (by decide) rfl rfl 5 0 rfl rfl rfl hl.1 rfl (Nat.le_of_ble_eq_true rfl) dX5_findBestDay_27 ⟨Nat.zero_le _, Nat.zero_le _⟩ (fun H locs hP hD hS => ?_)
  exact hret (r2, r3.1, r3.2) H locs _ ls (Option.some.inj h) hP hD hS dX5_findBestDay_30
