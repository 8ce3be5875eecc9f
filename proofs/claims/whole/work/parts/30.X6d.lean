abbrev rm_X6_wishes : Room := { frames := 1, cells := 0, slots := 0, locals := 23 }
set_option maxHeartbeats 4000000 in
set_option maxRecDepth 100000 in
theorem k_X6_wishes (l : Launch) (D : va_G) (cI cZ cT : ClassId) (q : Nat → Nat) (qr : Nat → Nat) (qm : Nat → Nat) (qs : Nat → Nat) (qt : Nat → Nat) (qro : Nat → Nat) (qto : Nat → Nat) (qw : Nat → Nat) (qi0 : Nat → Nat) (qi1 : Nat → Nat) (sz : Nat) (v_asked : Int64) (m_cornerCount : Int32) (m_streetCount : Int32) (m_guideCount : Int32) (m_bellCount : Int32) (m_hand : Int32) (m_handTold : Int32) (w_size : Int32) (w_bestWorth : Int32) (w_bestSet : Int32) (w_froms : Nat → Int32) (w_tos : Nat → Int32) (w_worths : Nat → Int32) (x1 : Int32) (x2 : Int32) (x3 : Int32) (res : R_X6_wishes) (hf : f_X6_wishes m_cornerCount w_size w_froms w_tos w_worths x1 x2 x3 = some res) : Met l yX6_wishes wsX6_wishes rm_X6_wishes (cPre D (tyz cI cZ cT) [.ref (q 0), .int x1, .int x2, .int x3] sz [oX6 q (qr 0) (qm 0) (qs 0) (qt 0) (qro 0) (qto 0) (qw 0) v_asked, oX4 qm m_cornerCount m_streetCount m_guideCount m_bellCount m_hand m_handTold, oX5 qw w_size w_bestWorth w_bestSet, rA (qw 2) cI 4 w_froms, rA (qw 3) cI 4 w_tos, rA (qw 4) cI 4 w_worths]) (cPi D (tyz cI cZ cT) (fun (r : Int32) (u : Int32 × (Nat → Int32) × (Nat → Int32) × (Nat → Int32)) => (r, u) = res) (fun u => [oX6 q (qr 0) (qm 0) (qs 0) (qt 0) (qro 0) (qto 0) (qw 0) v_asked, oX4 qm m_cornerCount m_streetCount m_guideCount m_bellCount m_hand m_handTold, oX5 qw u.1 w_bestWorth w_bestSet, rA (qw 2) cI 4 u.2.1, rA (qw 3) cI 4 u.2.2.1, rA (qw 4) cI 4 u.2.2.2]) [oX6 q (qr 0) (qm 0) (qs 0) (qt 0) (qro 0) (qto 0) (qw 0) v_asked, oX4 qm m_cornerCount m_streetCount m_guideCount m_bellCount m_hand m_handTold, oX5 qw w_size w_bestWorth w_bestSet, rA (qw 2) cI 4 w_froms, rA (qw 3) cI 4 w_tos, rA (qw 4) cI 4 w_worths] sz) 0 0 (va_A [oX6 q (qr 0) (qm 0) (qs 0) (qt 0) (qro 0) (qto 0) (qw 0) v_asked, oX4 qm m_cornerCount m_streetCount m_guideCount m_bellCount m_hand m_handTold, oX5 qw w_size w_bestWorth w_bestSet, rA (qw 2) cI 4 w_froms, rA (qw 3) cI 4 w_tos, rA (qw 4) cI 4 w_worths] sz) := by
  refine vx_meth_i (by decide) rfl (Nat.le_of_ble_eq_true rfl) ?_
  intro p e s m args below meth c A Q hx hb hml hown hts hK hP hD hA hS hret ls hl
  have hown : s.vm.findClass RX6 = some m.cls := hown
  have hl : lv_has ls 4 [(0, .ref (q 0)), (1, .int x1), (2, .int x2), (3, .int x3)] := hl
  have hFx : CallFix p m c cX6_wishes 4 s args wsX6_wishes RX6 := ⟨hx, hb, hml, hown, hts⟩
  have lk19 := hts (.fieldLink RX6 19 "FogGuides" "map" "LFogGuides$TownMap;") (by decide +kernel)
  have iw6 : ∀ w ∈ u_ws RX6 TX6 10, w ∈ wsX6_wishes := by decide +kernel
  have lk58 := hts (.fieldLink RX6 58 "FogGuides" "wishList" "LFogGuides$WishList;") (by decide +kernel)
  have lk84 := hts (.fieldLink RX6 84 "FogGuides$WishList" "size" "I") (by decide +kernel)
  have iw5 : ∀ w ∈ u_ws RX5 TX5 7, w ∈ wsX6_wishes := by decide +kernel
  have h := hf
  unfold f_X6_wishes at h
  obtain ⟨H, eH⟩ : ∃ H, H = s.heap := ⟨_, rfl⟩
  rw [← eH] at hP ⊢
  obtain ⟨locs, el⟩ : ∃ locs : List Loc, locs = [] := ⟨_, rfl⟩
  rw [← el] at hS ⊢
  have hS : va_S A s.heap H locs := by rw [eH]; exact hS
  refine lv_aload_n hx hb dX6_wishes_0 rfl (lv_at hl 0 rfl) ?_
  refine va_get (C := RX6) (T := TX6) (N := 10) (v := .ref (qm 0)) hx hb hts iw6 hown hK hP 0 rfl rfl 1 (Nat.le_of_ble_eq_true rfl) lk19 (fun _ h9 => h9) rfl dX6_wishes_1 ?_
  refine lv_iload_n hx hb dX6_wishes_4 rfl (lv_at hl 1 rfl) ?_
  obtain ⟨r1, hr1, h⟩ := xk_some h
  refine vx_VJ (As := [.int x1]) (rest := []) hFx (k_X4_hasCorner l D cI cZ cT qm H.size m_cornerCount m_streetCount m_guideCount m_bellCount m_hand m_handTold x1 r1 hr1) (cwV 1 hts gX6_wishes_X4_hasCorner rfl rfl rfl (by decide +kernel) ⟨Nat.le_of_ble_eq_true rfl, Nat.le_of_ble_eq_true rfl⟩) hK hP hD hS hA [1] rfl rfl 4 0 rfl rfl rfl hl.1 rfl (Nat.le_of_ble_eq_true rfl) dX6_wishes_5 ⟨Nat.zero_le _, Nat.zero_le _⟩ (fun H locs hP hS => ?_)
  refine lv_if_eq (tgt := 27) hx hb dX6_wishes_8 (by decide) (fun c2 => ?_) (fun c2 => ?_)
  · have h := (if_pos c2).symm.trans h
    refine lv_iconst (v := (-1)) hx hb dX6_wishes_27 (by decide) ?_
    exact hret (-1 : Int32) (w_size, w_froms, w_tos, w_worths) H locs _ ls (Option.some.inj h) hP hD hS dX6_wishes_28
  · have h := (if_neg c2).symm.trans h
    refine lv_aload_n hx hb dX6_wishes_11 rfl (lv_at hl 0 rfl) ?_
    refine va_get (C := RX6) (T := TX6) (N := 10) (v := .ref (qm 0)) hx hb hts iw6 hown hK hP 0 rfl rfl 1 (Nat.le_of_ble_eq_true rfl) lk19 (fun _ h9 => h9) rfl dX6_wishes_12 ?_
    refine lv_iload_n hx hb dX6_wishes_15 rfl (lv_at hl 2 rfl) ?_
    obtain ⟨r3, hr3, h⟩ := xk_some h
    refine vx_VJ (As := [.int x2]) (rest := []) hFx (k_X4_hasCorner l D cI cZ cT qm H.size m_cornerCount m_streetCount m_guideCount m_bellCount m_hand m_handTold x2 r3 hr3) (cwV 1 hts gX6_wishes_X4_hasCorner rfl rfl rfl (by decide +kernel) ⟨Nat.le_of_ble_eq_true rfl, Nat.le_of_ble_eq_true rfl⟩) hK hP hD hS hA [1] rfl rfl 4 0 rfl rfl rfl hl.1 rfl (Nat.le_of_ble_eq_true rfl) dX6_wishes_16 ⟨Nat.zero_le _, Nat.zero_le _⟩ (fun H locs hP hS => ?_)
    refine lv_if_eq (tgt := 27) hx hb dX6_wishes_19 (by decide) (fun c4 => ?_) (fun c4 => ?_)
    · have h := (if_pos c4).symm.trans h
      refine lv_iconst (v := (-1)) hx hb dX6_wishes_27 (by decide) ?_
      exact hret (-1 : Int32) (w_size, w_froms, w_tos, w_worths) H locs _ ls (Option.some.inj h) hP hD hS dX6_wishes_28
    · have h := (if_neg c4).symm.trans h
      refine lv_iload_n hx hb dX6_wishes_22 rfl (lv_at hl 1 rfl) ?_
      refine lv_iload_n hx hb dX6_wishes_23 rfl (lv_at hl 2 rfl) ?_
      refine lv_icmp_ne (tgt := 29) hx hb dX6_wishes_24 (by decide) (fun c5 => ?_) (fun c5 => ?_)
      · have h := (if_neg c5).symm.trans h
        refine lv_iload_n hx hb dX6_wishes_29 rfl (lv_at hl 3 rfl) ?_
        refine lv_if_lt (tgt := 39) hx hb dX6_wishes_30 (by decide) (fun c6 => ?_) (fun c6 => ?_)
        · have h := (if_pos c6).symm.trans h
          refine lv_iconst (v := (-1)) hx hb dX6_wishes_39 (by decide) ?_
          exact hret (-1 : Int32) (w_size, w_froms, w_tos, w_worths) H locs _ ls (Option.some.inj h) hP hD hS dX6_wishes_40
        · have h := (if_neg c6).symm.trans h
          refine lv_iload_n hx hb dX6_wishes_33 rfl (lv_at hl 3 rfl) ?_
          refine lv_bipush (v := 99) hx hb dX6_wishes_34 (by decide) ?_
          refine lv_icmp_le (tgt := 41) hx hb dX6_wishes_36 (by decide) (fun c7 => ?_) (fun c7 => ?_)
          · have h := (if_pos c7).symm.trans h
            refine lv_aload_n hx hb dX6_wishes_41 rfl (lv_at hl 0 rfl) ?_
            refine va_get (C := RX6) (T := TX6) (N := 10) (v := .ref (qw 0)) hx hb hts iw6 hown hK hP 0 rfl rfl 8 (Nat.le_of_ble_eq_true rfl) lk58 (fun _ h9 => h9) rfl dX6_wishes_42 ?_
            refine lv_iload_n hx hb dX6_wishes_45 rfl (lv_at hl 1 rfl) ?_
            refine lv_iload_n hx hb dX6_wishes_46 rfl (lv_at hl 2 rfl) ?_
            refine lv_iload_n hx hb dX6_wishes_47 rfl (lv_at hl 3 rfl) ?_
            obtain ⟨r8, hr8, h⟩ := xk_some h
            refine vx_VI (As := [.int x1, .int x2, .int x3]) (rest := []) (wr := [oX6 q (qr 0) (qm 0) (qs 0) (qt 0) (qro 0) (qto 0) (qw 0) v_asked, oX4 qm m_cornerCount m_streetCount m_guideCount m_bellCount m_hand m_handTold]) (wn := [oX6 q (qr 0) (qm 0) (qs 0) (qt 0) (qro 0) (qto 0) (qw 0) v_asked, oX4 qm m_cornerCount m_streetCount m_guideCount m_bellCount m_hand m_handTold, oX5 qw r8.2.1 w_bestWorth w_bestSet, rA (qw 2) cI 4 r8.2.2.1, rA (qw 3) cI 4 r8.2.2.2.1, rA (qw 4) cI 4 r8.2.2.2.2]) hFx (k_X5_add l D cI cZ cT qw H.size w_size w_bestWorth w_bestSet w_froms w_tos w_worths x1 x2 x3 r8 hr8) (cwV 3 hts gX6_wishes_X5_add rfl rfl rfl (by decide +kernel) ⟨Nat.le_of_ble_eq_true rfl, Nat.le_of_ble_eq_true rfl⟩) hK hP hD hS hA [2, 3, 4, 5] [0, 1] [0, 1, 2, 3, 4, 5] rfl rfl rfl rfl (by decide) rfl rfl 5 0 rfl rfl rfl hl.1 rfl (Nat.le_of_ble_eq_true rfl) dX6_wishes_48 ⟨Nat.zero_le _, Nat.zero_le _⟩ (fun H locs hP hD hS => ?_)
            refine lv_if_eq (tgt := 64) hx hb dX6_wishes_51 (by decide) (fun c9 => ?_) (fun c9 => ?_)
            · have h := (if_pos c9).symm.trans h
              refine lv_bipush (v := (-3)) hx hb dX6_wishes_64 (by decide) ?_
              exact hret (-3 : Int32) (r8.2.1, r8.2.2.1, r8.2.2.2.1, r8.2.2.2.2) H locs _ ls (Option.some.inj h) hP hD hS dX6_wishes_66
            · have h := (if_neg c9).symm.trans h
              refine lv_aload_n hx hb dX6_wishes_54 rfl (lv_at hl 0 rfl) ?_
              refine va_get (C := RX6) (T := TX6) (N := 10) (v := .ref (qw 0)) hx hb hts iw6 hown hK hP 0 rfl rfl 8 (Nat.le_of_ble_eq_true rfl) lk58 (fun _ h9 => h9) rfl dX6_wishes_55 ?_
              refine va_get (C := RX5) (T := TX5) (N := 7) (v := .int r8.2.1) hx hb hts iw5 hown hK hP 2 rfl rfl 0 (Nat.le_of_ble_eq_true rfl) lk84 (fun _ h9 => h9) rfl dX6_wishes_58 ?_
              refine lv_goto (tgt := 66) hx hb dX6_wishes_61 (by decide) ?_
              exact hret r8.2.1 (r8.2.1, r8.2.2.1, r8.2.2.2.1, r8.2.2.2.2) H locs _ ls (Option.some.inj h) hP hD hS dX6_wishes_66
          · have h := (if_neg c7).symm.trans h
            refine lv_iconst (v := (-1)) hx hb dX6_wishes_39 (by decide) ?_
            exact hret (-1 : Int32) (w_size, w_froms, w_tos, w_worths) H locs _ ls (Option.some.inj h) hP hD hS dX6_wishes_40
      · have h := (if_pos c5).symm.trans h
        refine lv_iconst (v := (-1)) hx hb dX6_wishes_27 (by decide) ?_
        exact hret (-1 : Int32) (w_size, w_froms, w_tos, w_worths) H locs _ ls (Option.some.inj h) hP hD hS dX6_wishes_28
abbrev rm_X6_grants : Room := { frames := 0, cells := 0, slots := 0, locals := 0 }
set_option maxHeartbeats 4000000 in
set_option maxRecDepth 100000 in
theorem k_X6_grants (l : Launch) (D : va_G) (cI cZ cT : ClassId) (q : Nat → Nat) (qr : Nat → Nat) (qm : Nat → Nat) (qs : Nat → Nat) (qt : Nat → Nat) (qro : Nat → Nat) (qto : Nat → Nat) (qw : Nat → Nat) (qi0 : Nat → Nat) (qi1 : Nat → Nat) (sz : Nat) (v_asked : Int64) (w_size : Int32) (w_bestWorth : Int32) (w_bestSet : Int32) (res : R_X6_grants) (hf : f_X6_grants w_size = some res) : Met l yX6_grants wsX6_grants rm_X6_grants (cPre D (tyz cI cZ cT) [.ref (q 0)] sz [oX6 q (qr 0) (qm 0) (qs 0) (qt 0) (qro 0) (qto 0) (qw 0) v_asked, oX5 qw w_size w_bestWorth w_bestSet]) (cPi D (tyz cI cZ cT) (fun (r : Int32) (u : Int32) => (r, u) = res) (fun u => [oX6 q (qr 0) (qm 0) (qs 0) (qt 0) (qro 0) (qto 0) (qw 0) v_asked, oX5 qw u w_bestWorth w_bestSet]) [oX6 q (qr 0) (qm 0) (qs 0) (qt 0) (qro 0) (qto 0) (qw 0) v_asked, oX5 qw w_size w_bestWorth w_bestSet] sz) 0 0 (va_A [oX6 q (qr 0) (qm 0) (qs 0) (qt 0) (qro 0) (qto 0) (qw 0) v_asked, oX5 qw w_size w_bestWorth w_bestSet] sz) := by
  refine vx_meth_i (by decide) rfl (Nat.le_of_ble_eq_true rfl) ?_
  intro p e s m args below meth c A Q hx hb hml hown hts hK hP hD hA hS hret ls hl
  have hown : s.vm.findClass RX6 = some m.cls := hown
  have hl : lv_has ls 2 [(0, .ref (q 0))] := hl
  have hFx : CallFix p m c cX6_grants 2 s args wsX6_grants RX6 := ⟨hx, hb, hml, hown, hts⟩
  have lk58 := hts (.fieldLink RX6 58 "FogGuides" "wishList" "LFogGuides$WishList;") (by decide +kernel)
  have iw6 : ∀ w ∈ u_ws RX6 TX6 10, w ∈ wsX6_grants := by decide +kernel
  have lk84 := hts (.fieldLink RX6 84 "FogGuides$WishList" "size" "I") (by decide +kernel)
  have iw5 : ∀ w ∈ u_ws RX5 TX5 7, w ∈ wsX6_grants := by decide +kernel
  have h := hf
  unfold f_X6_grants at h
  obtain ⟨H, eH⟩ : ∃ H, H = s.heap := ⟨_, rfl⟩
  rw [← eH] at hP ⊢
  obtain ⟨locs, el⟩ : ∃ locs : List Loc, locs = [] := ⟨_, rfl⟩
  rw [← el] at hS ⊢
  have hS : va_S A s.heap H locs := by rw [eH]; exact hS
  refine lv_aload_n hx hb dX6_grants_0 rfl (lv_at hl 0 rfl) ?_
  refine va_get (C := RX6) (T := TX6) (N := 10) (v := .ref (qw 0)) hx hb hts iw6 hown hK hP 0 rfl rfl 8 (Nat.le_of_ble_eq_true rfl) lk58 (fun _ h9 => h9) rfl dX6_grants_1 ?_
  refine va_get (C := RX5) (T := TX5) (N := 7) (v := .int w_size) hx hb hts iw5 hown hK hP 1 rfl rfl 0 (Nat.le_of_ble_eq_true rfl) lk84 (fun _ h9 => h9) rfl dX6_grants_4 ?_
  refine lv_istore_n (lv' := [(1, .int w_size), (0, .ref (q 0))]) hx hb dX6_grants_7 rfl hl (by decide) rfl (fun ls hl => ?_)
  refine lv_aload_n hx hb dX6_grants_8 rfl (lv_at hl 1 rfl) ?_
  refine va_get (C := RX6) (T := TX6) (N := 10) (v := .ref (qw 0)) hx hb hts iw6 hown hK hP 0 rfl rfl 8 (Nat.le_of_ble_eq_true rfl) lk58 (fun _ h9 => h9) rfl dX6_grants_9 ?_
  refine lv_iconst (v := 0) hx hb dX6_grants_12 (by decide) ?_
  refine va_put (C := RX5) (T := TX5) (N := 7) (v := .int (0 : Int32)) (ty := .int) hx hb hts iw5 tyX5 tyX5_ok nmX5 hown hK hP hD hS 1 rfl rfl 0 (Nat.le_of_ble_eq_true rfl) lk84 (fun _ h9 => h9) rfl (by decide +kernel) rfl rfl (Nat.le_of_ble_eq_true rfl) dX6_grants_13 (fun H locs hP hD hS => ?_)
  have hP : va_P D vwCl [oX6 q (qr 0) (qm 0) (qs 0) (qt 0) (qro 0) (qto 0) (qw 0) v_asked, oX5 qw (0 : Int32) w_bestWorth w_bestSet] H := hP
  have hD : va_D A [oX6 q (qr 0) (qm 0) (qs 0) (qt 0) (qro 0) (qto 0) (qw 0) v_asked, oX5 qw (0 : Int32) w_bestWorth w_bestSet] := hD
  refine lv_iload_n hx hb dX6_grants_16 rfl (lv_at hl 0 rfl) ?_
  exact hret w_size (0 : Int32) H locs _ ls (Option.some.inj h) hP hD hS dX6_grants_17
abbrev rm_X6_day : Room := { frames := 8, cells := 0, slots := 0, locals := 213 }
set_option maxHeartbeats 4000000 in
set_option maxRecDepth 100000 in
theorem k_X6_day (l : Launch) (D : va_G) (cI cZ cT : ClassId) (q : Nat → Nat) (qr : Nat → Nat) (qm : Nat → Nat) (qs : Nat → Nat) (qt : Nat → Nat) (qro : Nat → Nat) (qto : Nat → Nat) (qw : Nat → Nat) (qi0 : Nat → Nat) (qi1 : Nat → Nat) (sz : Nat) (v_asked : Int64) (m_cornerCount : Int32) (m_streetCount : Int32) (m_guideCount : Int32) (m_bellCount : Int32) (m_hand : Int32) (m_handTold : Int32) (w_size : Int32) (w_bestWorth : Int32) (w_bestSet : Int32) (m_ends : Nat → Int32) (m_farEnds : Nat → Int32) (m_lengths : Nat → Int32) (m_paces : Nat → Int32) (m_knows : Nat → Int32) (m_his : Nat → Int32) (w_froms : Nat → Int32) (w_tos : Nat → Int32) (w_worths : Nat → Int32) (w_ways : Nat → Int32) (x1 : Int32) (x2 : Int32) (x3 : Int32) (x4 : Int32) (res : R_X6_day) (fu : Nat) (hf : f_X6_day fu m_cornerCount m_streetCount m_guideCount m_ends m_farEnds m_lengths m_paces m_knows m_his w_size w_froms w_tos w_worths w_ways w_bestWorth w_bestSet x1 x2 x3 x4 = some res) : Met l yX6_day wsX6_day rm_X6_day (cPre D (tyz cI cZ cT) [.ref (q 0), .int x1, .int x2, .int x3, .int x4] sz [oX6 q (qr 0) (qm 0) (qs 0) (qt 0) (qro 0) (qto 0) (qw 0) v_asked, oX4 qm m_cornerCount m_streetCount m_guideCount m_bellCount m_hand m_handTold, rA (qm 8) cI 9 m_ends, rA (qm 9) cI 9 m_farEnds, rA (qm 10) cI 9 m_lengths, rA (qm 11) cI 4 m_paces, rA (qm 13) cI 4 m_knows, rA (qm 14) cI 4 m_his, oX5 qw w_size w_bestWorth w_bestSet, rA (qw 2) cI 4 w_froms, rA (qw 3) cI 4 w_tos, rA (qw 4) cI 4 w_worths, rA (qw 5) cI 49 w_ways]) (cPi D (tyz cI cZ cT) (fun (r : Int32) (u : (Nat → Int32) × Int32 × Int32) => (r, u) = res) (fun u => [oX6 q (qr 0) (qm 0) (qs 0) (qt 0) (qro 0) (qto 0) (qw 0) v_asked, oX4 qm m_cornerCount m_streetCount m_guideCount m_bellCount m_hand m_handTold, rA (qm 8) cI 9 m_ends, rA (qm 9) cI 9 m_farEnds, rA (qm 10) cI 9 m_lengths, rA (qm 11) cI 4 m_paces, rA (qm 13) cI 4 m_knows, rA (qm 14) cI 4 m_his, oX5 qw w_size u.2.1 u.2.2, rA (qw 2) cI 4 w_froms, rA (qw 3) cI 4 w_tos, rA (qw 4) cI 4 w_worths, rA (qw 5) cI 49 u.1]) [oX6 q (qr 0) (qm 0) (qs 0) (qt 0) (qro 0) (qto 0) (qw 0) v_asked, oX4 qm m_cornerCount m_streetCount m_guideCount m_bellCount m_hand m_handTold, rA (qm 8) cI 9 m_ends, rA (qm 9) cI 9 m_farEnds, rA (qm 10) cI 9 m_lengths, rA (qm 11) cI 4 m_paces, rA (qm 13) cI 4 m_knows, rA (qm 14) cI 4 m_his, oX5 qw w_size w_bestWorth w_bestSet, rA (qw 2) cI 4 w_froms, rA (qw 3) cI 4 w_tos, rA (qw 4) cI 4 w_worths, rA (qw 5) cI 49 w_ways] sz) 0 0 (va_A [oX6 q (qr 0) (qm 0) (qs 0) (qt 0) (qro 0) (qto 0) (qw 0) v_asked, oX4 qm m_cornerCount m_streetCount m_guideCount m_bellCount m_hand m_handTold, rA (qm 8) cI 9 m_ends, rA (qm 9) cI 9 m_farEnds, rA (qm 10) cI 9 m_lengths, rA (qm 11) cI 4 m_paces, rA (qm 13) cI 4 m_knows, rA (qm 14) cI 4 m_his, oX5 qw w_size w_bestWorth w_bestSet, rA (qw 2) cI 4 w_froms, rA (qw 3) cI 4 w_tos, rA (qw 4) cI 4 w_worths, rA (qw 5) cI 49 w_ways] sz) := by
  refine vx_meth_i (by decide) rfl (Nat.le_of_ble_eq_true rfl) ?_
  intro p e s m args below meth c A Q hx hb hml hown hts hK hP hD hA hS hret ls hl
  have hown : s.vm.findClass RX6 = some m.cls := hown
  have hl : lv_has ls 5 [(0, .ref (q 0)), (1, .int x1), (2, .int x2), (3, .int x3), (4, .int x4)] := hl
  have hFx : CallFix p m c cX6_day 5 s args wsX6_day RX6 := ⟨hx, hb, hml, hown, hts⟩
  have lk19 := hts (.fieldLink RX6 19 "FogGuides" "map" "LFogGuides$TownMap;") (by decide +kernel)
  have iw6 : ∀ w ∈ u_ws RX6 TX6 10, w ∈ wsX6_day := by decide +kernel
  have lk58 := hts (.fieldLink RX6 58 "FogGuides" "wishList" "LFogGuides$WishList;") (by decide +kernel)
  have lk273 := hts (.fieldLink RX6 273 "FogGuides$WishList" "bestSet" "I") (by decide +kernel)
  have iw5 : ∀ w ∈ u_ws RX5 TX5 7, w ∈ wsX6_day := by decide +kernel
  have lk270 := hts (.fieldLink RX6 270 "FogGuides$WishList" "bestWorth" "I") (by decide +kernel)
  have h := hf
  unfold f_X6_day at h
  obtain ⟨H, eH⟩ : ∃ H, H = s.heap := ⟨_, rfl⟩
  rw [← eH] at hP ⊢
  obtain ⟨locs, el⟩ : ∃ locs : List Loc, locs = [] := ⟨_, rfl⟩
  rw [← el] at hS ⊢
  have hS : va_S A s.heap H locs := by rw [eH]; exact hS
  refine lv_aload_n hx hb dX6_day_0 rfl (lv_at hl 0 rfl) ?_
  refine va_get (C := RX6) (T := TX6) (N := 10) (v := .ref (qm 0)) hx hb hts iw6 hown hK hP 0 rfl rfl 1 (Nat.le_of_ble_eq_true rfl) lk19 (fun _ h9 => h9) rfl dX6_day_1 ?_
  refine lv_iload_n hx hb dX6_day_4 rfl (lv_at hl 1 rfl) ?_
  obtain ⟨r1, hr1, h⟩ := xk_some h
  refine vx_VJ (As := [.int x1]) (rest := []) hFx (k_X4_hasGuide l D cI cZ cT qm H.size m_cornerCount m_streetCount m_guideCount m_bellCount m_hand m_handTold x1 r1 hr1) (cwV 1 hts gX6_day_X4_hasGuide rfl rfl rfl (by decide +kernel) ⟨Nat.le_of_ble_eq_true rfl, Nat.le_of_ble_eq_true rfl⟩) hK hP hD hS hA [1] rfl rfl 4 0 rfl rfl rfl hl.1 rfl (Nat.le_of_ble_eq_true rfl) dX6_day_5 ⟨Nat.zero_le _, Nat.zero_le _⟩ (fun H locs hP hS => ?_)
  refine lv_if_eq (tgt := 34) hx hb dX6_day_8 (by decide) (fun c2 => ?_) (fun c2 => ?_)
  · have h := (if_pos c2).symm.trans h
    refine lv_iconst (v := (-1)) hx hb dX6_day_34 (by decide) ?_
    exact hret (-1 : Int32) (w_ways, w_bestWorth, w_bestSet) H locs _ ls (Option.some.inj h) hP hD hS dX6_day_35
  · have h := (if_neg c2).symm.trans h
    refine lv_aload_n hx hb dX6_day_11 rfl (lv_at hl 0 rfl) ?_
    refine va_get (C := RX6) (T := TX6) (N := 10) (v := .ref (qm 0)) hx hb hts iw6 hown hK hP 0 rfl rfl 1 (Nat.le_of_ble_eq_true rfl) lk19 (fun _ h9 => h9) rfl dX6_day_12 ?_
    refine lv_iload_n hx hb dX6_day_15 rfl (lv_at hl 2 rfl) ?_
    obtain ⟨r3, hr3, h⟩ := xk_some h
    refine vx_VJ (As := [.int x2]) (rest := []) hFx (k_X4_hasCorner l D cI cZ cT qm H.size m_cornerCount m_streetCount m_guideCount m_bellCount m_hand m_handTold x2 r3 hr3) (cwV 1 hts gX6_day_X4_hasCorner rfl rfl rfl (by decide +kernel) ⟨Nat.le_of_ble_eq_true rfl, Nat.le_of_ble_eq_true rfl⟩) hK hP hD hS hA [1] rfl rfl 4 0 rfl rfl rfl hl.1 rfl (Nat.le_of_ble_eq_true rfl) dX6_day_16 ⟨Nat.zero_le _, Nat.zero_le _⟩ (fun H locs hP hS => ?_)
    refine lv_if_eq (tgt := 34) hx hb dX6_day_19 (by decide) (fun c4 => ?_) (fun c4 => ?_)
    · have h := (if_pos c4).symm.trans h
      refine lv_iconst (v := (-1)) hx hb dX6_day_34 (by decide) ?_
      exact hret (-1 : Int32) (w_ways, w_bestWorth, w_bestSet) H locs _ ls (Option.some.inj h) hP hD hS dX6_day_35
    · have h := (if_neg c4).symm.trans h
      refine lv_aload_n hx hb dX6_day_22 rfl (lv_at hl 0 rfl) ?_
      refine va_get (C := RX6) (T := TX6) (N := 10) (v := .ref (qm 0)) hx hb hts iw6 hown hK hP 0 rfl rfl 1 (Nat.le_of_ble_eq_true rfl) lk19 (fun _ h9 => h9) rfl dX6_day_23 ?_
      refine lv_iload_n hx hb dX6_day_26 rfl (lv_at hl 1 rfl) ?_
      refine lv_iload_n hx hb dX6_day_27 rfl (lv_at hl 2 rfl) ?_
      obtain ⟨r5, hr5, h⟩ := xk_some h
      refine vx_VJ (As := [.int x1, .int x2]) (rest := []) hFx (k_X4_isHis l D cI cZ cT qm H.size m_cornerCount m_streetCount m_guideCount m_bellCount m_hand m_handTold m_his x1 x2 r5 hr5) (cwV 2 hts gX6_day_X4_isHis rfl rfl rfl (by decide +kernel) ⟨Nat.le_of_ble_eq_true rfl, Nat.le_of_ble_eq_true rfl⟩) hK hP hD hS hA [1, 7] rfl rfl 4 0 rfl rfl rfl hl.1 rfl (Nat.le_of_ble_eq_true rfl) dX6_day_28 ⟨Nat.zero_le _, Nat.zero_le _⟩ (fun H locs hP hS => ?_)
      refine lv_if_ne (tgt := 36) hx hb dX6_day_31 (by decide) (fun c6 => ?_) (fun c6 => ?_)
      · have h := (if_neg c6).symm.trans h
        refine lv_iload_n hx hb dX6_day_36 rfl (lv_at hl 3 rfl) ?_
        refine lv_if_lt (tgt := 57) hx hb dX6_day_37 (by decide) (fun c7 => ?_) (fun c7 => ?_)
        · have h := (if_pos c7).symm.trans h
          refine lv_iconst (v := (-1)) hx hb dX6_day_57 (by decide) ?_
          exact hret (-1 : Int32) (w_ways, w_bestWorth, w_bestSet) H locs _ ls (Option.some.inj h) hP hD hS dX6_day_58
        · have h := (if_neg c7).symm.trans h
          refine lv_iload_n hx hb dX6_day_40 rfl (lv_at hl 3 rfl) ?_
          refine lv_bipush (v := 99) hx hb dX6_day_41 (by decide) ?_
          refine lv_icmp_gt (tgt := 57) hx hb dX6_day_43 (by decide) (fun c8 => ?_) (fun c8 => ?_)
          · have h := (if_pos c8).symm.trans h
            refine lv_iconst (v := (-1)) hx hb dX6_day_57 (by decide) ?_
            exact hret (-1 : Int32) (w_ways, w_bestWorth, w_bestSet) H locs _ ls (Option.some.inj h) hP hD hS dX6_day_58
          · have h := (if_neg c8).symm.trans h
            refine lv_iload hx hb dX6_day_46 (lv_at hl 4 rfl) ?_
            refine lv_if_lt (tgt := 57) hx hb dX6_day_48 (by decide) (fun c9 => ?_) (fun c9 => ?_)
            · have h := (if_pos c9).symm.trans h
              refine lv_iconst (v := (-1)) hx hb dX6_day_57 (by decide) ?_
              exact hret (-1 : Int32) (w_ways, w_bestWorth, w_bestSet) H locs _ ls (Option.some.inj h) hP hD hS dX6_day_58
            · have h := (if_neg c9).symm.trans h
              refine lv_iload hx hb dX6_day_51 (lv_at hl 4 rfl) ?_
              refine lv_iconst (v := 1) hx hb dX6_day_53 (by decide) ?_
              refine lv_icmp_le (tgt := 59) hx hb dX6_day_54 (by decide) (fun c10 => ?_) (fun c10 => ?_)
              · have h := (if_pos c10).symm.trans h
                refine lv_aload_n hx hb dX6_day_59 rfl (lv_at hl 0 rfl) ?_
                refine va_get (C := RX6) (T := TX6) (N := 10) (v := .ref (qw 0)) hx hb hts iw6 hown hK hP 0 rfl rfl 8 (Nat.le_of_ble_eq_true rfl) lk58 (fun _ h9 => h9) rfl dX6_day_60 ?_
                refine lv_aload_n hx hb dX6_day_63 rfl (lv_at hl 0 rfl) ?_
                refine va_get (C := RX6) (T := TX6) (N := 10) (v := .ref (qm 0)) hx hb hts iw6 hown hK hP 0 rfl rfl 1 (Nat.le_of_ble_eq_true rfl) lk19 (fun _ h9 => h9) rfl dX6_day_64 ?_
                refine lv_iload_n hx hb dX6_day_67 rfl (lv_at hl 1 rfl) ?_
                refine lv_iload_n hx hb dX6_day_68 rfl (lv_at hl 2 rfl) ?_
                refine lv_iload_n hx hb dX6_day_69 rfl (lv_at hl 3 rfl) ?_
                obtain ⟨r11, hr11, h⟩ := xk_some h
                refine vx_VV (As := [.ref (qm 0), .int x1, .int x2, .int x3]) (rest := []) (wr := [oX6 q (qr 0) (qm 0) (qs 0) (qt 0) (qro 0) (qto 0) (qw 0) v_asked, rA (qm 14) cI 4 m_his]) (wn := [oX6 q (qr 0) (qm 0) (qs 0) (qt 0) (qro 0) (qto 0) (qw 0) v_asked, oX4 qm m_cornerCount m_streetCount m_guideCount m_bellCount m_hand m_handTold, rA (qm 8) cI 9 m_ends, rA (qm 9) cI 9 m_farEnds, rA (qm 10) cI 9 m_lengths, rA (qm 11) cI 4 m_paces, rA (qm 13) cI 4 m_knows, rA (qm 14) cI 4 m_his, oX5 qw w_size r11.2.1 r11.2.2, rA (qw 2) cI 4 w_froms, rA (qw 3) cI 4 w_tos, rA (qw 4) cI 4 w_worths, rA (qw 5) cI 49 r11.1]) hFx (k_X5_findBestDay l D cI cZ cT qw qm H.size w_size w_bestWorth w_bestSet m_cornerCount m_streetCount m_guideCount m_bellCount m_hand m_handTold w_froms w_tos w_worths w_ways m_ends m_farEnds m_lengths m_paces m_knows x1 x2 x3 r11 fu hr11) (cwV 4 hts gX6_day_X5_findBestDay rfl rfl rfl (by decide +kernel) ⟨Nat.le_of_ble_eq_true rfl, Nat.le_of_ble_eq_true rfl⟩) hK hP hD hS hA [8, 9, 10, 11, 12, 1, 2, 3, 4, 5, 6] [0, 7] [0, 7, 8, 9, 10, 11, 12, 1, 2, 3, 4, 5, 6] rfl rfl rfl rfl (by decide) rfl rfl 5 0 rfl rfl rfl hl.1 rfl (Nat.le_of_ble_eq_true rfl) dX6_day_70 ⟨Nat.zero_le _, Nat.zero_le _⟩ (fun H locs hP hD hS => ?_)
                refine lv_iload hx hb dX6_day_73 (lv_at hl 4 rfl) ?_
                refine lv_if_ne (tgt := 88) hx hb dX6_day_75 (by decide) (fun c12 => ?_) (fun c12 => ?_)
                · have h := (if_neg c12).symm.trans h
                  refine lv_aload_n hx hb dX6_day_88 rfl (lv_at hl 0 rfl) ?_
                  refine va_get (C := RX6) (T := TX6) (N := 10) (v := .ref (qw 0)) hx hb hts iw6 hown hK hP 0 rfl rfl 8 (Nat.le_of_ble_eq_true rfl) lk58 (fun _ h9 => h9) rfl dX6_day_89 ?_
                  refine va_get (C := RX5) (T := TX5) (N := 7) (v := .int r11.2.2) hx hb hts iw5 hown hK hP 8 rfl rfl 6 (Nat.le_of_ble_eq_true rfl) lk273 (fun _ h9 => h9) rfl dX6_day_92 ?_
                  exact hret r11.2.2 (r11.1, r11.2.1, r11.2.2) H locs _ ls (Option.some.inj h) hP hD hS dX6_day_95
                · have h := (if_pos c12).symm.trans h
                  refine lv_aload_n hx hb dX6_day_78 rfl (lv_at hl 0 rfl) ?_
                  refine va_get (C := RX6) (T := TX6) (N := 10) (v := .ref (qw 0)) hx hb hts iw6 hown hK hP 0 rfl rfl 8 (Nat.le_of_ble_eq_true rfl) lk58 (fun _ h9 => h9) rfl dX6_day_79 ?_
                  refine va_get (C := RX5) (T := TX5) (N := 7) (v := .int r11.2.1) hx hb hts iw5 hown hK hP 8 rfl rfl 5 (Nat.le_of_ble_eq_true rfl) lk270 (fun _ h9 => h9) rfl dX6_day_82 ?_
                  refine lv_goto (tgt := 95) hx hb dX6_day_85 (by decide) ?_
                  exact hret r11.2.1 (r11.1, r11.2.1, r11.2.2) H locs _ ls (Option.some.inj h) hP hD hS dX6_day_95
              · have h := (if_neg c10).symm.trans h
                refine lv_iconst (v := (-1)) hx hb dX6_day_57 (by decide) ?_
                exact hret (-1 : Int32) (w_ways, w_bestWorth, w_bestSet) H locs _ ls (Option.some.inj h) hP hD hS dX6_day_58
      · have h := (if_pos c6).symm.trans h
        refine lv_iconst (v := (-1)) hx hb dX6_day_34 (by decide) ?_
        exact hret (-1 : Int32) (w_ways, w_bestWorth, w_bestSet) H locs _ ls (Option.some.inj h) hP hD hS dX6_day_35
abbrev rm_X6_rateAs (n : Nat) : Room := { frames := 1 + n, cells := 0, slots := 0, locals := 20 + n * 23 }
set_option maxHeartbeats 4000000 in
set_option maxRecDepth 100000 in
theorem k_X6_rateAs (l : Launch) (D : va_G) (cI cZ cT : ClassId) (fu : Nat) (tA : Nat) : ∀ (n : Nat) (q : Nat → Nat) (qr : Nat → Nat) (qm : Nat → Nat) (qs : Nat → Nat) (qt : Nat → Nat) (qro : Nat → Nat) (qto : Nat → Nat) (qw : Nat → Nat) (qi0 : Nat → Nat) (qi1 : Nat → Nat) (sz : Nat) (v_asked : Int64) (m_cornerCount : Int32) (m_streetCount : Int32) (m_guideCount : Int32) (m_bellCount : Int32) (m_hand : Int32) (m_handTold : Int32) (t_corner : Int32) (t_minute : Int32) (t_paid : Int32) (t_leader : Int32) (t_undoable : Int32) (m_paces : Nat → Int32) (m_fees : Nat → Int32) (m_knows : Nat → Int32) (m_his : Nat → Int32) (x1 : Int32) (x2 : Int32) (x3 : Int32) (res : R_X6_rateAs) (hf : f_X6_rateAs fu n v_asked m_paces m_fees m_knows m_his t_minute x1 x2 x3 = some res), Met l yX6_rateAs wsX6_rateAs (rm_X6_rateAs n) (cPreT D (tyz cI cZ cT) [.ref (q 0), .int x1, .int x2, .int x3] sz [oX6 q (qr 0) (qm 0) (qs 0) (qt 0) (qro 0) (qto 0) (qw 0) v_asked, oX4 qm m_cornerCount m_streetCount m_guideCount m_bellCount m_hand m_handTold, rA (qm 11) cI 4 m_paces, rA (qm 12) cI 4 m_fees, rA (qm 13) cI 4 m_knows, rA (qm 14) cI 4 m_his, oX1 qt t_corner t_minute t_paid t_leader t_undoable] tA) (cPi D (tyz cI cZ cT) (fun (r : Int32) (u : Int64) => (r, u) = res) (fun u => [oX6 q (qr 0) (qm 0) (qs 0) (qt 0) (qro 0) (qto 0) (qw 0) u, oX4 qm m_cornerCount m_streetCount m_guideCount m_bellCount m_hand m_handTold, rA (qm 11) cI 4 m_paces, rA (qm 12) cI 4 m_fees, rA (qm 13) cI 4 m_knows, rA (qm 14) cI 4 m_his, oX1 qt t_corner t_minute t_paid t_leader t_undoable]) [oX6 q (qr 0) (qm 0) (qs 0) (qt 0) (qro 0) (qto 0) (qw 0) v_asked, oX4 qm m_cornerCount m_streetCount m_guideCount m_bellCount m_hand m_handTold, rA (qm 11) cI 4 m_paces, rA (qm 12) cI 4 m_fees, rA (qm 13) cI 4 m_knows, rA (qm 14) cI 4 m_his, oX1 qt t_corner t_minute t_paid t_leader t_undoable] sz) 0 0 (va_A [oX6 q (qr 0) (qm 0) (qs 0) (qt 0) (qro 0) (qto 0) (qw 0) v_asked, oX4 qm m_cornerCount m_streetCount m_guideCount m_bellCount m_hand m_handTold, rA (qm 11) cI 4 m_paces, rA (qm 12) cI 4 m_fees, rA (qm 13) cI 4 m_knows, rA (qm 14) cI 4 m_his, oX1 qt t_corner t_minute t_paid t_leader t_undoable] sz) := by
  intro n
  induction n with
  | zero =>
    intro q qr qm qs qt qro qto qw qi0 qi1 sz v_asked m_cornerCount m_streetCount m_guideCount m_bellCount m_hand m_handTold t_corner t_minute t_paid t_leader t_undoable m_paces m_fees m_knows m_his x1 x2 x3 res hf
    cases (show (none : Option R_X6_rateAs) = some res from hf)
  | succ n IH =>
    intro q qr qm qs qt qro qto qw qi0 qi1 sz v_asked m_cornerCount m_streetCount m_guideCount m_bellCount m_hand m_handTold t_corner t_minute t_paid t_leader t_undoable m_paces m_fees m_knows m_his x1 x2 x3 res hf
    refine vx_meth_iT (by decide) rfl (Nat.le_of_ble_eq_true rfl) ?_
    intro p e s m args below meth c A Q hx hb hml hown hts hK hP hD hA hS hTr hret ls hl
    have hown : s.vm.findClass RX6 = some m.cls := hown
    have hl : lv_has ls 4 [(0, .ref (q 0)), (1, .int x1), (2, .int x2), (3, .int x3)] := hl
    have hFx : CallFix p m c cX6_rateAs 4 s args wsX6_rateAs RX6 := ⟨hx, hb, hml, hown, hts⟩
    have lk62 := hts (.fieldLink RX6 62 "FogGuides" "asked" "J") (by decide +kernel)
    have iw6 : ∀ w ∈ u_ws RX6 TX6 10, w ∈ wsX6_rateAs := by decide +kernel
    have lk19 := hts (.fieldLink RX6 19 "FogGuides" "map" "LFogGuides$TownMap;") (by decide +kernel)
    have lk109 := hts (.fieldLink RX6 109 "FogGuides$TownMap" "paces" "[I") (by decide +kernel)
    have iw4 : ∀ w ∈ u_ws RX4 TX4 15, w ∈ wsX6_rateAs := by decide +kernel
    have lk115 := hts (.fieldLink RX6 115 "FogGuides$TownMap" "knows" "[I") (by decide +kernel)
    have lk118 := hts (.fieldLink RX6 118 "FogGuides$TownMap" "his" "[I") (by decide +kernel)
    have lk29 := hts (.fieldLink RX6 29 "FogGuides" "tale" "LFogGuides$Tale;") (by decide +kernel)
    have lk140 := hts (.fieldLink RX6 140 "FogGuides$Tale" "minute" "I") (by decide +kernel)
    have iw1 : ∀ w ∈ u_ws RX1 TX1 9, w ∈ wsX6_rateAs := by decide +kernel
    have lk112 := hts (.fieldLink RX6 112 "FogGuides$TownMap" "fees" "[I") (by decide +kernel)
    have h : f_X6_rateAsb fu (f_X6_rateAs fu n) v_asked m_paces m_fees m_knows m_his t_minute x1 x2 x3 = some res := hf
    unfold f_X6_rateAsb at h
    obtain ⟨H, eH⟩ : ∃ H, H = s.heap := ⟨_, rfl⟩
    rw [← eH] at hP ⊢
    obtain ⟨locs, el⟩ : ∃ locs : List Loc, locs = [] := ⟨_, rfl⟩
    rw [← el] at hS ⊢
    have hS : va_S A s.heap H locs := by rw [eH]; exact hS
    refine lv_iload_n hx hb dX6_rateAs_0 rfl (lv_at hl 3 rfl) ?_
    refine lv_bipush (v := 6) hx hb dX6_rateAs_1 (by decide) ?_
    refine lv_icmp_ge (tgt := 16) hx hb dX6_rateAs_3 (by decide) (fun c1 => ?_) (fun c1 => ?_)
    · have h := (if_pos c1).symm.trans h
      refine lv_iconst (v := 0) hx hb dX6_rateAs_16 (by decide) ?_
      exact hret (0 : Int32) v_asked H locs _ ls (Option.some.inj h) hP hD hS dX6_rateAs_17
    · have h := (if_neg c1).symm.trans h
      refine lv_iload_n hx hb dX6_rateAs_6 rfl (lv_at hl 1 rfl) ?_
      refine lv_if_lt (tgt := 16) hx hb dX6_rateAs_7 (by decide) (fun c2 => ?_) (fun c2 => ?_)
      · have h := (if_pos c2).symm.trans h
        refine lv_iconst (v := 0) hx hb dX6_rateAs_16 (by decide) ?_
        exact hret (0 : Int32) v_asked H locs _ ls (Option.some.inj h) hP hD hS dX6_rateAs_17
      · have h := (if_neg c2).symm.trans h
        refine lv_iload_n hx hb dX6_rateAs_10 rfl (lv_at hl 1 rfl) ?_
        refine lv_bipush (v := 6) hx hb dX6_rateAs_11 (by decide) ?_
        refine lv_icmp_lt (tgt := 18) hx hb dX6_rateAs_13 (by decide) (fun c3 => ?_) (fun c3 => ?_)
        · have h := (if_pos c3).symm.trans h
          refine lv_aload_n hx hb dX6_rateAs_18 rfl (lv_at hl 0 rfl) ?_
          refine lv_dup hx hb dX6_rateAs_19 rfl ?_
          refine va_get (C := RX6) (T := TX6) (N := 10) (v := .long v_asked) hx hb hts iw6 hown hK hP 0 rfl rfl 9 (Nat.le_of_ble_eq_true rfl) lk62 (fun _ h9 => h9) rfl dX6_rateAs_20 ?_
          refine va_gets hx hb hTr.1 hS hown (hts (.fieldLink RX6 281 "FogGuides" "TRACES" "[I") (by decide +kernel)) (fun _ h9 => h9) dX6_rateAs_23 ?_
          refine lv_iload_n hx hb dX6_rateAs_26 rfl (lv_at hl 1 rfl) ?_
          obtain ⟨hi4, h⟩ := xb_some h
          refine va_ti hx hb hTr.2 hS hi4 rfl dX6_rateAs_27 ?_
          refine lv_i2l hx hb dX6_rateAs_28 rfl ?_
          refine lv_ladd hx hb dX6_rateAs_29 ?_
          refine va_put (C := RX6) (T := TX6) (N := 10) (v := .long (v_asked + ((trs x1.toNatClampNeg).toInt64))) (ty := .long) hx hb hts iw6 tyX6 tyX6_ok nmX6 hown hK hP hD hS 0 rfl rfl 9 (Nat.le_of_ble_eq_true rfl) lk62 (fun _ h9 => h9) rfl (by decide +kernel) rfl rfl (Nat.le_of_ble_eq_true rfl) dX6_rateAs_30 (fun H locs hP hD hS => ?_)
          have hP : va_P D vwCl [oX6 q (qr 0) (qm 0) (qs 0) (qt 0) (qro 0) (qto 0) (qw 0) (v_asked + ((trs x1.toNatClampNeg).toInt64)), oX4 qm m_cornerCount m_streetCount m_guideCount m_bellCount m_hand m_handTold, rA (qm 11) cI 4 m_paces, rA (qm 12) cI 4 m_fees, rA (qm 13) cI 4 m_knows, rA (qm 14) cI 4 m_his, oX1 qt t_corner t_minute t_paid t_leader t_undoable] H := hP
          have hD : va_D A [oX6 q (qr 0) (qm 0) (qs 0) (qt 0) (qro 0) (qto 0) (qw 0) (v_asked + ((trs x1.toNatClampNeg).toInt64)), oX4 qm m_cornerCount m_streetCount m_guideCount m_bellCount m_hand m_handTold, rA (qm 11) cI 4 m_paces, rA (qm 12) cI 4 m_fees, rA (qm 13) cI 4 m_knows, rA (qm 14) cI 4 m_his, oX1 qt t_corner t_minute t_paid t_leader t_undoable] := hD
          refine lv_iload_n hx hb dX6_rateAs_33 rfl (lv_at hl 1 rfl) ?_
          by_cases c5 : x1 = (1 : Int32)
          · refine lv_tableIn (off := 34) (tgt := 68) hx hb dX6_rateAs_34 (by rw [c5]; decide) (by rw [c5]; decide) (by rw [c5]; decide) (by decide) ?_
            have h := (if_pos c5).symm.trans h
            refine lv_aload_n hx hb dX6_rateAs_68 rfl (lv_at hl 0 rfl) ?_
            refine lv_iconst (v := 0) hx hb dX6_rateAs_69 (by decide) ?_
            refine lv_iload_n hx hb dX6_rateAs_70 rfl (lv_at hl 2 rfl) ?_
            refine lv_iload_n hx hb dX6_rateAs_71 rfl (lv_at hl 3 rfl) ?_
            refine lv_iconst (v := 1) hx hb dX6_rateAs_72 (by decide) ?_
            refine lv_iadd hx hb dX6_rateAs_73 ?_
            obtain ⟨r6, hr6, h⟩ := xk_some h
            refine vx_VIT hTr (As := [.int (0 : Int32), .int x2, .int (x3 + (1 : Int32))]) (rest := []) (wr := []) (wn := [oX6 q (qr 0) (qm 0) (qs 0) (qt 0) (qro 0) (qto 0) (qw 0) r6.2, oX4 qm m_cornerCount m_streetCount m_guideCount m_bellCount m_hand m_handTold, rA (qm 11) cI 4 m_paces, rA (qm 12) cI 4 m_fees, rA (qm 13) cI 4 m_knows, rA (qm 14) cI 4 m_his, oX1 qt t_corner t_minute t_paid t_leader t_undoable]) hFx (IH q qr qm qs qt qro qto qw qi0 qi1 H.size (v_asked + ((trs x1.toNatClampNeg).toInt64)) m_cornerCount m_streetCount m_guideCount m_bellCount m_hand m_handTold t_corner t_minute t_paid t_leader t_undoable m_paces m_fees m_knows m_his (0 : Int32) x2 (x3 + (1 : Int32)) r6 hr6) (cwV 3 hts gX6_rateAs_X6_rateAs rfl rfl rfl (by decide +kernel) ⟨by simp only [rm_X6_rateAs, rm_X6_rateAs]; omega, by simp only [rm_X6_rateAs, rm_X6_rateAs]; omega⟩) hK hP hD hS hA [0, 1, 2, 3, 4, 5, 6] [] [0, 1, 2, 3, 4, 5, 6] rfl rfl rfl rfl (by decide) rfl rfl 6 0 rfl rfl rfl hl.1 rfl (Nat.le_of_ble_eq_true rfl) dX6_rateAs_74 ⟨Nat.zero_le _, Nat.zero_le _⟩ (fun H locs hP hD hS => ?_)
            refine lv_aload_n hx hb dX6_rateAs_77 rfl (lv_at hl 0 rfl) ?_
            refine va_get (C := RX6) (T := TX6) (N := 10) (v := .ref (qm 0)) hx hb hts iw6 hown hK hP 0 rfl rfl 1 (Nat.le_of_ble_eq_true rfl) lk19 (fun _ h9 => h9) rfl dX6_rateAs_78 ?_
            refine va_get (C := RX4) (T := TX4) (N := 15) (v := .ref (qm 11)) hx hb hts iw4 hown hK hP 1 rfl rfl 10 (Nat.le_of_ble_eq_true rfl) lk109 (fun _ h9 => h9) rfl dX6_rateAs_81 ?_
            refine lv_iload_n hx hb dX6_rateAs_84 rfl (lv_at hl 2 rfl) ?_
            obtain ⟨hi7, h⟩ := xb_some h
            refine va_iald hx hb hK hP 2 0 rfl rfl hi7 dX6_rateAs_85 ?_
            refine lv_iadd hx hb dX6_rateAs_86 ?_
            exact hret (r6.1 + (m_paces x2.toNatClampNeg)) r6.2 H locs _ ls (Option.some.inj h) hP hD hS dX6_rateAs_87
          have h := (if_neg c5).symm.trans h
          by_cases c8 : x1 = (2 : Int32)
          · refine lv_tableIn (off := 54) (tgt := 88) hx hb dX6_rateAs_34 (by rw [c8]; decide) (by rw [c8]; decide) (by rw [c8]; decide) (by decide) ?_
            have h := (if_pos c8).symm.trans h
            refine lv_aload_n hx hb dX6_rateAs_88 rfl (lv_at hl 0 rfl) ?_
            refine lv_iconst (v := 0) hx hb dX6_rateAs_89 (by decide) ?_
            refine lv_iload_n hx hb dX6_rateAs_90 rfl (lv_at hl 2 rfl) ?_
            refine lv_iload_n hx hb dX6_rateAs_91 rfl (lv_at hl 3 rfl) ?_
            refine lv_iconst (v := 1) hx hb dX6_rateAs_92 (by decide) ?_
            refine lv_iadd hx hb dX6_rateAs_93 ?_
            obtain ⟨r9, hr9, h⟩ := xk_some h
            refine vx_VIT hTr (As := [.int (0 : Int32), .int x2, .int (x3 + (1 : Int32))]) (rest := []) (wr := []) (wn := [oX6 q (qr 0) (qm 0) (qs 0) (qt 0) (qro 0) (qto 0) (qw 0) r9.2, oX4 qm m_cornerCount m_streetCount m_guideCount m_bellCount m_hand m_handTold, rA (qm 11) cI 4 m_paces, rA (qm 12) cI 4 m_fees, rA (qm 13) cI 4 m_knows, rA (qm 14) cI 4 m_his, oX1 qt t_corner t_minute t_paid t_leader t_undoable]) hFx (IH q qr qm qs qt qro qto qw qi0 qi1 H.size (v_asked + ((trs x1.toNatClampNeg).toInt64)) m_cornerCount m_streetCount m_guideCount m_bellCount m_hand m_handTold t_corner t_minute t_paid t_leader t_undoable m_paces m_fees m_knows m_his (0 : Int32) x2 (x3 + (1 : Int32)) r9 hr9) (cwV 3 hts gX6_rateAs_X6_rateAs rfl rfl rfl (by decide +kernel) ⟨by simp only [rm_X6_rateAs, rm_X6_rateAs]; omega, by simp only [rm_X6_rateAs, rm_X6_rateAs]; omega⟩) hK hP hD hS hA [0, 1, 2, 3, 4, 5, 6] [] [0, 1, 2, 3, 4, 5, 6] rfl rfl rfl rfl (by decide) rfl rfl 6 0 rfl rfl rfl hl.1 rfl (Nat.le_of_ble_eq_true rfl) dX6_rateAs_94 ⟨Nat.zero_le _, Nat.zero_le _⟩ (fun H locs hP hD hS => ?_)
            refine lv_aload_n hx hb dX6_rateAs_97 rfl (lv_at hl 0 rfl) ?_
            refine va_get (C := RX6) (T := TX6) (N := 10) (v := .ref (qm 0)) hx hb hts iw6 hown hK hP 0 rfl rfl 1 (Nat.le_of_ble_eq_true rfl) lk19 (fun _ h9 => h9) rfl dX6_rateAs_98 ?_
            refine va_get (C := RX4) (T := TX4) (N := 15) (v := .ref (qm 13)) hx hb hts iw4 hown hK hP 1 rfl rfl 12 (Nat.le_of_ble_eq_true rfl) lk115 (fun _ h9 => h9) rfl dX6_rateAs_101 ?_
            refine lv_iload_n hx hb dX6_rateAs_104 rfl (lv_at hl 2 rfl) ?_
            obtain ⟨hi10, h⟩ := xb_some h
            refine va_iald hx hb hK hP 4 0 rfl rfl hi10 dX6_rateAs_105 ?_
            obtain ⟨r11, hr11, h⟩ := xk_some h
            refine vx_SJ (As := [.int (m_knows x2.toNatClampNeg)]) (rest := [.int r9.1]) hFx (k_J6_bitCount_0f7a4 l D cI cZ cT H.size (m_knows x2.toNatClampNeg) r11 hr11) (vx_cwS 1 hts gX6_rateAs_J6_bitCount_0f7a4 rfl rfl rfl (by decide +kernel) ⟨by simp only [rm_X6_rateAs, rm_J6_bitCount_0f7a4]; omega, by simp only [rm_X6_rateAs, rm_J6_bitCount_0f7a4]; omega⟩) hK hP hD hS hA rfl hl.1 rfl (Nat.le_of_ble_eq_true rfl) dX6_rateAs_106 ⟨Nat.zero_le _, Nat.zero_le _⟩ (fun H locs hP hS => ?_)
            refine lv_isub hx hb dX6_rateAs_109 ?_
            exact hret (r9.1 - r11) r9.2 H locs _ ls (Option.some.inj h) hP hD hS dX6_rateAs_110
          have h := (if_neg c8).symm.trans h
          by_cases c12 : x1 = (3 : Int32)
          · refine lv_tableIn (off := 77) (tgt := 111) hx hb dX6_rateAs_34 (by rw [c12]; decide) (by rw [c12]; decide) (by rw [c12]; decide) (by decide) ?_
            have h := (if_pos c12).symm.trans h
            refine lv_aload_n hx hb dX6_rateAs_111 rfl (lv_at hl 0 rfl) ?_
            refine lv_iconst (v := 1) hx hb dX6_rateAs_112 (by decide) ?_
            refine lv_iload_n hx hb dX6_rateAs_113 rfl (lv_at hl 2 rfl) ?_
            refine lv_iload_n hx hb dX6_rateAs_114 rfl (lv_at hl 3 rfl) ?_
            refine lv_iconst (v := 1) hx hb dX6_rateAs_115 (by decide) ?_
            refine lv_iadd hx hb dX6_rateAs_116 ?_
            obtain ⟨r13, hr13, h⟩ := xk_some h
            refine vx_VIT hTr (As := [.int (1 : Int32), .int x2, .int (x3 + (1 : Int32))]) (rest := []) (wr := []) (wn := [oX6 q (qr 0) (qm 0) (qs 0) (qt 0) (qro 0) (qto 0) (qw 0) r13.2, oX4 qm m_cornerCount m_streetCount m_guideCount m_bellCount m_hand m_handTold, rA (qm 11) cI 4 m_paces, rA (qm 12) cI 4 m_fees, rA (qm 13) cI 4 m_knows, rA (qm 14) cI 4 m_his, oX1 qt t_corner t_minute t_paid t_leader t_undoable]) hFx (IH q qr qm qs qt qro qto qw qi0 qi1 H.size (v_asked + ((trs x1.toNatClampNeg).toInt64)) m_cornerCount m_streetCount m_guideCount m_bellCount m_hand m_handTold t_corner t_minute t_paid t_leader t_undoable m_paces m_fees m_knows m_his (1 : Int32) x2 (x3 + (1 : Int32)) r13 hr13) (cwV 3 hts gX6_rateAs_X6_rateAs rfl rfl rfl (by decide +kernel) ⟨by simp only [rm_X6_rateAs, rm_X6_rateAs]; omega, by simp only [rm_X6_rateAs, rm_X6_rateAs]; omega⟩) hK hP hD hS hA [0, 1, 2, 3, 4, 5, 6] [] [0, 1, 2, 3, 4, 5, 6] rfl rfl rfl rfl (by decide) rfl rfl 6 0 rfl rfl rfl hl.1 rfl (Nat.le_of_ble_eq_true rfl) dX6_rateAs_117 ⟨Nat.zero_le _, Nat.zero_le _⟩ (fun H locs hP hD hS => ?_)
            refine lv_iconst (v := 2) hx hb dX6_rateAs_120 (by decide) ?_
            refine lv_imul hx hb dX6_rateAs_121 ?_
            exact hret (r13.1 * (2 : Int32)) r13.2 H locs _ ls (Option.some.inj h) hP hD hS dX6_rateAs_122
          have h := (if_neg c12).symm.trans h
          by_cases c14 : x1 = (4 : Int32)
          · refine lv_tableIn (off := 89) (tgt := 123) hx hb dX6_rateAs_34 (by rw [c14]; decide) (by rw [c14]; decide) (by rw [c14]; decide) (by decide) ?_
            have h := (if_pos c14).symm.trans h
            refine lv_aload_n hx hb dX6_rateAs_123 rfl (lv_at hl 0 rfl) ?_
            refine lv_iconst (v := 2) hx hb dX6_rateAs_124 (by decide) ?_
            refine lv_iload_n hx hb dX6_rateAs_125 rfl (lv_at hl 2 rfl) ?_
            refine lv_iload_n hx hb dX6_rateAs_126 rfl (lv_at hl 3 rfl) ?_
            refine lv_iconst (v := 1) hx hb dX6_rateAs_127 (by decide) ?_
            refine lv_iadd hx hb dX6_rateAs_128 ?_
            obtain ⟨r15, hr15, h⟩ := xk_some h
            refine vx_VIT hTr (As := [.int (2 : Int32), .int x2, .int (x3 + (1 : Int32))]) (rest := []) (wr := []) (wn := [oX6 q (qr 0) (qm 0) (qs 0) (qt 0) (qro 0) (qto 0) (qw 0) r15.2, oX4 qm m_cornerCount m_streetCount m_guideCount m_bellCount m_hand m_handTold, rA (qm 11) cI 4 m_paces, rA (qm 12) cI 4 m_fees, rA (qm 13) cI 4 m_knows, rA (qm 14) cI 4 m_his, oX1 qt t_corner t_minute t_paid t_leader t_undoable]) hFx (IH q qr qm qs qt qro qto qw qi0 qi1 H.size (v_asked + ((trs x1.toNatClampNeg).toInt64)) m_cornerCount m_streetCount m_guideCount m_bellCount m_hand m_handTold t_corner t_minute t_paid t_leader t_undoable m_paces m_fees m_knows m_his (2 : Int32) x2 (x3 + (1 : Int32)) r15 hr15) (cwV 3 hts gX6_rateAs_X6_rateAs rfl rfl rfl (by decide +kernel) ⟨by simp only [rm_X6_rateAs, rm_X6_rateAs]; omega, by simp only [rm_X6_rateAs, rm_X6_rateAs]; omega⟩) hK hP hD hS hA [0, 1, 2, 3, 4, 5, 6] [] [0, 1, 2, 3, 4, 5, 6] rfl rfl rfl rfl (by decide) rfl rfl 6 0 rfl rfl rfl hl.1 rfl (Nat.le_of_ble_eq_true rfl) dX6_rateAs_129 ⟨Nat.zero_le _, Nat.zero_le _⟩ (fun H locs hP hD hS => ?_)
            refine lv_aload_n hx hb dX6_rateAs_132 rfl (lv_at hl 0 rfl) ?_
            refine va_get (C := RX6) (T := TX6) (N := 10) (v := .ref (qm 0)) hx hb hts iw6 hown hK hP 0 rfl rfl 1 (Nat.le_of_ble_eq_true rfl) lk19 (fun _ h9 => h9) rfl dX6_rateAs_133 ?_
            refine va_get (C := RX4) (T := TX4) (N := 15) (v := .ref (qm 14)) hx hb hts iw4 hown hK hP 1 rfl rfl 13 (Nat.le_of_ble_eq_true rfl) lk118 (fun _ h9 => h9) rfl dX6_rateAs_136 ?_
            refine lv_iload_n hx hb dX6_rateAs_139 rfl (lv_at hl 2 rfl) ?_
            obtain ⟨hi16, h⟩ := xb_some h
            refine va_iald hx hb hK hP 5 0 rfl rfl hi16 dX6_rateAs_140 ?_
            obtain ⟨r17, hr17, h⟩ := xk_some h
            refine vx_SJ (As := [.int (m_his x2.toNatClampNeg)]) (rest := [.int r15.1]) hFx (k_J6_bitCount_0f7a4 l D cI cZ cT H.size (m_his x2.toNatClampNeg) r17 hr17) (vx_cwS 1 hts gX6_rateAs_J6_bitCount_0f7a4 rfl rfl rfl (by decide +kernel) ⟨by simp only [rm_X6_rateAs, rm_J6_bitCount_0f7a4]; omega, by simp only [rm_X6_rateAs, rm_J6_bitCount_0f7a4]; omega⟩) hK hP hD hS hA rfl hl.1 rfl (Nat.le_of_ble_eq_true rfl) dX6_rateAs_141 ⟨Nat.zero_le _, Nat.zero_le _⟩ (fun H locs hP hS => ?_)
            refine lv_iadd hx hb dX6_rateAs_144 ?_
            exact hret (r15.1 + r17) r15.2 H locs _ ls (Option.some.inj h) hP hD hS dX6_rateAs_145
          have h := (if_neg c14).symm.trans h
          by_cases c18 : x1 = (5 : Int32)
          · refine lv_tableIn (off := 112) (tgt := 146) hx hb dX6_rateAs_34 (by rw [c18]; decide) (by rw [c18]; decide) (by rw [c18]; decide) (by decide) ?_
            have h := (if_pos c18).symm.trans h
            refine lv_aload_n hx hb dX6_rateAs_146 rfl (lv_at hl 0 rfl) ?_
            refine lv_iconst (v := 0) hx hb dX6_rateAs_147 (by decide) ?_
            refine lv_iload_n hx hb dX6_rateAs_148 rfl (lv_at hl 2 rfl) ?_
            refine lv_iload_n hx hb dX6_rateAs_149 rfl (lv_at hl 3 rfl) ?_
            refine lv_iconst (v := 1) hx hb dX6_rateAs_150 (by decide) ?_
            refine lv_iadd hx hb dX6_rateAs_151 ?_
            obtain ⟨r19, hr19, h⟩ := xk_some h
            refine vx_VIT hTr (As := [.int (0 : Int32), .int x2, .int (x3 + (1 : Int32))]) (rest := []) (wr := []) (wn := [oX6 q (qr 0) (qm 0) (qs 0) (qt 0) (qro 0) (qto 0) (qw 0) r19.2, oX4 qm m_cornerCount m_streetCount m_guideCount m_bellCount m_hand m_handTold, rA (qm 11) cI 4 m_paces, rA (qm 12) cI 4 m_fees, rA (qm 13) cI 4 m_knows, rA (qm 14) cI 4 m_his, oX1 qt t_corner t_minute t_paid t_leader t_undoable]) hFx (IH q qr qm qs qt qro qto qw qi0 qi1 H.size (v_asked + ((trs x1.toNatClampNeg).toInt64)) m_cornerCount m_streetCount m_guideCount m_bellCount m_hand m_handTold t_corner t_minute t_paid t_leader t_undoable m_paces m_fees m_knows m_his (0 : Int32) x2 (x3 + (1 : Int32)) r19 hr19) (cwV 3 hts gX6_rateAs_X6_rateAs rfl rfl rfl (by decide +kernel) ⟨by simp only [rm_X6_rateAs, rm_X6_rateAs]; omega, by simp only [rm_X6_rateAs, rm_X6_rateAs]; omega⟩) hK hP hD hS hA [0, 1, 2, 3, 4, 5, 6] [] [0, 1, 2, 3, 4, 5, 6] rfl rfl rfl rfl (by decide) rfl rfl 6 0 rfl rfl rfl hl.1 rfl (Nat.le_of_ble_eq_true rfl) dX6_rateAs_152 ⟨Nat.zero_le _, Nat.zero_le _⟩ (fun H locs hP hD hS => ?_)
            refine lv_aload_n hx hb dX6_rateAs_155 rfl (lv_at hl 0 rfl) ?_
            refine va_get (C := RX6) (T := TX6) (N := 10) (v := .ref (qt 0)) hx hb hts iw6 hown hK hP 0 rfl rfl 3 (Nat.le_of_ble_eq_true rfl) lk29 (fun _ h9 => h9) rfl dX6_rateAs_156 ?_
            refine va_get (C := RX1) (T := TX1) (N := 9) (v := .int t_minute) hx hb hts iw1 hown hK hP 6 rfl rfl 1 (Nat.le_of_ble_eq_true rfl) lk140 (fun _ h9 => h9) rfl dX6_rateAs_159 ?_
            refine lv_iadd hx hb dX6_rateAs_162 ?_
            exact hret (r19.1 + t_minute) r19.2 H locs _ ls (Option.some.inj h) hP hD hS dX6_rateAs_163
          have h := (if_neg c18).symm.trans h
          refine lv_tableOut (tgt := 164) hx hb dX6_rateAs_34 (sw_out (lo := 1) (hi := 5) (by decide) (by decide) (fun j h1 h2 => ?_)) (by decide) ?_
          · rcases (show j = 1 ∨ j = 2 ∨ j = 3 ∨ j = 4 ∨ j = 5 by omega) with rfl | rfl | rfl | rfl | rfl
            · exact c5
            · exact c8
            · exact c12
            · exact c14
            · exact c18
          · refine lv_aload_n hx hb dX6_rateAs_164 rfl (lv_at hl 0 rfl) ?_
            refine va_get (C := RX6) (T := TX6) (N := 10) (v := .ref (qm 0)) hx hb hts iw6 hown hK hP 0 rfl rfl 1 (Nat.le_of_ble_eq_true rfl) lk19 (fun _ h9 => h9) rfl dX6_rateAs_165 ?_
            refine va_get (C := RX4) (T := TX4) (N := 15) (v := .ref (qm 12)) hx hb hts iw4 hown hK hP 1 rfl rfl 11 (Nat.le_of_ble_eq_true rfl) lk112 (fun _ h9 => h9) rfl dX6_rateAs_168 ?_
            refine lv_iload_n hx hb dX6_rateAs_171 rfl (lv_at hl 2 rfl) ?_
            obtain ⟨hi20, h⟩ := xb_some h
            refine va_iald hx hb hK hP 3 0 rfl rfl hi20 dX6_rateAs_172 ?_
            exact hret (m_fees x2.toNatClampNeg) (v_asked + ((trs x1.toNatClampNeg).toInt64)) H locs _ ls (Option.some.inj h) hP hD hS dX6_rateAs_173
        · have h := (if_neg c3).symm.trans h
          refine lv_iconst (v := 0) hx hb dX6_rateAs_16 (by decide) ?_
          exact hret (0 : Int32) v_asked H locs _ ls (Option.some.inj h) hP hD hS dX6_rateAs_17
abbrev rm_X6_rate : Room := { frames := 6, cells := 0, slots := 0, locals := 135 }
set_option maxHeartbeats 4000000 in
set_option maxRecDepth 100000 in
theorem k_X6_rate (l : Launch) (D : va_G) (cI cZ cT : ClassId) (tA : Nat) (q : Nat → Nat) (qr : Nat → Nat) (qm : Nat → Nat) (qs : Nat → Nat) (qt : Nat → Nat) (qro : Nat → Nat) (qto : Nat → Nat) (qw : Nat → Nat) (qi0 : Nat → Nat) (qi1 : Nat → Nat) (sz : Nat) (v_asked : Int64) (m_cornerCount : Int32) (m_streetCount : Int32) (m_guideCount : Int32) (m_bellCount : Int32) (m_hand : Int32) (m_handTold : Int32) (t_corner : Int32) (t_minute : Int32) (t_paid : Int32) (t_leader : Int32) (t_undoable : Int32) (m_paces : Nat → Int32) (m_fees : Nat → Int32) (m_knows : Nat → Int32) (m_his : Nat → Int32) (x1 : Int32) (x2 : Int32) (res : R_X6_rate) (fu : Nat) (hf : f_X6_rate fu v_asked m_guideCount m_paces m_fees m_knows m_his t_minute x1 x2 = some res) : Met l yX6_rate wsX6_rate rm_X6_rate (cPreT D (tyz cI cZ cT) [.ref (q 0), .int x1, .int x2] sz [oX6 q (qr 0) (qm 0) (qs 0) (qt 0) (qro 0) (qto 0) (qw 0) v_asked, oX4 qm m_cornerCount m_streetCount m_guideCount m_bellCount m_hand m_handTold, rA (qm 11) cI 4 m_paces, rA (qm 12) cI 4 m_fees, rA (qm 13) cI 4 m_knows, rA (qm 14) cI 4 m_his, oX1 qt t_corner t_minute t_paid t_leader t_undoable] tA) (cPi D (tyz cI cZ cT) (fun (r : Int32) (u : Int64) => (r, u) = res) (fun u => [oX6 q (qr 0) (qm 0) (qs 0) (qt 0) (qro 0) (qto 0) (qw 0) u, oX4 qm m_cornerCount m_streetCount m_guideCount m_bellCount m_hand m_handTold, rA (qm 11) cI 4 m_paces, rA (qm 12) cI 4 m_fees, rA (qm 13) cI 4 m_knows, rA (qm 14) cI 4 m_his, oX1 qt t_corner t_minute t_paid t_leader t_undoable]) [oX6 q (qr 0) (qm 0) (qs 0) (qt 0) (qro 0) (qto 0) (qw 0) v_asked, oX4 qm m_cornerCount m_streetCount m_guideCount m_bellCount m_hand m_handTold, rA (qm 11) cI 4 m_paces, rA (qm 12) cI 4 m_fees, rA (qm 13) cI 4 m_knows, rA (qm 14) cI 4 m_his, oX1 qt t_corner t_minute t_paid t_leader t_undoable] sz) 0 0 (va_A [oX6 q (qr 0) (qm 0) (qs 0) (qt 0) (qro 0) (qto 0) (qw 0) v_asked, oX4 qm m_cornerCount m_streetCount m_guideCount m_bellCount m_hand m_handTold, rA (qm 11) cI 4 m_paces, rA (qm 12) cI 4 m_fees, rA (qm 13) cI 4 m_knows, rA (qm 14) cI 4 m_his, oX1 qt t_corner t_minute t_paid t_leader t_undoable] sz) := by
  refine vx_meth_iT (by decide) rfl (Nat.le_of_ble_eq_true rfl) ?_
  intro p e s m args below meth c A Q hx hb hml hown hts hK hP hD hA hS hTr hret ls hl
  have hown : s.vm.findClass RX6 = some m.cls := hown
  have hl : lv_has ls 3 [(0, .ref (q 0)), (1, .int x1), (2, .int x2)] := hl
  have hFx : CallFix p m c cX6_rate 3 s args wsX6_rate RX6 := ⟨hx, hb, hml, hown, hts⟩
  have lk19 := hts (.fieldLink RX6 19 "FogGuides" "map" "LFogGuides$TownMap;") (by decide +kernel)
  have iw6 : ∀ w ∈ u_ws RX6 TX6 10, w ∈ wsX6_rate := by decide +kernel
  have h := hf
  unfold f_X6_rate at h
  obtain ⟨H, eH⟩ : ∃ H, H = s.heap := ⟨_, rfl⟩
  rw [← eH] at hP ⊢
  obtain ⟨locs, el⟩ : ∃ locs : List Loc, locs = [] := ⟨_, rfl⟩
  rw [← el] at hS ⊢
  have hS : va_S A s.heap H locs := by rw [eH]; exact hS
  refine lv_iload_n hx hb dX6_rate_0 rfl (lv_at hl 1 rfl) ?_
  refine lv_if_lt (tgt := 21) hx hb dX6_rate_1 (by decide) (fun c1 => ?_) (fun c1 => ?_)
  · have h := (if_pos c1).symm.trans h
    refine lv_ldcw (v := (-1000000)) hx hb hown (hts (.constant RX6 276 (-1000000)) (by decide +kernel)) dX6_rate_21 ?_
    exact hret (-1000000 : Int32) v_asked H locs _ ls (Option.some.inj h) hP hD hS dX6_rate_24
  · have h := (if_neg c1).symm.trans h
    refine lv_iload_n hx hb dX6_rate_4 rfl (lv_at hl 1 rfl) ?_
    refine lv_bipush (v := 6) hx hb dX6_rate_5 (by decide) ?_
    refine lv_icmp_ge (tgt := 21) hx hb dX6_rate_7 (by decide) (fun c2 => ?_) (fun c2 => ?_)
    · have h := (if_pos c2).symm.trans h
      refine lv_ldcw (v := (-1000000)) hx hb hown (hts (.constant RX6 276 (-1000000)) (by decide +kernel)) dX6_rate_21 ?_
      exact hret (-1000000 : Int32) v_asked H locs _ ls (Option.some.inj h) hP hD hS dX6_rate_24
    · have h := (if_neg c2).symm.trans h
      refine lv_aload_n hx hb dX6_rate_10 rfl (lv_at hl 0 rfl) ?_
      refine va_get (C := RX6) (T := TX6) (N := 10) (v := .ref (qm 0)) hx hb hts iw6 hown hK hP 0 rfl rfl 1 (Nat.le_of_ble_eq_true rfl) lk19 (fun _ h9 => h9) rfl dX6_rate_11 ?_
      refine lv_iload_n hx hb dX6_rate_14 rfl (lv_at hl 2 rfl) ?_
      obtain ⟨r3, hr3, h⟩ := xk_some h
      refine vx_VJ (As := [.int x2]) (rest := []) hFx (k_X4_hasGuide l D cI cZ cT qm H.size m_cornerCount m_streetCount m_guideCount m_bellCount m_hand m_handTold x2 r3 hr3) (cwV 1 hts gX6_rate_X4_hasGuide rfl rfl rfl (by decide +kernel) ⟨Nat.le_of_ble_eq_true rfl, Nat.le_of_ble_eq_true rfl⟩) hK hP hD hS hA [1] rfl rfl 4 0 rfl rfl rfl hl.1 rfl (Nat.le_of_ble_eq_true rfl) dX6_rate_15 ⟨Nat.zero_le _, Nat.zero_le _⟩ (fun H locs hP hS => ?_)
      refine lv_if_ne (tgt := 25) hx hb dX6_rate_18 (by decide) (fun c4 => ?_) (fun c4 => ?_)
      · have h := (if_neg c4).symm.trans h
        refine lv_aload_n hx hb dX6_rate_25 rfl (lv_at hl 0 rfl) ?_
        refine lv_iload_n hx hb dX6_rate_26 rfl (lv_at hl 1 rfl) ?_
        refine lv_iload_n hx hb dX6_rate_27 rfl (lv_at hl 2 rfl) ?_
        refine lv_iconst (v := 0) hx hb dX6_rate_28 (by decide) ?_
        obtain ⟨r5, hr5, h⟩ := xk_some h
        refine vx_VIT hTr (As := [.int x1, .int x2, .int (0 : Int32)]) (rest := []) (wr := []) (wn := [oX6 q (qr 0) (qm 0) (qs 0) (qt 0) (qro 0) (qto 0) (qw 0) r5.2, oX4 qm m_cornerCount m_streetCount m_guideCount m_bellCount m_hand m_handTold, rA (qm 11) cI 4 m_paces, rA (qm 12) cI 4 m_fees, rA (qm 13) cI 4 m_knows, rA (qm 14) cI 4 m_his, oX1 qt t_corner t_minute t_paid t_leader t_undoable]) hFx (k_X6_rateAs l D cI cZ cT fu tA 4 q qr qm qs qt qro qto qw qi0 qi1 H.size v_asked m_cornerCount m_streetCount m_guideCount m_bellCount m_hand m_handTold t_corner t_minute t_paid t_leader t_undoable m_paces m_fees m_knows m_his x1 x2 (0 : Int32) r5 hr5) (cwV 3 hts gX6_rate_X6_rateAs rfl rfl rfl (by decide +kernel) ⟨Nat.le_of_ble_eq_true rfl, Nat.le_of_ble_eq_true rfl⟩) hK hP hD hS hA [0, 1, 2, 3, 4, 5, 6] [] [0, 1, 2, 3, 4, 5, 6] rfl rfl rfl rfl (by decide) rfl rfl 6 0 rfl rfl rfl hl.1 rfl (Nat.le_of_ble_eq_true rfl) dX6_rate_29 ⟨Nat.zero_le _, Nat.zero_le _⟩ (fun H locs hP hD hS => ?_)
        exact hret r5.1 r5.2 H locs _ ls (Option.some.inj h) hP hD hS dX6_rate_32
      · have h := (if_pos c4).symm.trans h
        refine lv_ldcw (v := (-1000000)) hx hb hown (hts (.constant RX6 276 (-1000000)) (by decide +kernel)) dX6_rate_21 ?_
        exact hret (-1000000 : Int32) v_asked H locs _ ls (Option.some.inj h) hP hD hS dX6_rate_24
abbrev rm_X6_keep : Room := { frames := 2, cells := 0, slots := 0, locals := 85 }
set_option maxHeartbeats 4000000 in
set_option maxRecDepth 100000 in
theorem k_X6_keep (l : Launch) (D : va_G) (cI cZ cT : ClassId) (q : Nat → Nat) (qr : Nat → Nat) (qm : Nat → Nat) (qs : Nat → Nat) (qt : Nat → Nat) (qro : Nat → Nat) (qto : Nat → Nat) (qw : Nat → Nat) (qi0 : Nat → Nat) (qi1 : Nat → Nat) (sz : Nat) (v_asked : Int64) (t_corner : Int32) (t_minute : Int32) (t_paid : Int32) (t_leader : Int32) (t_undoable : Int32) (i0_corner : Int32) (i0_minute : Int32) (i0_paid : Int32) (i0_leader : Int32) (i0_undoable : Int32) (i1_corner : Int32) (i1_minute : Int32) (i1_paid : Int32) (i1_leader : Int32) (i1_undoable : Int32) (v_kept : Nat → Int32) (t_corners : Nat → Int32) (t_minutes : Nat → Int32) (t_paids : Nat → Int32) (t_leaders : Nat → Int32) (i0_corners : Nat → Int32) (i0_minutes : Nat → Int32) (i0_paids : Nat → Int32) (i0_leaders : Nat → Int32) (i1_corners : Nat → Int32) (i1_minutes : Nat → Int32) (i1_paids : Nat → Int32) (i1_leaders : Nat → Int32) (x1 : Int32) (res : R_X6_keep) (hf : f_X6_keep v_kept t_corner t_minute t_paid t_leader t_undoable t_corners t_minutes t_paids t_leaders i0_corner i0_minute i0_paid i0_leader i0_undoable i0_corners i0_minutes i0_paids i0_leaders i1_corner i1_minute i1_paid i1_leader i1_undoable i1_corners i1_minutes i1_paids i1_leaders x1 = some res) : Met l yX6_keep wsX6_keep rm_X6_keep (cPre D (tyz cI cZ cT) [.ref (q 0), .int x1] sz [oX6 q (qr 0) (qm 0) (qs 0) (qt 0) (qro 0) (qto 0) (qw 0) v_asked, rI (q 5) cT (qi0 0) (qi1 0), rA (q 6) cZ 2 v_kept, oX1 qt t_corner t_minute t_paid t_leader t_undoable, rA (qt 6) cI 10 t_corners, rA (qt 7) cI 10 t_minutes, rA (qt 8) cI 10 t_paids, rA (qt 9) cI 10 t_leaders, oX1 qi0 i0_corner i0_minute i0_paid i0_leader i0_undoable, rA (qi0 6) cI 10 i0_corners, rA (qi0 7) cI 10 i0_minutes, rA (qi0 8) cI 10 i0_paids, rA (qi0 9) cI 10 i0_leaders, oX1 qi1 i1_corner i1_minute i1_paid i1_leader i1_undoable, rA (qi1 6) cI 10 i1_corners, rA (qi1 7) cI 10 i1_minutes, rA (qi1 8) cI 10 i1_paids, rA (qi1 9) cI 10 i1_leaders]) (cPi D (tyz cI cZ cT) (fun (r : Int32) (u : (Nat → Int32) × Int32 × Int32 × Int32 × Int32 × Int32 × (Nat → Int32) × (Nat → Int32) × (Nat → Int32) × (Nat → Int32) × Int32 × Int32 × Int32 × Int32 × Int32 × (Nat → Int32) × (Nat → Int32) × (Nat → Int32) × (Nat → Int32)) => (r, u) = res) (fun u => [oX6 q (qr 0) (qm 0) (qs 0) (qt 0) (qro 0) (qto 0) (qw 0) v_asked, rI (q 5) cT (qi0 0) (qi1 0), rA (q 6) cZ 2 u.1, oX1 qt t_corner t_minute t_paid t_leader t_undoable, rA (qt 6) cI 10 t_corners, rA (qt 7) cI 10 t_minutes, rA (qt 8) cI 10 t_paids, rA (qt 9) cI 10 t_leaders, oX1 qi0 u.2.1 u.2.2.1 u.2.2.2.1 u.2.2.2.2.1 u.2.2.2.2.2.1, rA (qi0 6) cI 10 u.2.2.2.2.2.2.1, rA (qi0 7) cI 10 u.2.2.2.2.2.2.2.1, rA (qi0 8) cI 10 u.2.2.2.2.2.2.2.2.1, rA (qi0 9) cI 10 u.2.2.2.2.2.2.2.2.2.1, oX1 qi1 u.2.2.2.2.2.2.2.2.2.2.1 u.2.2.2.2.2.2.2.2.2.2.2.1 u.2.2.2.2.2.2.2.2.2.2.2.2.1 u.2.2.2.2.2.2.2.2.2.2.2.2.2.1 u.2.2.2.2.2.2.2.2.2.2.2.2.2.2.1, rA (qi1 6) cI 10 u.2.2.2.2.2.2.2.2.2.2.2.2.2.2.2.1, rA (qi1 7) cI 10 u.2.2.2.2.2.2.2.2.2.2.2.2.2.2.2.2.1, rA (qi1 8) cI 10 u.2.2.2.2.2.2.2.2.2.2.2.2.2.2.2.2.2.1, rA (qi1 9) cI 10 u.2.2.2.2.2.2.2.2.2.2.2.2.2.2.2.2.2.2]) [oX6 q (qr 0) (qm 0) (qs 0) (qt 0) (qro 0) (qto 0) (qw 0) v_asked, rI (q 5) cT (qi0 0) (qi1 0), rA (q 6) cZ 2 v_kept, oX1 qt t_corner t_minute t_paid t_leader t_undoable, rA (qt 6) cI 10 t_corners, rA (qt 7) cI 10 t_minutes, rA (qt 8) cI 10 t_paids, rA (qt 9) cI 10 t_leaders, oX1 qi0 i0_corner i0_minute i0_paid i0_leader i0_undoable, rA (qi0 6) cI 10 i0_corners, rA (qi0 7) cI 10 i0_minutes, rA (qi0 8) cI 10 i0_paids, rA (qi0 9) cI 10 i0_leaders, oX1 qi1 i1_corner i1_minute i1_paid i1_leader i1_undoable, rA (qi1 6) cI 10 i1_corners, rA (qi1 7) cI 10 i1_minutes, rA (qi1 8) cI 10 i1_paids, rA (qi1 9) cI 10 i1_leaders] sz) 0 0 (va_A [oX6 q (qr 0) (qm 0) (qs 0) (qt 0) (qro 0) (qto 0) (qw 0) v_asked, rI (q 5) cT (qi0 0) (qi1 0), rA (q 6) cZ 2 v_kept, oX1 qt t_corner t_minute t_paid t_leader t_undoable, rA (qt 6) cI 10 t_corners, rA (qt 7) cI 10 t_minutes, rA (qt 8) cI 10 t_paids, rA (qt 9) cI 10 t_leaders, oX1 qi0 i0_corner i0_minute i0_paid i0_leader i0_undoable, rA (qi0 6) cI 10 i0_corners, rA (qi0 7) cI 10 i0_minutes, rA (qi0 8) cI 10 i0_paids, rA (qi0 9) cI 10 i0_leaders, oX1 qi1 i1_corner i1_minute i1_paid i1_leader i1_undoable, rA (qi1 6) cI 10 i1_corners, rA (qi1 7) cI 10 i1_minutes, rA (qi1 8) cI 10 i1_paids, rA (qi1 9) cI 10 i1_leaders] sz) := by
  refine vx_meth_i (by decide) rfl (Nat.le_of_ble_eq_true rfl) ?_
  intro p e s m args below meth c A Q hx hb hml hown hts hK hP hD hA hS hret ls hl
  have hown : s.vm.findClass RX6 = some m.cls := hown
  have hl : lv_has ls 2 [(0, .ref (q 0)), (1, .int x1)] := hl
  have hFx : CallFix p m c cX6_keep 2 s args wsX6_keep RX6 := ⟨hx, hb, hml, hown, hts⟩
  have lk33 := hts (.fieldLink RX6 33 "FogGuides" "images" "[LFogGuides$Tale;") (by decide +kernel)
  have iw6 : ∀ w ∈ u_ws RX6 TX6 10, w ∈ wsX6_keep := by decide +kernel
  have lk29 := hts (.fieldLink RX6 29 "FogGuides" "tale" "LFogGuides$Tale;") (by decide +kernel)
  have lk37 := hts (.fieldLink RX6 37 "FogGuides" "kept" "[Z") (by decide +kernel)
  have lk140 := hts (.fieldLink RX6 140 "FogGuides$Tale" "minute" "I") (by decide +kernel)
  have iw1 : ∀ w ∈ u_ws RX1 TX1 9, w ∈ wsX6_keep := by decide +kernel
  have h := hf
  unfold f_X6_keep at h
  obtain ⟨H, eH⟩ : ∃ H, H = s.heap := ⟨_, rfl⟩
  rw [← eH] at hP ⊢
  obtain ⟨locs, el⟩ : ∃ locs : List Loc, locs = [] := ⟨_, rfl⟩
  rw [← el] at hS ⊢
  have hS : va_S A s.heap H locs := by rw [eH]; exact hS
  refine lv_iload_n hx hb dX6_keep_0 rfl (lv_at hl 1 rfl) ?_
  refine lv_if_lt (tgt := 9) hx hb dX6_keep_1 (by decide) (fun c1 => ?_) (fun c1 => ?_)
  · have h := (if_pos c1).symm.trans h
    refine lv_iconst (v := (-1)) hx hb dX6_keep_9 (by decide) ?_
    exact hret (-1 : Int32) (v_kept, i0_corner, i0_minute, i0_paid, i0_leader, i0_undoable, i0_corners, i0_minutes, i0_paids, i0_leaders, i1_corner, i1_minute, i1_paid, i1_leader, i1_undoable, i1_corners, i1_minutes, i1_paids, i1_leaders) H locs _ ls (Option.some.inj h) hP hD hS dX6_keep_10
  · have h := (if_neg c1).symm.trans h
    refine lv_iload_n hx hb dX6_keep_4 rfl (lv_at hl 1 rfl) ?_
    refine lv_iconst (v := 2) hx hb dX6_keep_5 (by decide) ?_
    refine lv_icmp_lt (tgt := 11) hx hb dX6_keep_6 (by decide) (fun c2 => ?_) (fun c2 => ?_)
    · have h := (if_pos c2).symm.trans h
      refine lv_aload_n hx hb dX6_keep_11 rfl (lv_at hl 0 rfl) ?_
      refine va_get (C := RX6) (T := TX6) (N := 10) (v := .ref (q 5)) hx hb hts iw6 hown hK hP 0 rfl rfl 4 (Nat.le_of_ble_eq_true rfl) lk33 (fun _ h9 => h9) rfl dX6_keep_12 ?_
      refine lv_iload_n hx hb dX6_keep_15 rfl (lv_at hl 1 rfl) ?_
      obtain ⟨hi7, h⟩ := xb_some h
      refine va_aldq hx hb hK hP 1 2 rfl rfl hi7 dX6_keep_16 ?_
      by_cases c7 : x1 = (0 : Int32)
      · refine W.eq (g2 := F0 m 17 ls (.ref (qi0 0) :: [])) (by rw [im_0 c7]) ?_
        have h := (if_pos c7).symm.trans h
        refine lv_aload_n hx hb dX6_keep_17 rfl (lv_at hl 0 rfl) ?_
        refine va_get (C := RX6) (T := TX6) (N := 10) (v := .ref (qt 0)) hx hb hts iw6 hown hK hP 0 rfl rfl 3 (Nat.le_of_ble_eq_true rfl) lk29 (fun _ h9 => h9) rfl dX6_keep_18 ?_
        obtain ⟨r3, hr3, h⟩ := xk_some h
        refine vx_VV (As := [.ref (qt 0)]) (rest := []) (wr := [oX6 q (qr 0) (qm 0) (qs 0) (qt 0) (qro 0) (qto 0) (qw 0) v_asked, rI (q 5) cT (qi0 0) (qi1 0), rA (q 6) cZ 2 v_kept, oX1 qi1 i1_corner i1_minute i1_paid i1_leader i1_undoable, rA (qi1 6) cI 10 i1_corners, rA (qi1 7) cI 10 i1_minutes, rA (qi1 8) cI 10 i1_paids, rA (qi1 9) cI 10 i1_leaders]) (wn := [oX6 q (qr 0) (qm 0) (qs 0) (qt 0) (qro 0) (qto 0) (qw 0) v_asked, rI (q 5) cT (qi0 0) (qi1 0), rA (q 6) cZ 2 v_kept, oX1 qt t_corner t_minute t_paid t_leader t_undoable, rA (qt 6) cI 10 t_corners, rA (qt 7) cI 10 t_minutes, rA (qt 8) cI 10 t_paids, rA (qt 9) cI 10 t_leaders, oX1 qi0 r3.1 r3.2.1 r3.2.2.1 r3.2.2.2.1 r3.2.2.2.2.1, rA (qi0 6) cI 10 r3.2.2.2.2.2.1, rA (qi0 7) cI 10 r3.2.2.2.2.2.2.1, rA (qi0 8) cI 10 r3.2.2.2.2.2.2.2.1, rA (qi0 9) cI 10 r3.2.2.2.2.2.2.2.2, oX1 qi1 i1_corner i1_minute i1_paid i1_leader i1_undoable, rA (qi1 6) cI 10 i1_corners, rA (qi1 7) cI 10 i1_minutes, rA (qi1 8) cI 10 i1_paids, rA (qi1 9) cI 10 i1_leaders]) hFx (k_X1_become l D cI cZ cT qi0 qt H.size i0_corner i0_minute i0_paid i0_leader i0_undoable t_corner t_minute t_paid t_leader t_undoable i0_corners i0_minutes i0_paids i0_leaders t_corners t_minutes t_paids t_leaders r3 hr3) (cwV 1 hts gX6_keep_X1_become rfl rfl rfl (by decide +kernel) ⟨Nat.le_of_ble_eq_true rfl, Nat.le_of_ble_eq_true rfl⟩) hK hP hD hS hA [8, 9, 10, 11, 12, 3, 4, 5, 6, 7] [0, 1, 2, 13, 14, 15, 16, 17] [0, 1, 2, 13, 14, 15, 16, 17, 8, 9, 10, 11, 12, 3, 4, 5, 6, 7] rfl rfl rfl rfl (by decide) rfl rfl 1 0 rfl rfl rfl hl.1 rfl (Nat.le_of_ble_eq_true rfl) dX6_keep_21 ⟨Nat.zero_le _, Nat.zero_le _⟩ (fun H locs hP hD hS => ?_)
        refine lv_aload_n hx hb dX6_keep_24 rfl (lv_at hl 0 rfl) ?_
        refine va_get (C := RX6) (T := TX6) (N := 10) (v := .ref (q 6)) hx hb hts iw6 hown hK hP 0 rfl rfl 5 (Nat.le_of_ble_eq_true rfl) lk37 (fun _ h9 => h9) rfl dX6_keep_25 ?_
        refine lv_iload_n hx hb dX6_keep_28 rfl (lv_at hl 1 rfl) ?_
        refine lv_iconst (v := 1) hx hb dX6_keep_29 (by decide) ?_
        obtain ⟨hi4, h⟩ := xb_some h
        refine va_zast hx hb hK hP hD hS 2 1 rfl rfl hi4 dX6_keep_30 (fun H locs hP hD hS => ?_)
        have hP : va_P D vwCl [oX6 q (qr 0) (qm 0) (qs 0) (qt 0) (qro 0) (qto 0) (qw 0) v_asked, rI (q 5) cT (qi0 0) (qi1 0), rA (q 6) cZ 2 (upd v_kept x1.toNatClampNeg (vp_nar .boolean (1 : Int32))), oX1 qt t_corner t_minute t_paid t_leader t_undoable, rA (qt 6) cI 10 t_corners, rA (qt 7) cI 10 t_minutes, rA (qt 8) cI 10 t_paids, rA (qt 9) cI 10 t_leaders, oX1 qi0 r3.1 r3.2.1 r3.2.2.1 r3.2.2.2.1 r3.2.2.2.2.1, rA (qi0 6) cI 10 r3.2.2.2.2.2.1, rA (qi0 7) cI 10 r3.2.2.2.2.2.2.1, rA (qi0 8) cI 10 r3.2.2.2.2.2.2.2.1, rA (qi0 9) cI 10 r3.2.2.2.2.2.2.2.2, oX1 qi1 i1_corner i1_minute i1_paid i1_leader i1_undoable, rA (qi1 6) cI 10 i1_corners, rA (qi1 7) cI 10 i1_minutes, rA (qi1 8) cI 10 i1_paids, rA (qi1 9) cI 10 i1_leaders] H := hP
        have hD : va_D A [oX6 q (qr 0) (qm 0) (qs 0) (qt 0) (qro 0) (qto 0) (qw 0) v_asked, rI (q 5) cT (qi0 0) (qi1 0), rA (q 6) cZ 2 (upd v_kept x1.toNatClampNeg (vp_nar .boolean (1 : Int32))), oX1 qt t_corner t_minute t_paid t_leader t_undoable, rA (qt 6) cI 10 t_corners, rA (qt 7) cI 10 t_minutes, rA (qt 8) cI 10 t_paids, rA (qt 9) cI 10 t_leaders, oX1 qi0 r3.1 r3.2.1 r3.2.2.1 r3.2.2.2.1 r3.2.2.2.2.1, rA (qi0 6) cI 10 r3.2.2.2.2.2.1, rA (qi0 7) cI 10 r3.2.2.2.2.2.2.1, rA (qi0 8) cI 10 r3.2.2.2.2.2.2.2.1, rA (qi0 9) cI 10 r3.2.2.2.2.2.2.2.2, oX1 qi1 i1_corner i1_minute i1_paid i1_leader i1_undoable, rA (qi1 6) cI 10 i1_corners, rA (qi1 7) cI 10 i1_minutes, rA (qi1 8) cI 10 i1_paids, rA (qi1 9) cI 10 i1_leaders] := hD
        refine lv_aload_n hx hb dX6_keep_31 rfl (lv_at hl 0 rfl) ?_
        refine va_get (C := RX6) (T := TX6) (N := 10) (v := .ref (qt 0)) hx hb hts iw6 hown hK hP 0 rfl rfl 3 (Nat.le_of_ble_eq_true rfl) lk29 (fun _ h9 => h9) rfl dX6_keep_32 ?_
        refine va_get (C := RX1) (T := TX1) (N := 9) (v := .int t_minute) hx hb hts iw1 hown hK hP 3 rfl rfl 1 (Nat.le_of_ble_eq_true rfl) lk140 (fun _ h9 => h9) rfl dX6_keep_35 ?_
        exact hret t_minute ((upd v_kept x1.toNatClampNeg (vp_nar .boolean (1 : Int32)), r3.1, r3.2.1, r3.2.2.1, r3.2.2.2.1, r3.2.2.2.2.1, r3.2.2.2.2.2.1, r3.2.2.2.2.2.2.1, r3.2.2.2.2.2.2.2.1, r3.2.2.2.2.2.2.2.2, i1_corner, i1_minute, i1_paid, i1_leader, i1_undoable, i1_corners, i1_minutes, i1_paids, i1_leaders)) H locs _ ls (Option.some.inj h) hP hD hS dX6_keep_38
      · refine W.eq (g2 := F0 m 17 ls (.ref (qi1 0) :: [])) (by rw [im_1 hi7 c7]) ?_
        have h := (if_neg c7).symm.trans h
        refine lv_aload_n hx hb dX6_keep_17 rfl (lv_at hl 0 rfl) ?_
        refine va_get (C := RX6) (T := TX6) (N := 10) (v := .ref (qt 0)) hx hb hts iw6 hown hK hP 0 rfl rfl 3 (Nat.le_of_ble_eq_true rfl) lk29 (fun _ h9 => h9) rfl dX6_keep_18 ?_
        obtain ⟨r5, hr5, h⟩ := xk_some h
        refine vx_VV (As := [.ref (qt 0)]) (rest := []) (wr := [oX6 q (qr 0) (qm 0) (qs 0) (qt 0) (qro 0) (qto 0) (qw 0) v_asked, rI (q 5) cT (qi0 0) (qi1 0), rA (q 6) cZ 2 v_kept, oX1 qi0 i0_corner i0_minute i0_paid i0_leader i0_undoable, rA (qi0 6) cI 10 i0_corners, rA (qi0 7) cI 10 i0_minutes, rA (qi0 8) cI 10 i0_paids, rA (qi0 9) cI 10 i0_leaders]) (wn := [oX6 q (qr 0) (qm 0) (qs 0) (qt 0) (qro 0) (qto 0) (qw 0) v_asked, rI (q 5) cT (qi0 0) (qi1 0), rA (q 6) cZ 2 v_kept, oX1 qt t_corner t_minute t_paid t_leader t_undoable, rA (qt 6) cI 10 t_corners, rA (qt 7) cI 10 t_minutes, rA (qt 8) cI 10 t_paids, rA (qt 9) cI 10 t_leaders, oX1 qi0 i0_corner i0_minute i0_paid i0_leader i0_undoable, rA (qi0 6) cI 10 i0_corners, rA (qi0 7) cI 10 i0_minutes, rA (qi0 8) cI 10 i0_paids, rA (qi0 9) cI 10 i0_leaders, oX1 qi1 r5.1 r5.2.1 r5.2.2.1 r5.2.2.2.1 r5.2.2.2.2.1, rA (qi1 6) cI 10 r5.2.2.2.2.2.1, rA (qi1 7) cI 10 r5.2.2.2.2.2.2.1, rA (qi1 8) cI 10 r5.2.2.2.2.2.2.2.1, rA (qi1 9) cI 10 r5.2.2.2.2.2.2.2.2]) hFx (k_X1_become l D cI cZ cT qi1 qt H.size i1_corner i1_minute i1_paid i1_leader i1_undoable t_corner t_minute t_paid t_leader t_undoable i1_corners i1_minutes i1_paids i1_leaders t_corners t_minutes t_paids t_leaders r5 hr5) (cwV 1 hts gX6_keep_X1_become rfl rfl rfl (by decide +kernel) ⟨Nat.le_of_ble_eq_true rfl, Nat.le_of_ble_eq_true rfl⟩) hK hP hD hS hA [13, 14, 15, 16, 17, 3, 4, 5, 6, 7] [0, 1, 2, 8, 9, 10, 11, 12] [0, 1, 2, 13, 14, 15, 16, 17, 3, 4, 5, 6, 7, 8, 9, 10, 11, 12] rfl rfl rfl rfl (by decide) rfl rfl 1 0 rfl rfl rfl hl.1 rfl (Nat.le_of_ble_eq_true rfl) dX6_keep_21 ⟨Nat.zero_le _, Nat.zero_le _⟩ (fun H locs hP hD hS => ?_)
        refine lv_aload_n hx hb dX6_keep_24 rfl (lv_at hl 0 rfl) ?_
        refine va_get (C := RX6) (T := TX6) (N := 10) (v := .ref (q 6)) hx hb hts iw6 hown hK hP 0 rfl rfl 5 (Nat.le_of_ble_eq_true rfl) lk37 (fun _ h9 => h9) rfl dX6_keep_25 ?_
        refine lv_iload_n hx hb dX6_keep_28 rfl (lv_at hl 1 rfl) ?_
        refine lv_iconst (v := 1) hx hb dX6_keep_29 (by decide) ?_
        obtain ⟨hi6, h⟩ := xb_some h
        refine va_zast hx hb hK hP hD hS 2 1 rfl rfl hi6 dX6_keep_30 (fun H locs hP hD hS => ?_)
        have hP : va_P D vwCl [oX6 q (qr 0) (qm 0) (qs 0) (qt 0) (qro 0) (qto 0) (qw 0) v_asked, rI (q 5) cT (qi0 0) (qi1 0), rA (q 6) cZ 2 (upd v_kept x1.toNatClampNeg (vp_nar .boolean (1 : Int32))), oX1 qt t_corner t_minute t_paid t_leader t_undoable, rA (qt 6) cI 10 t_corners, rA (qt 7) cI 10 t_minutes, rA (qt 8) cI 10 t_paids, rA (qt 9) cI 10 t_leaders, oX1 qi0 i0_corner i0_minute i0_paid i0_leader i0_undoable, rA (qi0 6) cI 10 i0_corners, rA (qi0 7) cI 10 i0_minutes, rA (qi0 8) cI 10 i0_paids, rA (qi0 9) cI 10 i0_leaders, oX1 qi1 r5.1 r5.2.1 r5.2.2.1 r5.2.2.2.1 r5.2.2.2.2.1, rA (qi1 6) cI 10 r5.2.2.2.2.2.1, rA (qi1 7) cI 10 r5.2.2.2.2.2.2.1, rA (qi1 8) cI 10 r5.2.2.2.2.2.2.2.1, rA (qi1 9) cI 10 r5.2.2.2.2.2.2.2.2] H := hP
        have hD : va_D A [oX6 q (qr 0) (qm 0) (qs 0) (qt 0) (qro 0) (qto 0) (qw 0) v_asked, rI (q 5) cT (qi0 0) (qi1 0), rA (q 6) cZ 2 (upd v_kept x1.toNatClampNeg (vp_nar .boolean (1 : Int32))), oX1 qt t_corner t_minute t_paid t_leader t_undoable, rA (qt 6) cI 10 t_corners, rA (qt 7) cI 10 t_minutes, rA (qt 8) cI 10 t_paids, rA (qt 9) cI 10 t_leaders, oX1 qi0 i0_corner i0_minute i0_paid i0_leader i0_undoable, rA (qi0 6) cI 10 i0_corners, rA (qi0 7) cI 10 i0_minutes, rA (qi0 8) cI 10 i0_paids, rA (qi0 9) cI 10 i0_leaders, oX1 qi1 r5.1 r5.2.1 r5.2.2.1 r5.2.2.2.1 r5.2.2.2.2.1, rA (qi1 6) cI 10 r5.2.2.2.2.2.1, rA (qi1 7) cI 10 r5.2.2.2.2.2.2.1, rA (qi1 8) cI 10 r5.2.2.2.2.2.2.2.1, rA (qi1 9) cI 10 r5.2.2.2.2.2.2.2.2] := hD
        refine lv_aload_n hx hb dX6_keep_31 rfl (lv_at hl 0 rfl) ?_
        refine va_get (C := RX6) (T := TX6) (N := 10) (v := .ref (qt 0)) hx hb hts iw6 hown hK hP 0 rfl rfl 3 (Nat.le_of_ble_eq_true rfl) lk29 (fun _ h9 => h9) rfl dX6_keep_32 ?_
        refine va_get (C := RX1) (T := TX1) (N := 9) (v := .int t_minute) hx hb hts iw1 hown hK hP 3 rfl rfl 1 (Nat.le_of_ble_eq_true rfl) lk140 (fun _ h9 => h9) rfl dX6_keep_35 ?_
        exact hret t_minute ((upd v_kept x1.toNatClampNeg (vp_nar .boolean (1 : Int32)), i0_corner, i0_minute, i0_paid, i0_leader, i0_undoable, i0_corners, i0_minutes, i0_paids, i0_leaders, r5.1, r5.2.1, r5.2.2.1, r5.2.2.2.1, r5.2.2.2.2.1, r5.2.2.2.2.2.1, r5.2.2.2.2.2.2.1, r5.2.2.2.2.2.2.2.1, r5.2.2.2.2.2.2.2.2)) H locs _ ls (Option.some.inj h) hP hD hS dX6_keep_38
    · have h := (if_neg c2).symm.trans h
      refine lv_iconst (v := (-1)) hx hb dX6_keep_9 (by decide) ?_
      exact hret (-1 : Int32) (v_kept, i0_corner, i0_minute, i0_paid, i0_leader, i0_undoable, i0_corners, i0_minutes, i0_paids, i0_leaders, i1_corner, i1_minute, i1_paid, i1_leader, i1_undoable, i1_corners, i1_minutes, i1_paids, i1_leaders) H locs _ ls (Option.some.inj h) hP hD hS dX6_keep_10
abbrev rm_X6_back : Room := { frames := 2, cells := 0, slots := 0, locals := 85 }
set_option maxHeartbeats 4000000 in
set_option maxRecDepth 100000 in
theorem k_X6_back (l : Launch) (D : va_G) (cI cZ cT : ClassId) (q : Nat → Nat) (qr : Nat → Nat) (qm : Nat → Nat) (qs : Nat → Nat) (qt : Nat → Nat) (qro : Nat → Nat) (qto : Nat → Nat) (qw : Nat → Nat) (qi0 : Nat → Nat) (qi1 : Nat → Nat) (sz : Nat) (v_asked : Int64) (t_corner : Int32) (t_minute : Int32) (t_paid : Int32) (t_leader : Int32) (t_undoable : Int32) (i0_corner : Int32) (i0_minute : Int32) (i0_paid : Int32) (i0_leader : Int32) (i0_undoable : Int32) (i1_corner : Int32) (i1_minute : Int32) (i1_paid : Int32) (i1_leader : Int32) (i1_undoable : Int32) (v_kept : Nat → Int32) (t_corners : Nat → Int32) (t_minutes : Nat → Int32) (t_paids : Nat → Int32) (t_leaders : Nat → Int32) (i0_corners : Nat → Int32) (i0_minutes : Nat → Int32) (i0_paids : Nat → Int32) (i0_leaders : Nat → Int32) (i1_corners : Nat → Int32) (i1_minutes : Nat → Int32) (i1_paids : Nat → Int32) (i1_leaders : Nat → Int32) (x1 : Int32) (res : R_X6_back) (hf : f_X6_back v_kept t_corner t_minute t_paid t_leader t_undoable t_corners t_minutes t_paids t_leaders i0_corner i0_minute i0_paid i0_leader i0_undoable i0_corners i0_minutes i0_paids i0_leaders i1_corner i1_minute i1_paid i1_leader i1_undoable i1_corners i1_minutes i1_paids i1_leaders x1 = some res) : Met l yX6_back wsX6_back rm_X6_back (cPre D (tyz cI cZ cT) [.ref (q 0), .int x1] sz [oX6 q (qr 0) (qm 0) (qs 0) (qt 0) (qro 0) (qto 0) (qw 0) v_asked, rI (q 5) cT (qi0 0) (qi1 0), rA (q 6) cZ 2 v_kept, oX1 qt t_corner t_minute t_paid t_leader t_undoable, rA (qt 6) cI 10 t_corners, rA (qt 7) cI 10 t_minutes, rA (qt 8) cI 10 t_paids, rA (qt 9) cI 10 t_leaders, oX1 qi0 i0_corner i0_minute i0_paid i0_leader i0_undoable, rA (qi0 6) cI 10 i0_corners, rA (qi0 7) cI 10 i0_minutes, rA (qi0 8) cI 10 i0_paids, rA (qi0 9) cI 10 i0_leaders, oX1 qi1 i1_corner i1_minute i1_paid i1_leader i1_undoable, rA (qi1 6) cI 10 i1_corners, rA (qi1 7) cI 10 i1_minutes, rA (qi1 8) cI 10 i1_paids, rA (qi1 9) cI 10 i1_leaders]) (cPi D (tyz cI cZ cT) (fun (r : Int32) (u : Int32 × Int32 × Int32 × Int32 × Int32 × (Nat → Int32) × (Nat → Int32) × (Nat → Int32) × (Nat → Int32)) => (r, u) = res) (fun u => [oX6 q (qr 0) (qm 0) (qs 0) (qt 0) (qro 0) (qto 0) (qw 0) v_asked, rI (q 5) cT (qi0 0) (qi1 0), rA (q 6) cZ 2 v_kept, oX1 qt u.1 u.2.1 u.2.2.1 u.2.2.2.1 u.2.2.2.2.1, rA (qt 6) cI 10 u.2.2.2.2.2.1, rA (qt 7) cI 10 u.2.2.2.2.2.2.1, rA (qt 8) cI 10 u.2.2.2.2.2.2.2.1, rA (qt 9) cI 10 u.2.2.2.2.2.2.2.2, oX1 qi0 i0_corner i0_minute i0_paid i0_leader i0_undoable, rA (qi0 6) cI 10 i0_corners, rA (qi0 7) cI 10 i0_minutes, rA (qi0 8) cI 10 i0_paids, rA (qi0 9) cI 10 i0_leaders, oX1 qi1 i1_corner i1_minute i1_paid i1_leader i1_undoable, rA (qi1 6) cI 10 i1_corners, rA (qi1 7) cI 10 i1_minutes, rA (qi1 8) cI 10 i1_paids, rA (qi1 9) cI 10 i1_leaders]) [oX6 q (qr 0) (qm 0) (qs 0) (qt 0) (qro 0) (qto 0) (qw 0) v_asked, rI (q 5) cT (qi0 0) (qi1 0), rA (q 6) cZ 2 v_kept, oX1 qt t_corner t_minute t_paid t_leader t_undoable, rA (qt 6) cI 10 t_corners, rA (qt 7) cI 10 t_minutes, rA (qt 8) cI 10 t_paids, rA (qt 9) cI 10 t_leaders, oX1 qi0 i0_corner i0_minute i0_paid i0_leader i0_undoable, rA (qi0 6) cI 10 i0_corners, rA (qi0 7) cI 10 i0_minutes, rA (qi0 8) cI 10 i0_paids, rA (qi0 9) cI 10 i0_leaders, oX1 qi1 i1_corner i1_minute i1_paid i1_leader i1_undoable, rA (qi1 6) cI 10 i1_corners, rA (qi1 7) cI 10 i1_minutes, rA (qi1 8) cI 10 i1_paids, rA (qi1 9) cI 10 i1_leaders] sz) 0 0 (va_A [oX6 q (qr 0) (qm 0) (qs 0) (qt 0) (qro 0) (qto 0) (qw 0) v_asked, rI (q 5) cT (qi0 0) (qi1 0), rA (q 6) cZ 2 v_kept, oX1 qt t_corner t_minute t_paid t_leader t_undoable, rA (qt 6) cI 10 t_corners, rA (qt 7) cI 10 t_minutes, rA (qt 8) cI 10 t_paids, rA (qt 9) cI 10 t_leaders, oX1 qi0 i0_corner i0_minute i0_paid i0_leader i0_undoable, rA (qi0 6) cI 10 i0_corners, rA (qi0 7) cI 10 i0_minutes, rA (qi0 8) cI 10 i0_paids, rA (qi0 9) cI 10 i0_leaders, oX1 qi1 i1_corner i1_minute i1_paid i1_leader i1_undoable, rA (qi1 6) cI 10 i1_corners, rA (qi1 7) cI 10 i1_minutes, rA (qi1 8) cI 10 i1_paids, rA (qi1 9) cI 10 i1_leaders] sz) := by
  refine vx_meth_i (by decide) rfl (Nat.le_of_ble_eq_true rfl) ?_
  intro p e s m args below meth c A Q hx hb hml hown hts hK hP hD hA hS hret ls hl
  have hown : s.vm.findClass RX6 = some m.cls := hown
  have hl : lv_has ls 2 [(0, .ref (q 0)), (1, .int x1)] := hl
  have hFx : CallFix p m c cX6_back 2 s args wsX6_back RX6 := ⟨hx, hb, hml, hown, hts⟩
  have lk37 := hts (.fieldLink RX6 37 "FogGuides" "kept" "[Z") (by decide +kernel)
  have iw6 : ∀ w ∈ u_ws RX6 TX6 10, w ∈ wsX6_back := by decide +kernel
  have lk29 := hts (.fieldLink RX6 29 "FogGuides" "tale" "LFogGuides$Tale;") (by decide +kernel)
  have lk33 := hts (.fieldLink RX6 33 "FogGuides" "images" "[LFogGuides$Tale;") (by decide +kernel)
  have lk140 := hts (.fieldLink RX6 140 "FogGuides$Tale" "minute" "I") (by decide +kernel)
  have iw1 : ∀ w ∈ u_ws RX1 TX1 9, w ∈ wsX6_back := by decide +kernel
  have h := hf
  unfold f_X6_back at h
  obtain ⟨H, eH⟩ : ∃ H, H = s.heap := ⟨_, rfl⟩
  rw [← eH] at hP ⊢
  obtain ⟨locs, el⟩ : ∃ locs : List Loc, locs = [] := ⟨_, rfl⟩
  rw [← el] at hS ⊢
  have hS : va_S A s.heap H locs := by rw [eH]; exact hS
  refine lv_iload_n hx hb dX6_back_0 rfl (lv_at hl 1 rfl) ?_
  refine lv_if_lt (tgt := 9) hx hb dX6_back_1 (by decide) (fun c1 => ?_) (fun c1 => ?_)
  · have h := (if_pos c1).symm.trans h
    refine lv_iconst (v := (-1)) hx hb dX6_back_9 (by decide) ?_
    exact hret (-1 : Int32) (t_corner, t_minute, t_paid, t_leader, t_undoable, t_corners, t_minutes, t_paids, t_leaders) H locs _ ls (Option.some.inj h) hP hD hS dX6_back_10
  · have h := (if_neg c1).symm.trans h
    refine lv_iload_n hx hb dX6_back_4 rfl (lv_at hl 1 rfl) ?_
    refine lv_iconst (v := 2) hx hb dX6_back_5 (by decide) ?_
    refine lv_icmp_lt (tgt := 11) hx hb dX6_back_6 (by decide) (fun c2 => ?_) (fun c2 => ?_)
    · have h := (if_pos c2).symm.trans h
      refine lv_aload_n hx hb dX6_back_11 rfl (lv_at hl 0 rfl) ?_
      refine va_get (C := RX6) (T := TX6) (N := 10) (v := .ref (q 6)) hx hb hts iw6 hown hK hP 0 rfl rfl 5 (Nat.le_of_ble_eq_true rfl) lk37 (fun _ h9 => h9) rfl dX6_back_12 ?_
      refine lv_iload_n hx hb dX6_back_15 rfl (lv_at hl 1 rfl) ?_
      obtain ⟨hi3, h⟩ := xb_some h
      refine va_zald hx hb hK hP 2 1 rfl rfl hi3 dX6_back_16 ?_
      refine lv_if_ne (tgt := 23) hx hb dX6_back_17 (by decide) (fun c4 => ?_) (fun c4 => ?_)
      · have h := (if_neg c4).symm.trans h
        refine lv_aload_n hx hb dX6_back_23 rfl (lv_at hl 0 rfl) ?_
        refine va_get (C := RX6) (T := TX6) (N := 10) (v := .ref (qt 0)) hx hb hts iw6 hown hK hP 0 rfl rfl 3 (Nat.le_of_ble_eq_true rfl) lk29 (fun _ h9 => h9) rfl dX6_back_24 ?_
        refine lv_aload_n hx hb dX6_back_27 rfl (lv_at hl 0 rfl) ?_
        refine va_get (C := RX6) (T := TX6) (N := 10) (v := .ref (q 5)) hx hb hts iw6 hown hK hP 0 rfl rfl 4 (Nat.le_of_ble_eq_true rfl) lk33 (fun _ h9 => h9) rfl dX6_back_28 ?_
        refine lv_iload_n hx hb dX6_back_31 rfl (lv_at hl 1 rfl) ?_
        obtain ⟨hi7, h⟩ := xb_some h
        refine va_aldq hx hb hK hP 1 2 rfl rfl hi7 dX6_back_32 ?_
        by_cases c7 : x1 = (0 : Int32)
        · refine W.eq (g2 := F0 m 33 ls (.ref (qi0 0) :: [.ref (qt 0)])) (by rw [im_0 c7]) ?_
          have h := (if_pos c7).symm.trans h
          obtain ⟨r5, hr5, h⟩ := xk_some h
          refine vx_VV (As := [.ref (qi0 0)]) (rest := []) (wr := [oX6 q (qr 0) (qm 0) (qs 0) (qt 0) (qro 0) (qto 0) (qw 0) v_asked, rI (q 5) cT (qi0 0) (qi1 0), rA (q 6) cZ 2 v_kept, oX1 qi1 i1_corner i1_minute i1_paid i1_leader i1_undoable, rA (qi1 6) cI 10 i1_corners, rA (qi1 7) cI 10 i1_minutes, rA (qi1 8) cI 10 i1_paids, rA (qi1 9) cI 10 i1_leaders]) (wn := [oX6 q (qr 0) (qm 0) (qs 0) (qt 0) (qro 0) (qto 0) (qw 0) v_asked, rI (q 5) cT (qi0 0) (qi1 0), rA (q 6) cZ 2 v_kept, oX1 qt r5.1 r5.2.1 r5.2.2.1 r5.2.2.2.1 r5.2.2.2.2.1, rA (qt 6) cI 10 r5.2.2.2.2.2.1, rA (qt 7) cI 10 r5.2.2.2.2.2.2.1, rA (qt 8) cI 10 r5.2.2.2.2.2.2.2.1, rA (qt 9) cI 10 r5.2.2.2.2.2.2.2.2, oX1 qi0 i0_corner i0_minute i0_paid i0_leader i0_undoable, rA (qi0 6) cI 10 i0_corners, rA (qi0 7) cI 10 i0_minutes, rA (qi0 8) cI 10 i0_paids, rA (qi0 9) cI 10 i0_leaders, oX1 qi1 i1_corner i1_minute i1_paid i1_leader i1_undoable, rA (qi1 6) cI 10 i1_corners, rA (qi1 7) cI 10 i1_minutes, rA (qi1 8) cI 10 i1_paids, rA (qi1 9) cI 10 i1_leaders]) hFx (k_X1_become l D cI cZ cT qt qi0 H.size t_corner t_minute t_paid t_leader t_undoable i0_corner i0_minute i0_paid i0_leader i0_undoable t_corners t_minutes t_paids t_leaders i0_corners i0_minutes i0_paids i0_leaders r5 hr5) (cwV 1 hts gX6_back_X1_become rfl rfl rfl (by decide +kernel) ⟨Nat.le_of_ble_eq_true rfl, Nat.le_of_ble_eq_true rfl⟩) hK hP hD hS hA [3, 4, 5, 6, 7, 8, 9, 10, 11, 12] [0, 1, 2, 13, 14, 15, 16, 17] [0, 1, 2, 8, 9, 10, 11, 12, 13, 14, 15, 16, 17, 3, 4, 5, 6, 7] rfl rfl rfl rfl (by decide) rfl rfl 1 0 rfl rfl rfl hl.1 rfl (Nat.le_of_ble_eq_true rfl) dX6_back_33 ⟨Nat.zero_le _, Nat.zero_le _⟩ (fun H locs hP hD hS => ?_)
          refine lv_aload_n hx hb dX6_back_36 rfl (lv_at hl 0 rfl) ?_
          refine va_get (C := RX6) (T := TX6) (N := 10) (v := .ref (qt 0)) hx hb hts iw6 hown hK hP 0 rfl rfl 3 (Nat.le_of_ble_eq_true rfl) lk29 (fun _ h9 => h9) rfl dX6_back_37 ?_
          refine va_get (C := RX1) (T := TX1) (N := 9) (v := .int r5.2.1) hx hb hts iw1 hown hK hP 3 rfl rfl 1 (Nat.le_of_ble_eq_true rfl) lk140 (fun _ h9 => h9) rfl dX6_back_40 ?_
          exact hret r5.2.1 (r5.1, r5.2.1, r5.2.2.1, r5.2.2.2.1, r5.2.2.2.2.1, r5.2.2.2.2.2.1, r5.2.2.2.2.2.2.1, r5.2.2.2.2.2.2.2.1, r5.2.2.2.2.2.2.2.2) H locs _ ls (Option.some.inj h) hP hD hS dX6_back_43
        · refine W.eq (g2 := F0 m 33 ls (.ref (qi1 0) :: [.ref (qt 0)])) (by rw [im_1 hi7 c7]) ?_
          have h := (if_neg c7).symm.trans h
          obtain ⟨r6, hr6, h⟩ := xk_some h
          refine vx_VV (As := [.ref (qi1 0)]) (rest := []) (wr := [oX6 q (qr 0) (qm 0) (qs 0) (qt 0) (qro 0) (qto 0) (qw 0) v_asked, rI (q 5) cT (qi0 0) (qi1 0), rA (q 6) cZ 2 v_kept, oX1 qi0 i0_corner i0_minute i0_paid i0_leader i0_undoable, rA (qi0 6) cI 10 i0_corners, rA (qi0 7) cI 10 i0_minutes, rA (qi0 8) cI 10 i0_paids, rA (qi0 9) cI 10 i0_leaders]) (wn := [oX6 q (qr 0) (qm 0) (qs 0) (qt 0) (qro 0) (qto 0) (qw 0) v_asked, rI (q 5) cT (qi0 0) (qi1 0), rA (q 6) cZ 2 v_kept, oX1 qt r6.1 r6.2.1 r6.2.2.1 r6.2.2.2.1 r6.2.2.2.2.1, rA (qt 6) cI 10 r6.2.2.2.2.2.1, rA (qt 7) cI 10 r6.2.2.2.2.2.2.1, rA (qt 8) cI 10 r6.2.2.2.2.2.2.2.1, rA (qt 9) cI 10 r6.2.2.2.2.2.2.2.2, oX1 qi0 i0_corner i0_minute i0_paid i0_leader i0_undoable, rA (qi0 6) cI 10 i0_corners, rA (qi0 7) cI 10 i0_minutes, rA (qi0 8) cI 10 i0_paids, rA (qi0 9) cI 10 i0_leaders, oX1 qi1 i1_corner i1_minute i1_paid i1_leader i1_undoable, rA (qi1 6) cI 10 i1_corners, rA (qi1 7) cI 10 i1_minutes, rA (qi1 8) cI 10 i1_paids, rA (qi1 9) cI 10 i1_leaders]) hFx (k_X1_become l D cI cZ cT qt qi1 H.size t_corner t_minute t_paid t_leader t_undoable i1_corner i1_minute i1_paid i1_leader i1_undoable t_corners t_minutes t_paids t_leaders i1_corners i1_minutes i1_paids i1_leaders r6 hr6) (cwV 1 hts gX6_back_X1_become rfl rfl rfl (by decide +kernel) ⟨Nat.le_of_ble_eq_true rfl, Nat.le_of_ble_eq_true rfl⟩) hK hP hD hS hA [3, 4, 5, 6, 7, 13, 14, 15, 16, 17] [0, 1, 2, 8, 9, 10, 11, 12] [0, 1, 2, 8, 9, 10, 11, 12, 3, 4, 5, 6, 7, 13, 14, 15, 16, 17] rfl rfl rfl rfl (by decide) rfl rfl 1 0 rfl rfl rfl hl.1 rfl (Nat.le_of_ble_eq_true rfl) dX6_back_33 ⟨Nat.zero_le _, Nat.zero_le _⟩ (fun H locs hP hD hS => ?_)
          refine lv_aload_n hx hb dX6_back_36 rfl (lv_at hl 0 rfl) ?_
          refine va_get (C := RX6) (T := TX6) (N := 10) (v := .ref (qt 0)) hx hb hts iw6 hown hK hP 0 rfl rfl 3 (Nat.le_of_ble_eq_true rfl) lk29 (fun _ h9 => h9) rfl dX6_back_37 ?_
          refine va_get (C := RX1) (T := TX1) (N := 9) (v := .int r6.2.1) hx hb hts iw1 hown hK hP 3 rfl rfl 1 (Nat.le_of_ble_eq_true rfl) lk140 (fun _ h9 => h9) rfl dX6_back_40 ?_
          exact hret r6.2.1 (r6.1, r6.2.1, r6.2.2.1, r6.2.2.2.1, r6.2.2.2.2.1, r6.2.2.2.2.2.1, r6.2.2.2.2.2.2.1, r6.2.2.2.2.2.2.2.1, r6.2.2.2.2.2.2.2.2) H locs _ ls (Option.some.inj h) hP hD hS dX6_back_43
      · have h := (if_pos c4).symm.trans h
        refine lv_bipush (v := (-2)) hx hb dX6_back_20 (by decide) ?_
        exact hret (-2 : Int32) (t_corner, t_minute, t_paid, t_leader, t_undoable, t_corners, t_minutes, t_paids, t_leaders) H locs _ ls (Option.some.inj h) hP hD hS dX6_back_22
    · have h := (if_neg c2).symm.trans h
      refine lv_iconst (v := (-1)) hx hb dX6_back_9 (by decide) ?_
      exact hret (-1 : Int32) (t_corner, t_minute, t_paid, t_leader, t_undoable, t_corners, t_minutes, t_paids, t_leaders) H locs _ ls (Option.some.inj h) hP hD hS dX6_back_10
abbrev rm_X6_count : Room := { frames := 0, cells := 0, slots := 0, locals := 0 }
set_option maxHeartbeats 4000000 in
set_option maxRecDepth 100000 in
theorem k_X6_count (l : Launch) (D : va_G) (cI cZ cT : ClassId) (q : Nat → Nat) (qr : Nat → Nat) (qm : Nat → Nat) (qs : Nat → Nat) (qt : Nat → Nat) (qro : Nat → Nat) (qto : Nat → Nat) (qw : Nat → Nat) (qi0 : Nat → Nat) (qi1 : Nat → Nat) (sz : Nat) (v_asked : Int64) (r_length : Int32) (r_place : Int32) (r_token : Int32) (r_tokenAt : Int32) (r_value : Int32) (r_fault : Int32) (m_cornerCount : Int32) (m_streetCount : Int32) (m_guideCount : Int32) (m_bellCount : Int32) (m_hand : Int32) (m_handTold : Int32) (t_corner : Int32) (t_minute : Int32) (t_paid : Int32) (t_leader : Int32) (t_undoable : Int32) (to_felt : Int32) (to_walked : Int32) (w_size : Int32) (w_bestWorth : Int32) (w_bestSet : Int32) (x1 : Int32) (res : R_X6_count) (hf : f_X6_count r_length m_cornerCount m_streetCount m_guideCount m_bellCount m_hand t_undoable to_felt to_walked w_size x1 = some res) : Met l yX6_count wsX6_count rm_X6_count (cPre D (tyz cI cZ cT) [.ref (q 0), .int x1] sz [oX6 q (qr 0) (qm 0) (qs 0) (qt 0) (qro 0) (qto 0) (qw 0) v_asked, oX2 qr r_length r_place r_token r_tokenAt r_value r_fault, oX4 qm m_cornerCount m_streetCount m_guideCount m_bellCount m_hand m_handTold, oX1 qt t_corner t_minute t_paid t_leader t_undoable, oX3 qto to_felt to_walked, oX5 qw w_size w_bestWorth w_bestSet]) (cPi D (tyz cI cZ cT) (fun (r : Int32) (_ : Unit) => r = res) (fun _ => [oX6 q (qr 0) (qm 0) (qs 0) (qt 0) (qro 0) (qto 0) (qw 0) v_asked, oX2 qr r_length r_place r_token r_tokenAt r_value r_fault, oX4 qm m_cornerCount m_streetCount m_guideCount m_bellCount m_hand m_handTold, oX1 qt t_corner t_minute t_paid t_leader t_undoable, oX3 qto to_felt to_walked, oX5 qw w_size w_bestWorth w_bestSet]) [oX6 q (qr 0) (qm 0) (qs 0) (qt 0) (qro 0) (qto 0) (qw 0) v_asked, oX2 qr r_length r_place r_token r_tokenAt r_value r_fault, oX4 qm m_cornerCount m_streetCount m_guideCount m_bellCount m_hand m_handTold, oX1 qt t_corner t_minute t_paid t_leader t_undoable, oX3 qto to_felt to_walked, oX5 qw w_size w_bestWorth w_bestSet] sz) 0 0 (va_A [oX6 q (qr 0) (qm 0) (qs 0) (qt 0) (qro 0) (qto 0) (qw 0) v_asked, oX2 qr r_length r_place r_token r_tokenAt r_value r_fault, oX4 qm m_cornerCount m_streetCount m_guideCount m_bellCount m_hand m_handTold, oX1 qt t_corner t_minute t_paid t_leader t_undoable, oX3 qto to_felt to_walked, oX5 qw w_size w_bestWorth w_bestSet] sz) := by
  refine vx_meth_i (by decide) rfl (Nat.le_of_ble_eq_true rfl) ?_
  intro p e s m args below meth c A Q hx hb hml hown hts hK hP hD hA hS hret ls hl
  have hown : s.vm.findClass RX6 = some m.cls := hown
  have hl : lv_has ls 2 [(0, .ref (q 0)), (1, .int x1)] := hl
  have hFx : CallFix p m c cX6_count 2 s args wsX6_count RX6 := ⟨hx, hb, hml, hown, hts⟩
  have lk19 := hts (.fieldLink RX6 19 "FogGuides" "map" "LFogGuides$TownMap;") (by decide +kernel)
  have iw6 : ∀ w ∈ u_ws RX6 TX6 10, w ∈ wsX6_count := by decide +kernel
  have lk163 := hts (.fieldLink RX6 163 "FogGuides$TownMap" "cornerCount" "I") (by decide +kernel)
  have iw4 : ∀ w ∈ u_ws RX4 TX4 15, w ∈ wsX6_count := by decide +kernel
  have lk191 := hts (.fieldLink RX6 191 "FogGuides$TownMap" "streetCount" "I") (by decide +kernel)
  have lk194 := hts (.fieldLink RX6 194 "FogGuides$TownMap" "guideCount" "I") (by decide +kernel)
  have lk130 := hts (.fieldLink RX6 130 "FogGuides$TownMap" "hand" "I") (by decide +kernel)
  have lk288 := hts (.fieldLink RX6 288 "FogGuides$TownMap" "bellCount" "I") (by decide +kernel)
  have lk51 := hts (.fieldLink RX6 51 "FogGuides" "touches" "LFogGuides$Touches;") (by decide +kernel)
  have lk231 := hts (.fieldLink RX6 231 "FogGuides$Touches" "felt" "I") (by decide +kernel)
  have iw3 : ∀ w ∈ u_ws RX3 TX3 6, w ∈ wsX6_count := by decide +kernel
  have lk234 := hts (.fieldLink RX6 234 "FogGuides$Touches" "walked" "I") (by decide +kernel)
  have lk58 := hts (.fieldLink RX6 58 "FogGuides" "wishList" "LFogGuides$WishList;") (by decide +kernel)
  have lk84 := hts (.fieldLink RX6 84 "FogGuides$WishList" "size" "I") (by decide +kernel)
  have iw5 : ∀ w ∈ u_ws RX5 TX5 7, w ∈ wsX6_count := by decide +kernel
  have lk29 := hts (.fieldLink RX6 29 "FogGuides" "tale" "LFogGuides$Tale;") (by decide +kernel)
  have lk160 := hts (.fieldLink RX6 160 "FogGuides$Tale" "undoable" "I") (by decide +kernel)
  have iw1 : ∀ w ∈ u_ws RX1 TX1 9, w ∈ wsX6_count := by decide +kernel
  have lk10 := hts (.fieldLink RX6 10 "FogGuides" "reader" "LFogGuides$TextReader;") (by decide +kernel)
  have lk70 := hts (.fieldLink RX6 70 "FogGuides$TextReader" "length" "I") (by decide +kernel)
  have iw2 : ∀ w ∈ u_ws RX2 TX2 7, w ∈ wsX6_count := by decide +kernel
  have h := hf
  unfold f_X6_count at h
  obtain ⟨H, eH⟩ : ∃ H, H = s.heap := ⟨_, rfl⟩
  rw [← eH] at hP ⊢
  obtain ⟨locs, el⟩ : ∃ locs : List Loc, locs = [] := ⟨_, rfl⟩
  rw [← el] at hS ⊢
  have hS : va_S A s.heap H locs := by rw [eH]; exact hS
  refine lv_iload_n hx hb dX6_count_0 rfl (lv_at hl 1 rfl) ?_
  by_cases c1 : x1 = (0 : Int32)
  · refine lv_tableIn (off := 55) (tgt := 56) hx hb dX6_count_1 (by rw [c1]; decide) (by rw [c1]; decide) (by rw [c1]; decide) (by decide) ?_
    have h := (if_pos c1).symm.trans h
    refine lv_aload_n hx hb dX6_count_56 rfl (lv_at hl 0 rfl) ?_
    refine va_get (C := RX6) (T := TX6) (N := 10) (v := .ref (qm 0)) hx hb hts iw6 hown hK hP 0 rfl rfl 1 (Nat.le_of_ble_eq_true rfl) lk19 (fun _ h9 => h9) rfl dX6_count_57 ?_
    refine va_get (C := RX4) (T := TX4) (N := 15) (v := .int m_cornerCount) hx hb hts iw4 hown hK hP 2 rfl rfl 0 (Nat.le_of_ble_eq_true rfl) lk163 (fun _ h9 => h9) rfl dX6_count_60 ?_
    exact hret m_cornerCount () H locs _ ls (Option.some.inj h) hP hD hS dX6_count_63
  have h := (if_neg c1).symm.trans h
  by_cases c2 : x1 = (1 : Int32)
  · refine lv_tableIn (off := 63) (tgt := 64) hx hb dX6_count_1 (by rw [c2]; decide) (by rw [c2]; decide) (by rw [c2]; decide) (by decide) ?_
    have h := (if_pos c2).symm.trans h
    refine lv_aload_n hx hb dX6_count_64 rfl (lv_at hl 0 rfl) ?_
    refine va_get (C := RX6) (T := TX6) (N := 10) (v := .ref (qm 0)) hx hb hts iw6 hown hK hP 0 rfl rfl 1 (Nat.le_of_ble_eq_true rfl) lk19 (fun _ h9 => h9) rfl dX6_count_65 ?_
    refine va_get (C := RX4) (T := TX4) (N := 15) (v := .int m_streetCount) hx hb hts iw4 hown hK hP 2 rfl rfl 1 (Nat.le_of_ble_eq_true rfl) lk191 (fun _ h9 => h9) rfl dX6_count_68 ?_
    exact hret m_streetCount () H locs _ ls (Option.some.inj h) hP hD hS dX6_count_71
  have h := (if_neg c2).symm.trans h
  by_cases c3 : x1 = (2 : Int32)
  · refine lv_tableIn (off := 71) (tgt := 72) hx hb dX6_count_1 (by rw [c3]; decide) (by rw [c3]; decide) (by rw [c3]; decide) (by decide) ?_
    have h := (if_pos c3).symm.trans h
    refine lv_aload_n hx hb dX6_count_72 rfl (lv_at hl 0 rfl) ?_
    refine va_get (C := RX6) (T := TX6) (N := 10) (v := .ref (qm 0)) hx hb hts iw6 hown hK hP 0 rfl rfl 1 (Nat.le_of_ble_eq_true rfl) lk19 (fun _ h9 => h9) rfl dX6_count_73 ?_
    refine va_get (C := RX4) (T := TX4) (N := 15) (v := .int m_guideCount) hx hb hts iw4 hown hK hP 2 rfl rfl 2 (Nat.le_of_ble_eq_true rfl) lk194 (fun _ h9 => h9) rfl dX6_count_76 ?_
    exact hret m_guideCount () H locs _ ls (Option.some.inj h) hP hD hS dX6_count_79
  have h := (if_neg c3).symm.trans h
  by_cases c4 : x1 = (3 : Int32)
  · refine lv_tableIn (off := 79) (tgt := 80) hx hb dX6_count_1 (by rw [c4]; decide) (by rw [c4]; decide) (by rw [c4]; decide) (by decide) ?_
    have h := (if_pos c4).symm.trans h
    refine lv_aload_n hx hb dX6_count_80 rfl (lv_at hl 0 rfl) ?_
    refine va_get (C := RX6) (T := TX6) (N := 10) (v := .ref (qm 0)) hx hb hts iw6 hown hK hP 0 rfl rfl 1 (Nat.le_of_ble_eq_true rfl) lk19 (fun _ h9 => h9) rfl dX6_count_81 ?_
    refine va_get (C := RX4) (T := TX4) (N := 15) (v := .int m_hand) hx hb hts iw4 hown hK hP 2 rfl rfl 4 (Nat.le_of_ble_eq_true rfl) lk130 (fun _ h9 => h9) rfl dX6_count_84 ?_
    exact hret m_hand () H locs _ ls (Option.some.inj h) hP hD hS dX6_count_87
  have h := (if_neg c4).symm.trans h
  by_cases c5 : x1 = (4 : Int32)
  · refine lv_tableIn (off := 87) (tgt := 88) hx hb dX6_count_1 (by rw [c5]; decide) (by rw [c5]; decide) (by rw [c5]; decide) (by decide) ?_
    have h := (if_pos c5).symm.trans h
    refine lv_aload_n hx hb dX6_count_88 rfl (lv_at hl 0 rfl) ?_
    refine va_get (C := RX6) (T := TX6) (N := 10) (v := .ref (qm 0)) hx hb hts iw6 hown hK hP 0 rfl rfl 1 (Nat.le_of_ble_eq_true rfl) lk19 (fun _ h9 => h9) rfl dX6_count_89 ?_
    refine va_get (C := RX4) (T := TX4) (N := 15) (v := .int m_bellCount) hx hb hts iw4 hown hK hP 2 rfl rfl 3 (Nat.le_of_ble_eq_true rfl) lk288 (fun _ h9 => h9) rfl dX6_count_92 ?_
    exact hret m_bellCount () H locs _ ls (Option.some.inj h) hP hD hS dX6_count_95
  have h := (if_neg c5).symm.trans h
  by_cases c6 : x1 = (5 : Int32)
  · refine lv_tableIn (off := 95) (tgt := 96) hx hb dX6_count_1 (by rw [c6]; decide) (by rw [c6]; decide) (by rw [c6]; decide) (by decide) ?_
    have h := (if_pos c6).symm.trans h
    refine lv_aload_n hx hb dX6_count_96 rfl (lv_at hl 0 rfl) ?_
    refine va_get (C := RX6) (T := TX6) (N := 10) (v := .ref (qto 0)) hx hb hts iw6 hown hK hP 0 rfl rfl 7 (Nat.le_of_ble_eq_true rfl) lk51 (fun _ h9 => h9) rfl dX6_count_97 ?_
    refine va_get (C := RX3) (T := TX3) (N := 6) (v := .int to_felt) hx hb hts iw3 hown hK hP 4 rfl rfl 0 (Nat.le_of_ble_eq_true rfl) lk231 (fun _ h9 => h9) rfl dX6_count_100 ?_
    exact hret to_felt () H locs _ ls (Option.some.inj h) hP hD hS dX6_count_103
  have h := (if_neg c6).symm.trans h
  by_cases c7 : x1 = (6 : Int32)
  · refine lv_tableIn (off := 103) (tgt := 104) hx hb dX6_count_1 (by rw [c7]; decide) (by rw [c7]; decide) (by rw [c7]; decide) (by decide) ?_
    have h := (if_pos c7).symm.trans h
    refine lv_aload_n hx hb dX6_count_104 rfl (lv_at hl 0 rfl) ?_
    refine va_get (C := RX6) (T := TX6) (N := 10) (v := .ref (qto 0)) hx hb hts iw6 hown hK hP 0 rfl rfl 7 (Nat.le_of_ble_eq_true rfl) lk51 (fun _ h9 => h9) rfl dX6_count_105 ?_
    refine va_get (C := RX3) (T := TX3) (N := 6) (v := .int to_walked) hx hb hts iw3 hown hK hP 4 rfl rfl 1 (Nat.le_of_ble_eq_true rfl) lk234 (fun _ h9 => h9) rfl dX6_count_108 ?_
    exact hret to_walked () H locs _ ls (Option.some.inj h) hP hD hS dX6_count_111
  have h := (if_neg c7).symm.trans h
  by_cases c8 : x1 = (7 : Int32)
  · refine lv_tableIn (off := 111) (tgt := 112) hx hb dX6_count_1 (by rw [c8]; decide) (by rw [c8]; decide) (by rw [c8]; decide) (by decide) ?_
    have h := (if_pos c8).symm.trans h
    refine lv_aload_n hx hb dX6_count_112 rfl (lv_at hl 0 rfl) ?_
    refine va_get (C := RX6) (T := TX6) (N := 10) (v := .ref (qw 0)) hx hb hts iw6 hown hK hP 0 rfl rfl 8 (Nat.le_of_ble_eq_true rfl) lk58 (fun _ h9 => h9) rfl dX6_count_113 ?_
    refine va_get (C := RX5) (T := TX5) (N := 7) (v := .int w_size) hx hb hts iw5 hown hK hP 5 rfl rfl 0 (Nat.le_of_ble_eq_true rfl) lk84 (fun _ h9 => h9) rfl dX6_count_116 ?_
    exact hret w_size () H locs _ ls (Option.some.inj h) hP hD hS dX6_count_119
  have h := (if_neg c8).symm.trans h
  by_cases c9 : x1 = (8 : Int32)
  · refine lv_tableIn (off := 119) (tgt := 120) hx hb dX6_count_1 (by rw [c9]; decide) (by rw [c9]; decide) (by rw [c9]; decide) (by decide) ?_
    have h := (if_pos c9).symm.trans h
    refine lv_aload_n hx hb dX6_count_120 rfl (lv_at hl 0 rfl) ?_
    refine va_get (C := RX6) (T := TX6) (N := 10) (v := .ref (qt 0)) hx hb hts iw6 hown hK hP 0 rfl rfl 3 (Nat.le_of_ble_eq_true rfl) lk29 (fun _ h9 => h9) rfl dX6_count_121 ?_
    refine va_get (C := RX1) (T := TX1) (N := 9) (v := .int t_undoable) hx hb hts iw1 hown hK hP 3 rfl rfl 4 (Nat.le_of_ble_eq_true rfl) lk160 (fun _ h9 => h9) rfl dX6_count_124 ?_
    exact hret t_undoable () H locs _ ls (Option.some.inj h) hP hD hS dX6_count_127
  have h := (if_neg c9).symm.trans h
  by_cases c10 : x1 = (9 : Int32)
  · refine lv_tableIn (off := 127) (tgt := 128) hx hb dX6_count_1 (by rw [c10]; decide) (by rw [c10]; decide) (by rw [c10]; decide) (by decide) ?_
    have h := (if_pos c10).symm.trans h
    refine lv_aload_n hx hb dX6_count_128 rfl (lv_at hl 0 rfl) ?_
    refine va_get (C := RX6) (T := TX6) (N := 10) (v := .ref (qr 0)) hx hb hts iw6 hown hK hP 0 rfl rfl 0 (Nat.le_of_ble_eq_true rfl) lk10 (fun _ h9 => h9) rfl dX6_count_129 ?_
    refine va_get (C := RX2) (T := TX2) (N := 7) (v := .int r_length) hx hb hts iw2 hown hK hP 1 rfl rfl 1 (Nat.le_of_ble_eq_true rfl) lk70 (fun _ h9 => h9) rfl dX6_count_132 ?_
    exact hret r_length () H locs _ ls (Option.some.inj h) hP hD hS dX6_count_135
  have h := (if_neg c10).symm.trans h
  refine lv_tableOut (tgt := 136) hx hb dX6_count_1 (sw_out (lo := 0) (hi := 9) (by decide) (by decide) (fun j h1 h2 => ?_)) (by decide) ?_
  · rcases (show j = 0 ∨ j = 1 ∨ j = 2 ∨ j = 3 ∨ j = 4 ∨ j = 5 ∨ j = 6 ∨ j = 7 ∨ j = 8 ∨ j = 9 by omega) with rfl | rfl | rfl | rfl | rfl | rfl | rfl | rfl | rfl | rfl
    · exact c1
    · exact c2
    · exact c3
    · exact c4
    · exact c5
    · exact c6
    · exact c7
    · exact c8
    · exact c9
    · exact c10
  · refine lv_iconst (v := (-1)) hx hb dX6_count_136 (by decide) ?_
    exact hret (-1 : Int32) () H locs _ ls (Option.some.inj h) hP hD hS dX6_count_137
abbrev rm_X6_trace : Room := { frames := 0, cells := 0, slots := 0, locals := 0 }
set_option maxHeartbeats 4000000 in
set_option maxRecDepth 100000 in
theorem k_X6_trace (l : Launch) (D : va_G) (cI cZ cT : ClassId) (q : Nat → Nat) (qr : Nat → Nat) (qm : Nat → Nat) (qs : Nat → Nat) (qt : Nat → Nat) (qro : Nat → Nat) (qto : Nat → Nat) (qw : Nat → Nat) (qi0 : Nat → Nat) (qi1 : Nat → Nat) (sz : Nat) (v_asked : Int64) (res : R_X6_trace) (hf : f_X6_trace v_asked = some res) : Met l yX6_trace wsX6_trace rm_X6_trace (cPre D (tyz cI cZ cT) [.ref (q 0)] sz [oX6 q (qr 0) (qm 0) (qs 0) (qt 0) (qro 0) (qto 0) (qw 0) v_asked]) (cPl D (tyz cI cZ cT) (fun (r : Int64) (_ : Unit) => r = res) (fun _ => [oX6 q (qr 0) (qm 0) (qs 0) (qt 0) (qro 0) (qto 0) (qw 0) v_asked]) [oX6 q (qr 0) (qm 0) (qs 0) (qt 0) (qro 0) (qto 0) (qw 0) v_asked] sz) 0 0 (va_A [oX6 q (qr 0) (qm 0) (qs 0) (qt 0) (qro 0) (qto 0) (qw 0) v_asked] sz) := by
  refine vx_meth_l (by decide) rfl (Nat.le_of_ble_eq_true rfl) ?_
  intro p e s m args below meth c A Q hx hb hml hown hts hK hP hD hA hS hret ls hl
  have hown : s.vm.findClass RX6 = some m.cls := hown
  have hl : lv_has ls 1 [(0, .ref (q 0))] := hl
  have hFx : CallFix p m c cX6_trace 1 s args wsX6_trace RX6 := ⟨hx, hb, hml, hown, hts⟩
  have lk62 := hts (.fieldLink RX6 62 "FogGuides" "asked" "J") (by decide +kernel)
  have iw6 : ∀ w ∈ u_ws RX6 TX6 10, w ∈ wsX6_trace := by decide +kernel
  have h := hf
  unfold f_X6_trace at h
  obtain ⟨H, eH⟩ : ∃ H, H = s.heap := ⟨_, rfl⟩
  rw [← eH] at hP ⊢
  obtain ⟨locs, el⟩ : ∃ locs : List Loc, locs = [] := ⟨_, rfl⟩
  rw [← el] at hS ⊢
  have hS : va_S A s.heap H locs := by rw [eH]; exact hS
  refine lv_aload_n hx hb dX6_trace_0 rfl (lv_at hl 0 rfl) ?_
  refine va_get (C := RX6) (T := TX6) (N := 10) (v := .long v_asked) hx hb hts iw6 hown hK hP 0 rfl rfl 9 (Nat.le_of_ble_eq_true rfl) lk62 (fun _ h9 => h9) rfl dX6_trace_1 ?_
  exact hret v_asked () H locs _ ls (Option.some.inj h) hP hD hS dX6_trace_4
