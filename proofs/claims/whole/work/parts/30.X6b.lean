abbrev rm_X6_leads : Room := { frames := 4, cells := 0, slots := 0, locals := 128 }
set_option maxHeartbeats 4000000 in
set_option maxRecDepth 100000 in
theorem k_X6_leads (l : Launch) (D : va_G) (cI cZ cT : ClassId) (q : Nat → Nat) (qr : Nat → Nat) (qm : Nat → Nat) (qs : Nat → Nat) (qt : Nat → Nat) (qro : Nat → Nat) (qto : Nat → Nat) (qw : Nat → Nat) (qi0 : Nat → Nat) (qi1 : Nat → Nat) (sz : Nat) (v_asked : Int64) (m_cornerCount : Int32) (m_streetCount : Int32) (m_guideCount : Int32) (m_bellCount : Int32) (m_hand : Int32) (m_handTold : Int32) (t_corner : Int32) (t_minute : Int32) (t_paid : Int32) (t_leader : Int32) (t_undoable : Int32) (m_ends : Nat → Int32) (m_farEnds : Nat → Int32) (m_lengths : Nat → Int32) (m_paces : Nat → Int32) (m_fees : Nat → Int32) (m_knows : Nat → Int32) (t_corners : Nat → Int32) (t_minutes : Nat → Int32) (t_paids : Nat → Int32) (t_leaders : Nat → Int32) (x1 : Int32) (res : R_X6_leads) (hf : f_X6_leads m_streetCount m_guideCount m_ends m_farEnds m_lengths m_paces m_fees m_knows t_corner t_minute t_paid t_leader t_undoable t_corners t_minutes t_paids t_leaders x1 = some res) : Met l yX6_leads wsX6_leads rm_X6_leads (cPre D (tyz cI cZ cT) [.ref (q 0), .int x1] sz [oX6 q (qr 0) (qm 0) (qs 0) (qt 0) (qro 0) (qto 0) (qw 0) v_asked, oX4 qm m_cornerCount m_streetCount m_guideCount m_bellCount m_hand m_handTold, rA (qm 8) cI 9 m_ends, rA (qm 9) cI 9 m_farEnds, rA (qm 10) cI 9 m_lengths, rA (qm 11) cI 4 m_paces, rA (qm 12) cI 4 m_fees, rA (qm 13) cI 4 m_knows, oX1 qt t_corner t_minute t_paid t_leader t_undoable, rA (qt 6) cI 10 t_corners, rA (qt 7) cI 10 t_minutes, rA (qt 8) cI 10 t_paids, rA (qt 9) cI 10 t_leaders]) (cPi D (tyz cI cZ cT) (fun (r : Int32) (u : Int32 × Int32 × Int32 × Int32 × Int32 × (Nat → Int32) × (Nat → Int32) × (Nat → Int32) × (Nat → Int32)) => (r, u) = res) (fun u => [oX6 q (qr 0) (qm 0) (qs 0) (qt 0) (qro 0) (qto 0) (qw 0) v_asked, oX4 qm m_cornerCount m_streetCount m_guideCount m_bellCount m_hand m_handTold, rA (qm 8) cI 9 m_ends, rA (qm 9) cI 9 m_farEnds, rA (qm 10) cI 9 m_lengths, rA (qm 11) cI 4 m_paces, rA (qm 12) cI 4 m_fees, rA (qm 13) cI 4 m_knows, oX1 qt u.1 u.2.1 u.2.2.1 u.2.2.2.1 u.2.2.2.2.1, rA (qt 6) cI 10 u.2.2.2.2.2.1, rA (qt 7) cI 10 u.2.2.2.2.2.2.1, rA (qt 8) cI 10 u.2.2.2.2.2.2.2.1, rA (qt 9) cI 10 u.2.2.2.2.2.2.2.2]) [oX6 q (qr 0) (qm 0) (qs 0) (qt 0) (qro 0) (qto 0) (qw 0) v_asked, oX4 qm m_cornerCount m_streetCount m_guideCount m_bellCount m_hand m_handTold, rA (qm 8) cI 9 m_ends, rA (qm 9) cI 9 m_farEnds, rA (qm 10) cI 9 m_lengths, rA (qm 11) cI 4 m_paces, rA (qm 12) cI 4 m_fees, rA (qm 13) cI 4 m_knows, oX1 qt t_corner t_minute t_paid t_leader t_undoable, rA (qt 6) cI 10 t_corners, rA (qt 7) cI 10 t_minutes, rA (qt 8) cI 10 t_paids, rA (qt 9) cI 10 t_leaders] sz) 0 0 (va_A [oX6 q (qr 0) (qm 0) (qs 0) (qt 0) (qro 0) (qto 0) (qw 0) v_asked, oX4 qm m_cornerCount m_streetCount m_guideCount m_bellCount m_hand m_handTold, rA (qm 8) cI 9 m_ends, rA (qm 9) cI 9 m_farEnds, rA (qm 10) cI 9 m_lengths, rA (qm 11) cI 4 m_paces, rA (qm 12) cI 4 m_fees, rA (qm 13) cI 4 m_knows, oX1 qt t_corner t_minute t_paid t_leader t_undoable, rA (qt 6) cI 10 t_corners, rA (qt 7) cI 10 t_minutes, rA (qt 8) cI 10 t_paids, rA (qt 9) cI 10 t_leaders] sz) := by
  refine vx_meth_i (by decide) rfl (Nat.le_of_ble_eq_true rfl) ?_
  intro p e s m args below meth c A Q hx hb hml hown hts hK hP hD hA hS hret ls hl
  have hown : s.vm.findClass RX6 = some m.cls := hown
  have hl : lv_has ls 3 [(0, .ref (q 0)), (1, .int x1)] := hl
  have hFx : CallFix p m c cX6_leads 3 s args wsX6_leads RX6 := ⟨hx, hb, hml, hown, hts⟩
  have lk19 := hts (.fieldLink RX6 19 "FogGuides" "map" "LFogGuides$TownMap;") (by decide +kernel)
  have iw6 : ∀ w ∈ u_ws RX6 TX6 10, w ∈ wsX6_leads := by decide +kernel
  have lk29 := hts (.fieldLink RX6 29 "FogGuides" "tale" "LFogGuides$Tale;") (by decide +kernel)
  have lk127 := hts (.fieldLink RX6 127 "FogGuides$Tale" "leader" "I") (by decide +kernel)
  have iw1 : ∀ w ∈ u_ws RX1 TX1 9, w ∈ wsX6_leads := by decide +kernel
  have lk133 := hts (.fieldLink RX6 133 "FogGuides$Tale" "corner" "I") (by decide +kernel)
  have lk112 := hts (.fieldLink RX6 112 "FogGuides$TownMap" "fees" "[I") (by decide +kernel)
  have iw4 : ∀ w ∈ u_ws RX4 TX4 15, w ∈ wsX6_leads := by decide +kernel
  have h := hf
  unfold f_X6_leads at h
  obtain ⟨H, eH⟩ : ∃ H, H = s.heap := ⟨_, rfl⟩
  rw [← eH] at hP ⊢
  obtain ⟨locs, el⟩ : ∃ locs : List Loc, locs = [] := ⟨_, rfl⟩
  rw [← el] at hS ⊢
  have hS : va_S A s.heap H locs := by rw [eH]; exact hS
  refine lv_aload_n hx hb dX6_leads_0 rfl (lv_at hl 0 rfl) ?_
  refine va_get (C := RX6) (T := TX6) (N := 10) (v := .ref (qm 0)) hx hb hts iw6 hown hK hP 0 rfl rfl 1 (Nat.le_of_ble_eq_true rfl) lk19 (fun _ h9 => h9) rfl dX6_leads_1 ?_
  refine lv_iload_n hx hb dX6_leads_4 rfl (lv_at hl 1 rfl) ?_
  obtain ⟨r1, hr1, h⟩ := xk_some h
  refine vx_VJ (As := [.int x1]) (rest := []) hFx (k_X4_hasStreet l D cI cZ cT qm H.size m_cornerCount m_streetCount m_guideCount m_bellCount m_hand m_handTold x1 r1 hr1) (cwV 1 hts gX6_leads_X4_hasStreet rfl rfl rfl (by decide +kernel) ⟨Nat.le_of_ble_eq_true rfl, Nat.le_of_ble_eq_true rfl⟩) hK hP hD hS hA [1] rfl rfl 4 0 rfl rfl rfl hl.1 rfl (Nat.le_of_ble_eq_true rfl) dX6_leads_5 ⟨Nat.zero_le _, Nat.zero_le _⟩ (fun H locs hP hS => ?_)
  refine lv_if_ne (tgt := 13) hx hb dX6_leads_8 (by decide) (fun c2 => ?_) (fun c2 => ?_)
  · have h := (if_neg c2).symm.trans h
    refine lv_aload_n hx hb dX6_leads_13 rfl (lv_at hl 0 rfl) ?_
    refine lv_iload_n hx hb dX6_leads_14 rfl (lv_at hl 1 rfl) ?_
    obtain ⟨r3, hr3, h⟩ := xk_some h
    refine vx_VJ (As := [.int x1]) (rest := []) hFx (k_X6_mayBeLed l D cI cZ cT q qr qm qs qt qro qto qw qi0 qi1 H.size v_asked m_cornerCount m_streetCount m_guideCount m_bellCount m_hand m_handTold t_corner t_minute t_paid t_leader t_undoable m_ends m_farEnds m_lengths m_paces m_fees m_knows x1 r3 hr3) (cwV 1 hts gX6_leads_X6_mayBeLed rfl rfl rfl (by decide +kernel) ⟨Nat.le_of_ble_eq_true rfl, Nat.le_of_ble_eq_true rfl⟩) hK hP hD hS hA [0, 1, 2, 3, 4, 5, 6, 7, 8] rfl rfl 6 0 rfl rfl rfl hl.1 rfl (Nat.le_of_ble_eq_true rfl) dX6_leads_15 ⟨Nat.zero_le _, Nat.zero_le _⟩ (fun H locs hP hS => ?_)
    refine lv_if_ne (tgt := 24) hx hb dX6_leads_18 (by decide) (fun c4 => ?_) (fun c4 => ?_)
    · have h := (if_neg c4).symm.trans h
      refine lv_aload_n hx hb dX6_leads_24 rfl (lv_at hl 0 rfl) ?_
      refine va_get (C := RX6) (T := TX6) (N := 10) (v := .ref (qm 0)) hx hb hts iw6 hown hK hP 0 rfl rfl 1 (Nat.le_of_ble_eq_true rfl) lk19 (fun _ h9 => h9) rfl dX6_leads_25 ?_
      refine lv_aload_n hx hb dX6_leads_28 rfl (lv_at hl 0 rfl) ?_
      refine va_get (C := RX6) (T := TX6) (N := 10) (v := .ref (qt 0)) hx hb hts iw6 hown hK hP 0 rfl rfl 3 (Nat.le_of_ble_eq_true rfl) lk29 (fun _ h9 => h9) rfl dX6_leads_29 ?_
      refine va_get (C := RX1) (T := TX1) (N := 9) (v := .int t_leader) hx hb hts iw1 hown hK hP 8 rfl rfl 3 (Nat.le_of_ble_eq_true rfl) lk127 (fun _ h9 => h9) rfl dX6_leads_32 ?_
      refine lv_iload_n hx hb dX6_leads_35 rfl (lv_at hl 1 rfl) ?_
      obtain ⟨r5, hr5, h⟩ := xk_some h
      refine vx_VJ (As := [.int t_leader, .int x1]) (rest := []) hFx (k_X4_ledMinutes l D cI cZ cT qm H.size m_cornerCount m_streetCount m_guideCount m_bellCount m_hand m_handTold m_lengths m_paces t_leader x1 r5 hr5) (cwV 2 hts gX6_leads_X4_ledMinutes rfl rfl rfl (by decide +kernel) ⟨Nat.le_of_ble_eq_true rfl, Nat.le_of_ble_eq_true rfl⟩) hK hP hD hS hA [1, 4, 5] rfl rfl 4 0 rfl rfl rfl hl.1 rfl (Nat.le_of_ble_eq_true rfl) dX6_leads_36 ⟨Nat.zero_le _, Nat.zero_le _⟩ (fun H locs hP hS => ?_)
      refine lv_istore_n (lv' := [(2, .int r5), (0, .ref (q 0)), (1, .int x1)]) hx hb dX6_leads_39 rfl hl (by decide) rfl (fun ls hl => ?_)
      refine lv_aload_n hx hb dX6_leads_40 rfl (lv_at hl 1 rfl) ?_
      refine va_get (C := RX6) (T := TX6) (N := 10) (v := .ref (qt 0)) hx hb hts iw6 hown hK hP 0 rfl rfl 3 (Nat.le_of_ble_eq_true rfl) lk29 (fun _ h9 => h9) rfl dX6_leads_41 ?_
      refine lv_aload_n hx hb dX6_leads_44 rfl (lv_at hl 1 rfl) ?_
      refine va_get (C := RX6) (T := TX6) (N := 10) (v := .ref (qm 0)) hx hb hts iw6 hown hK hP 0 rfl rfl 1 (Nat.le_of_ble_eq_true rfl) lk19 (fun _ h9 => h9) rfl dX6_leads_45 ?_
      refine lv_iload_n hx hb dX6_leads_48 rfl (lv_at hl 2 rfl) ?_
      refine lv_aload_n hx hb dX6_leads_49 rfl (lv_at hl 1 rfl) ?_
      refine va_get (C := RX6) (T := TX6) (N := 10) (v := .ref (qt 0)) hx hb hts iw6 hown hK hP 0 rfl rfl 3 (Nat.le_of_ble_eq_true rfl) lk29 (fun _ h9 => h9) rfl dX6_leads_50 ?_
      refine va_get (C := RX1) (T := TX1) (N := 9) (v := .int t_corner) hx hb hts iw1 hown hK hP 8 rfl rfl 0 (Nat.le_of_ble_eq_true rfl) lk133 (fun _ h9 => h9) rfl dX6_leads_53 ?_
      obtain ⟨r6, hr6, h⟩ := xk_some h
      refine vx_VJ (As := [.int x1, .int t_corner]) (rest := [.ref (qt 0)]) hFx (k_X4_acrossFrom l D cI cZ cT qm H.size m_cornerCount m_streetCount m_guideCount m_bellCount m_hand m_handTold m_ends m_farEnds x1 t_corner r6 hr6) (cwV 2 hts gX6_leads_X4_acrossFrom rfl rfl rfl (by decide +kernel) ⟨Nat.le_of_ble_eq_true rfl, Nat.le_of_ble_eq_true rfl⟩) hK hP hD hS hA [1, 2, 3] rfl rfl 4 0 rfl rfl rfl hl.1 rfl (Nat.le_of_ble_eq_true rfl) dX6_leads_56 ⟨Nat.zero_le _, Nat.zero_le _⟩ (fun H locs hP hS => ?_)
      refine lv_iload_n hx hb dX6_leads_59 rfl (lv_at hl 0 rfl) ?_
      refine lv_aload_n hx hb dX6_leads_60 rfl (lv_at hl 1 rfl) ?_
      refine va_get (C := RX6) (T := TX6) (N := 10) (v := .ref (qm 0)) hx hb hts iw6 hown hK hP 0 rfl rfl 1 (Nat.le_of_ble_eq_true rfl) lk19 (fun _ h9 => h9) rfl dX6_leads_61 ?_
      refine va_get (C := RX4) (T := TX4) (N := 15) (v := .ref (qm 12)) hx hb hts iw4 hown hK hP 1 rfl rfl 11 (Nat.le_of_ble_eq_true rfl) lk112 (fun _ h9 => h9) rfl dX6_leads_64 ?_
      refine lv_aload_n hx hb dX6_leads_67 rfl (lv_at hl 1 rfl) ?_
      refine va_get (C := RX6) (T := TX6) (N := 10) (v := .ref (qt 0)) hx hb hts iw6 hown hK hP 0 rfl rfl 3 (Nat.le_of_ble_eq_true rfl) lk29 (fun _ h9 => h9) rfl dX6_leads_68 ?_
      refine va_get (C := RX1) (T := TX1) (N := 9) (v := .int t_leader) hx hb hts iw1 hown hK hP 8 rfl rfl 3 (Nat.le_of_ble_eq_true rfl) lk127 (fun _ h9 => h9) rfl dX6_leads_71 ?_
      obtain ⟨hi7, h⟩ := xb_some h
      refine va_iald hx hb hK hP 6 0 rfl rfl hi7 dX6_leads_74 ?_
      refine lv_iload_n hx hb dX6_leads_75 rfl (lv_at hl 0 rfl) ?_
      refine lv_imul hx hb dX6_leads_76 ?_
      refine lv_aload_n hx hb dX6_leads_77 rfl (lv_at hl 1 rfl) ?_
      refine va_get (C := RX6) (T := TX6) (N := 10) (v := .ref (qt 0)) hx hb hts iw6 hown hK hP 0 rfl rfl 3 (Nat.le_of_ble_eq_true rfl) lk29 (fun _ h9 => h9) rfl dX6_leads_78 ?_
      refine va_get (C := RX1) (T := TX1) (N := 9) (v := .int t_leader) hx hb hts iw1 hown hK hP 8 rfl rfl 3 (Nat.le_of_ble_eq_true rfl) lk127 (fun _ h9 => h9) rfl dX6_leads_81 ?_
      obtain ⟨r8, hr8, h⟩ := xk_some h
      refine vx_VV (As := [.int r6, .int r5, .int ((m_fees t_leader.toNatClampNeg) * r5), .int t_leader]) (rest := []) (wr := [oX6 q (qr 0) (qm 0) (qs 0) (qt 0) (qro 0) (qto 0) (qw 0) v_asked, oX4 qm m_cornerCount m_streetCount m_guideCount m_bellCount m_hand m_handTold, rA (qm 8) cI 9 m_ends, rA (qm 9) cI 9 m_farEnds, rA (qm 10) cI 9 m_lengths, rA (qm 11) cI 4 m_paces, rA (qm 12) cI 4 m_fees, rA (qm 13) cI 4 m_knows]) (wn := [oX6 q (qr 0) (qm 0) (qs 0) (qt 0) (qro 0) (qto 0) (qw 0) v_asked, oX4 qm m_cornerCount m_streetCount m_guideCount m_bellCount m_hand m_handTold, rA (qm 8) cI 9 m_ends, rA (qm 9) cI 9 m_farEnds, rA (qm 10) cI 9 m_lengths, rA (qm 11) cI 4 m_paces, rA (qm 12) cI 4 m_fees, rA (qm 13) cI 4 m_knows, oX1 qt r8.1 r8.2.1 r8.2.2.1 r8.2.2.2.1 r8.2.2.2.2.1, rA (qt 6) cI 10 r8.2.2.2.2.2.1, rA (qt 7) cI 10 r8.2.2.2.2.2.2.1, rA (qt 8) cI 10 r8.2.2.2.2.2.2.2.1, rA (qt 9) cI 10 r8.2.2.2.2.2.2.2.2]) hFx (k_X1_step l D cI cZ cT qt H.size t_corner t_minute t_paid t_leader t_undoable t_corners t_minutes t_paids t_leaders r6 r5 ((m_fees t_leader.toNatClampNeg) * r5) t_leader r8 hr8) (cwV 4 hts gX6_leads_X1_step rfl rfl rfl (by decide +kernel) ⟨Nat.le_of_ble_eq_true rfl, Nat.le_of_ble_eq_true rfl⟩) hK hP hD hS hA [8, 9, 10, 11, 12] [0, 1, 2, 3, 4, 5, 6, 7] [0, 1, 2, 3, 4, 5, 6, 7, 8, 9, 10, 11, 12] rfl rfl rfl rfl (by decide) rfl rfl 1 0 rfl rfl rfl hl.1 rfl (Nat.le_of_ble_eq_true rfl) dX6_leads_84 ⟨Nat.zero_le _, Nat.zero_le _⟩ (fun H locs hP hD hS => ?_)
      refine lv_aload_n hx hb dX6_leads_87 rfl (lv_at hl 1 rfl) ?_
      refine va_get (C := RX6) (T := TX6) (N := 10) (v := .ref (qt 0)) hx hb hts iw6 hown hK hP 0 rfl rfl 3 (Nat.le_of_ble_eq_true rfl) lk29 (fun _ h9 => h9) rfl dX6_leads_88 ?_
      refine va_get (C := RX1) (T := TX1) (N := 9) (v := .int r8.1) hx hb hts iw1 hown hK hP 8 rfl rfl 0 (Nat.le_of_ble_eq_true rfl) lk133 (fun _ h9 => h9) rfl dX6_leads_91 ?_
      exact hret r8.1 (r8.1, r8.2.1, r8.2.2.1, r8.2.2.2.1, r8.2.2.2.2.1, r8.2.2.2.2.2.1, r8.2.2.2.2.2.2.1, r8.2.2.2.2.2.2.2.1, r8.2.2.2.2.2.2.2.2) H locs _ ls (Option.some.inj h) hP hD hS dX6_leads_94
    · have h := (if_pos c4).symm.trans h
      refine lv_bipush (v := (-2)) hx hb dX6_leads_21 (by decide) ?_
      exact hret (-2 : Int32) (t_corner, t_minute, t_paid, t_leader, t_undoable, t_corners, t_minutes, t_paids, t_leaders) H locs _ ls (Option.some.inj h) hP hD hS dX6_leads_23
  · have h := (if_pos c2).symm.trans h
    refine lv_iconst (v := (-1)) hx hb dX6_leads_11 (by decide) ?_
    exact hret (-1 : Int32) (t_corner, t_minute, t_paid, t_leader, t_undoable, t_corners, t_minutes, t_paids, t_leaders) H locs _ ls (Option.some.inj h) hP hD hS dX6_leads_12
abbrev rm_X6_mayWalkAlone : Room := { frames := 2, cells := 0, slots := 0, locals := 43 }
set_option maxHeartbeats 4000000 in
set_option maxRecDepth 100000 in
theorem k_X6_mayWalkAlone (l : Launch) (D : va_G) (cI cZ cT : ClassId) (q : Nat → Nat) (qr : Nat → Nat) (qm : Nat → Nat) (qs : Nat → Nat) (qt : Nat → Nat) (qro : Nat → Nat) (qto : Nat → Nat) (qw : Nat → Nat) (qi0 : Nat → Nat) (qi1 : Nat → Nat) (sz : Nat) (v_asked : Int64) (m_cornerCount : Int32) (m_streetCount : Int32) (m_guideCount : Int32) (m_bellCount : Int32) (m_hand : Int32) (m_handTold : Int32) (t_corner : Int32) (t_minute : Int32) (t_paid : Int32) (t_leader : Int32) (t_undoable : Int32) (m_ends : Nat → Int32) (m_farEnds : Nat → Int32) (m_lengths : Nat → Int32) (m_bells : Nat → Int32) (x1 : Int32) (res : R_X6_mayWalkAlone) (fu : Nat) (hf : f_X6_mayWalkAlone fu m_bellCount m_ends m_farEnds m_lengths m_bells t_corner t_minute t_leader x1 = some res) : Met l yX6_mayWalkAlone wsX6_mayWalkAlone rm_X6_mayWalkAlone (cPre D (tyz cI cZ cT) [.ref (q 0), .int x1] sz [oX6 q (qr 0) (qm 0) (qs 0) (qt 0) (qro 0) (qto 0) (qw 0) v_asked, oX4 qm m_cornerCount m_streetCount m_guideCount m_bellCount m_hand m_handTold, rA (qm 8) cI 9 m_ends, rA (qm 9) cI 9 m_farEnds, rA (qm 10) cI 9 m_lengths, rA (qm 15) cI 8 m_bells, oX1 qt t_corner t_minute t_paid t_leader t_undoable]) (cPi D (tyz cI cZ cT) (fun (r : Int32) (_ : Unit) => r = res) (fun _ => [oX6 q (qr 0) (qm 0) (qs 0) (qt 0) (qro 0) (qto 0) (qw 0) v_asked, oX4 qm m_cornerCount m_streetCount m_guideCount m_bellCount m_hand m_handTold, rA (qm 8) cI 9 m_ends, rA (qm 9) cI 9 m_farEnds, rA (qm 10) cI 9 m_lengths, rA (qm 15) cI 8 m_bells, oX1 qt t_corner t_minute t_paid t_leader t_undoable]) [oX6 q (qr 0) (qm 0) (qs 0) (qt 0) (qro 0) (qto 0) (qw 0) v_asked, oX4 qm m_cornerCount m_streetCount m_guideCount m_bellCount m_hand m_handTold, rA (qm 8) cI 9 m_ends, rA (qm 9) cI 9 m_farEnds, rA (qm 10) cI 9 m_lengths, rA (qm 15) cI 8 m_bells, oX1 qt t_corner t_minute t_paid t_leader t_undoable] sz) 0 0 (va_A [oX6 q (qr 0) (qm 0) (qs 0) (qt 0) (qro 0) (qto 0) (qw 0) v_asked, oX4 qm m_cornerCount m_streetCount m_guideCount m_bellCount m_hand m_handTold, rA (qm 8) cI 9 m_ends, rA (qm 9) cI 9 m_farEnds, rA (qm 10) cI 9 m_lengths, rA (qm 15) cI 8 m_bells, oX1 qt t_corner t_minute t_paid t_leader t_undoable] sz) := by
  refine vx_meth_z (by decide) rfl (Nat.le_of_ble_eq_true rfl) ?_
  intro p e s m args below meth c A Q hx hb hml hown hts hK hP hD hA hS hret ls hl
  have hown : s.vm.findClass RX6 = some m.cls := hown
  have hl : lv_has ls 3 [(0, .ref (q 0)), (1, .int x1)] := hl
  have hFx : CallFix p m c cX6_mayWalkAlone 3 s args wsX6_mayWalkAlone RX6 := ⟨hx, hb, hml, hown, hts⟩
  have lk29 := hts (.fieldLink RX6 29 "FogGuides" "tale" "LFogGuides$Tale;") (by decide +kernel)
  have iw6 : ∀ w ∈ u_ws RX6 TX6 10, w ∈ wsX6_mayWalkAlone := by decide +kernel
  have lk127 := hts (.fieldLink RX6 127 "FogGuides$Tale" "leader" "I") (by decide +kernel)
  have iw1 : ∀ w ∈ u_ws RX1 TX1 9, w ∈ wsX6_mayWalkAlone := by decide +kernel
  have lk19 := hts (.fieldLink RX6 19 "FogGuides" "map" "LFogGuides$TownMap;") (by decide +kernel)
  have lk133 := hts (.fieldLink RX6 133 "FogGuides$Tale" "corner" "I") (by decide +kernel)
  have lk103 := hts (.fieldLink RX6 103 "FogGuides$TownMap" "lengths" "[I") (by decide +kernel)
  have iw4 : ∀ w ∈ u_ws RX4 TX4 15, w ∈ wsX6_mayWalkAlone := by decide +kernel
  have lk140 := hts (.fieldLink RX6 140 "FogGuides$Tale" "minute" "I") (by decide +kernel)
  have h := hf
  unfold f_X6_mayWalkAlone at h
  obtain ⟨H, eH⟩ : ∃ H, H = s.heap := ⟨_, rfl⟩
  rw [← eH] at hP ⊢
  obtain ⟨locs, el⟩ : ∃ locs : List Loc, locs = [] := ⟨_, rfl⟩
  rw [← el] at hS ⊢
  have hS : va_S A s.heap H locs := by rw [eH]; exact hS
  refine lv_aload_n hx hb dX6_mayWalkAlone_0 rfl (lv_at hl 0 rfl) ?_
  refine va_get (C := RX6) (T := TX6) (N := 10) (v := .ref (qt 0)) hx hb hts iw6 hown hK hP 0 rfl rfl 3 (Nat.le_of_ble_eq_true rfl) lk29 (fun _ h9 => h9) rfl dX6_mayWalkAlone_1 ?_
  refine va_get (C := RX1) (T := TX1) (N := 9) (v := .int t_leader) hx hb hts iw1 hown hK hP 6 rfl rfl 3 (Nat.le_of_ble_eq_true rfl) lk127 (fun _ h9 => h9) rfl dX6_mayWalkAlone_4 ?_
  refine lv_bipush (v := (-9)) hx hb dX6_mayWalkAlone_7 (by decide) ?_
  refine lv_icmp_ne (tgt := 30) hx hb dX6_mayWalkAlone_9 (by decide) (fun c1 => ?_) (fun c1 => ?_)
  · have h := (if_neg c1).symm.trans h
    refine lv_iconst (v := 0) hx hb dX6_mayWalkAlone_30 (by decide) ?_
    exact hret (0 : Int32) () H locs _ ls (Or.inl rfl) (Option.some.inj h) hP hD hS dX6_mayWalkAlone_31
  · have h := (if_pos c1).symm.trans h
    refine lv_aload_n hx hb dX6_mayWalkAlone_12 rfl (lv_at hl 0 rfl) ?_
    refine va_get (C := RX6) (T := TX6) (N := 10) (v := .ref (qm 0)) hx hb hts iw6 hown hK hP 0 rfl rfl 1 (Nat.le_of_ble_eq_true rfl) lk19 (fun _ h9 => h9) rfl dX6_mayWalkAlone_13 ?_
    refine lv_iload_n hx hb dX6_mayWalkAlone_16 rfl (lv_at hl 1 rfl) ?_
    refine lv_aload_n hx hb dX6_mayWalkAlone_17 rfl (lv_at hl 0 rfl) ?_
    refine va_get (C := RX6) (T := TX6) (N := 10) (v := .ref (qt 0)) hx hb hts iw6 hown hK hP 0 rfl rfl 3 (Nat.le_of_ble_eq_true rfl) lk29 (fun _ h9 => h9) rfl dX6_mayWalkAlone_18 ?_
    refine va_get (C := RX1) (T := TX1) (N := 9) (v := .int t_corner) hx hb hts iw1 hown hK hP 6 rfl rfl 0 (Nat.le_of_ble_eq_true rfl) lk133 (fun _ h9 => h9) rfl dX6_mayWalkAlone_21 ?_
    obtain ⟨r2, hr2, h⟩ := xk_some h
    refine vx_VJ (As := [.int x1, .int t_corner]) (rest := []) hFx (k_X4_isAt l D cI cZ cT qm H.size m_cornerCount m_streetCount m_guideCount m_bellCount m_hand m_handTold m_ends m_farEnds x1 t_corner r2 hr2) (cwV 2 hts gX6_mayWalkAlone_X4_isAt rfl rfl rfl (by decide +kernel) ⟨Nat.le_of_ble_eq_true rfl, Nat.le_of_ble_eq_true rfl⟩) hK hP hD hS hA [1, 2, 3] rfl rfl 4 0 rfl rfl rfl hl.1 rfl (Nat.le_of_ble_eq_true rfl) dX6_mayWalkAlone_24 ⟨Nat.zero_le _, Nat.zero_le _⟩ (fun H locs hP hS => ?_)
    refine lv_if_ne (tgt := 32) hx hb dX6_mayWalkAlone_27 (by decide) (fun c3 => ?_) (fun c3 => ?_)
    · have h := (if_neg c3).symm.trans h
      refine lv_aload_n hx hb dX6_mayWalkAlone_32 rfl (lv_at hl 0 rfl) ?_
      refine va_get (C := RX6) (T := TX6) (N := 10) (v := .ref (qm 0)) hx hb hts iw6 hown hK hP 0 rfl rfl 1 (Nat.le_of_ble_eq_true rfl) lk19 (fun _ h9 => h9) rfl dX6_mayWalkAlone_33 ?_
      refine va_get (C := RX4) (T := TX4) (N := 15) (v := .ref (qm 10)) hx hb hts iw4 hown hK hP 1 rfl rfl 9 (Nat.le_of_ble_eq_true rfl) lk103 (fun _ h9 => h9) rfl dX6_mayWalkAlone_36 ?_
      refine lv_iload_n hx hb dX6_mayWalkAlone_39 rfl (lv_at hl 1 rfl) ?_
      obtain ⟨hi4, h⟩ := xb_some h
      refine va_iald hx hb hK hP 4 0 rfl rfl hi4 dX6_mayWalkAlone_40 ?_
      refine lv_istore_n (lv' := [(2, .int (m_lengths x1.toNatClampNeg)), (0, .ref (q 0)), (1, .int x1)]) hx hb dX6_mayWalkAlone_41 rfl hl (by decide) rfl (fun ls hl => ?_)
      refine lv_aload_n hx hb dX6_mayWalkAlone_42 rfl (lv_at hl 1 rfl) ?_
      refine va_get (C := RX6) (T := TX6) (N := 10) (v := .ref (qt 0)) hx hb hts iw6 hown hK hP 0 rfl rfl 3 (Nat.le_of_ble_eq_true rfl) lk29 (fun _ h9 => h9) rfl dX6_mayWalkAlone_43 ?_
      refine va_get (C := RX1) (T := TX1) (N := 9) (v := .int t_minute) hx hb hts iw1 hown hK hP 6 rfl rfl 1 (Nat.le_of_ble_eq_true rfl) lk140 (fun _ h9 => h9) rfl dX6_mayWalkAlone_46 ?_
      refine lv_iload_n hx hb dX6_mayWalkAlone_49 rfl (lv_at hl 0 rfl) ?_
      refine lv_iadd hx hb dX6_mayWalkAlone_50 ?_
      refine lv_sipush (v := 9999) hx hb dX6_mayWalkAlone_51 (by decide) ?_
      refine lv_icmp_gt (tgt := 79) hx hb dX6_mayWalkAlone_54 (by decide) (fun c5 => ?_) (fun c5 => ?_)
      · have h := (if_pos c5).symm.trans h
        refine lv_iconst (v := 0) hx hb dX6_mayWalkAlone_79 (by decide) ?_
        exact hret (0 : Int32) () H locs _ ls (Or.inl rfl) (Option.some.inj h) hP hD hS dX6_mayWalkAlone_80
      · have h := (if_neg c5).symm.trans h
        refine lv_aload_n hx hb dX6_mayWalkAlone_57 rfl (lv_at hl 1 rfl) ?_
        refine va_get (C := RX6) (T := TX6) (N := 10) (v := .ref (qm 0)) hx hb hts iw6 hown hK hP 0 rfl rfl 1 (Nat.le_of_ble_eq_true rfl) lk19 (fun _ h9 => h9) rfl dX6_mayWalkAlone_58 ?_
        refine lv_aload_n hx hb dX6_mayWalkAlone_61 rfl (lv_at hl 1 rfl) ?_
        refine va_get (C := RX6) (T := TX6) (N := 10) (v := .ref (qt 0)) hx hb hts iw6 hown hK hP 0 rfl rfl 3 (Nat.le_of_ble_eq_true rfl) lk29 (fun _ h9 => h9) rfl dX6_mayWalkAlone_62 ?_
        refine va_get (C := RX1) (T := TX1) (N := 9) (v := .int t_minute) hx hb hts iw1 hown hK hP 6 rfl rfl 1 (Nat.le_of_ble_eq_true rfl) lk140 (fun _ h9 => h9) rfl dX6_mayWalkAlone_65 ?_
        obtain ⟨r6, hr6, h⟩ := xk_some h
        refine vx_VJ (As := [.int t_minute]) (rest := []) hFx (k_X4_thinFrom l D cI cZ cT qm H.size m_cornerCount m_streetCount m_guideCount m_bellCount m_hand m_handTold m_bells t_minute r6 fu hr6) (cwV 1 hts gX6_mayWalkAlone_X4_thinFrom rfl rfl rfl (by decide +kernel) ⟨Nat.le_of_ble_eq_true rfl, Nat.le_of_ble_eq_true rfl⟩) hK hP hD hS hA [1, 5] rfl rfl 4 0 rfl rfl rfl hl.1 rfl (Nat.le_of_ble_eq_true rfl) dX6_mayWalkAlone_68 ⟨Nat.zero_le _, Nat.zero_le _⟩ (fun H locs hP hS => ?_)
        refine lv_iload_n hx hb dX6_mayWalkAlone_71 rfl (lv_at hl 0 rfl) ?_
        refine lv_icmp_lt (tgt := 79) hx hb dX6_mayWalkAlone_72 (by decide) (fun c7 => ?_) (fun c7 => ?_)
        · have h := (if_pos c7).symm.trans h
          refine lv_iconst (v := 0) hx hb dX6_mayWalkAlone_79 (by decide) ?_
          exact hret (0 : Int32) () H locs _ ls (Or.inl rfl) (Option.some.inj h) hP hD hS dX6_mayWalkAlone_80
        · have h := (if_neg c7).symm.trans h
          refine lv_iconst (v := 1) hx hb dX6_mayWalkAlone_75 (by decide) ?_
          refine lv_goto (tgt := 80) hx hb dX6_mayWalkAlone_76 (by decide) ?_
          exact hret (1 : Int32) () H locs _ ls (Or.inr rfl) (Option.some.inj h) hP hD hS dX6_mayWalkAlone_80
    · have h := (if_pos c3).symm.trans h
      refine lv_iconst (v := 0) hx hb dX6_mayWalkAlone_30 (by decide) ?_
      exact hret (0 : Int32) () H locs _ ls (Or.inl rfl) (Option.some.inj h) hP hD hS dX6_mayWalkAlone_31
abbrev rm_X6_alone : Room := { frames := 4, cells := 0, slots := 0, locals := 128 }
set_option maxHeartbeats 4000000 in
set_option maxRecDepth 100000 in
theorem k_X6_alone (l : Launch) (D : va_G) (cI cZ cT : ClassId) (q : Nat → Nat) (qr : Nat → Nat) (qm : Nat → Nat) (qs : Nat → Nat) (qt : Nat → Nat) (qro : Nat → Nat) (qto : Nat → Nat) (qw : Nat → Nat) (qi0 : Nat → Nat) (qi1 : Nat → Nat) (sz : Nat) (v_asked : Int64) (m_cornerCount : Int32) (m_streetCount : Int32) (m_guideCount : Int32) (m_bellCount : Int32) (m_hand : Int32) (m_handTold : Int32) (t_corner : Int32) (t_minute : Int32) (t_paid : Int32) (t_leader : Int32) (t_undoable : Int32) (m_ends : Nat → Int32) (m_farEnds : Nat → Int32) (m_lengths : Nat → Int32) (m_bells : Nat → Int32) (t_corners : Nat → Int32) (t_minutes : Nat → Int32) (t_paids : Nat → Int32) (t_leaders : Nat → Int32) (x1 : Int32) (res : R_X6_alone) (fu : Nat) (hf : f_X6_alone fu m_streetCount m_bellCount m_ends m_farEnds m_lengths m_bells t_corner t_minute t_paid t_leader t_undoable t_corners t_minutes t_paids t_leaders x1 = some res) : Met l yX6_alone wsX6_alone rm_X6_alone (cPre D (tyz cI cZ cT) [.ref (q 0), .int x1] sz [oX6 q (qr 0) (qm 0) (qs 0) (qt 0) (qro 0) (qto 0) (qw 0) v_asked, oX4 qm m_cornerCount m_streetCount m_guideCount m_bellCount m_hand m_handTold, rA (qm 8) cI 9 m_ends, rA (qm 9) cI 9 m_farEnds, rA (qm 10) cI 9 m_lengths, rA (qm 15) cI 8 m_bells, oX1 qt t_corner t_minute t_paid t_leader t_undoable, rA (qt 6) cI 10 t_corners, rA (qt 7) cI 10 t_minutes, rA (qt 8) cI 10 t_paids, rA (qt 9) cI 10 t_leaders]) (cPi D (tyz cI cZ cT) (fun (r : Int32) (u : Int32 × Int32 × Int32 × Int32 × Int32 × (Nat → Int32) × (Nat → Int32) × (Nat → Int32) × (Nat → Int32)) => (r, u) = res) (fun u => [oX6 q (qr 0) (qm 0) (qs 0) (qt 0) (qro 0) (qto 0) (qw 0) v_asked, oX4 qm m_cornerCount m_streetCount m_guideCount m_bellCount m_hand m_handTold, rA (qm 8) cI 9 m_ends, rA (qm 9) cI 9 m_farEnds, rA (qm 10) cI 9 m_lengths, rA (qm 15) cI 8 m_bells, oX1 qt u.1 u.2.1 u.2.2.1 u.2.2.2.1 u.2.2.2.2.1, rA (qt 6) cI 10 u.2.2.2.2.2.1, rA (qt 7) cI 10 u.2.2.2.2.2.2.1, rA (qt 8) cI 10 u.2.2.2.2.2.2.2.1, rA (qt 9) cI 10 u.2.2.2.2.2.2.2.2]) [oX6 q (qr 0) (qm 0) (qs 0) (qt 0) (qro 0) (qto 0) (qw 0) v_asked, oX4 qm m_cornerCount m_streetCount m_guideCount m_bellCount m_hand m_handTold, rA (qm 8) cI 9 m_ends, rA (qm 9) cI 9 m_farEnds, rA (qm 10) cI 9 m_lengths, rA (qm 15) cI 8 m_bells, oX1 qt t_corner t_minute t_paid t_leader t_undoable, rA (qt 6) cI 10 t_corners, rA (qt 7) cI 10 t_minutes, rA (qt 8) cI 10 t_paids, rA (qt 9) cI 10 t_leaders] sz) 0 0 (va_A [oX6 q (qr 0) (qm 0) (qs 0) (qt 0) (qro 0) (qto 0) (qw 0) v_asked, oX4 qm m_cornerCount m_streetCount m_guideCount m_bellCount m_hand m_handTold, rA (qm 8) cI 9 m_ends, rA (qm 9) cI 9 m_farEnds, rA (qm 10) cI 9 m_lengths, rA (qm 15) cI 8 m_bells, oX1 qt t_corner t_minute t_paid t_leader t_undoable, rA (qt 6) cI 10 t_corners, rA (qt 7) cI 10 t_minutes, rA (qt 8) cI 10 t_paids, rA (qt 9) cI 10 t_leaders] sz) := by
  refine vx_meth_i (by decide) rfl (Nat.le_of_ble_eq_true rfl) ?_
  intro p e s m args below meth c A Q hx hb hml hown hts hK hP hD hA hS hret ls hl
  have hown : s.vm.findClass RX6 = some m.cls := hown
  have hl : lv_has ls 2 [(0, .ref (q 0)), (1, .int x1)] := hl
  have hFx : CallFix p m c cX6_alone 2 s args wsX6_alone RX6 := ⟨hx, hb, hml, hown, hts⟩
  have lk19 := hts (.fieldLink RX6 19 "FogGuides" "map" "LFogGuides$TownMap;") (by decide +kernel)
  have iw6 : ∀ w ∈ u_ws RX6 TX6 10, w ∈ wsX6_alone := by decide +kernel
  have lk29 := hts (.fieldLink RX6 29 "FogGuides" "tale" "LFogGuides$Tale;") (by decide +kernel)
  have lk133 := hts (.fieldLink RX6 133 "FogGuides$Tale" "corner" "I") (by decide +kernel)
  have iw1 : ∀ w ∈ u_ws RX1 TX1 9, w ∈ wsX6_alone := by decide +kernel
  have lk103 := hts (.fieldLink RX6 103 "FogGuides$TownMap" "lengths" "[I") (by decide +kernel)
  have iw4 : ∀ w ∈ u_ws RX4 TX4 15, w ∈ wsX6_alone := by decide +kernel
  have h := hf
  unfold f_X6_alone at h
  obtain ⟨H, eH⟩ : ∃ H, H = s.heap := ⟨_, rfl⟩
  rw [← eH] at hP ⊢
  obtain ⟨locs, el⟩ : ∃ locs : List Loc, locs = [] := ⟨_, rfl⟩
  rw [← el] at hS ⊢
  have hS : va_S A s.heap H locs := by rw [eH]; exact hS
  refine lv_aload_n hx hb dX6_alone_0 rfl (lv_at hl 0 rfl) ?_
  refine va_get (C := RX6) (T := TX6) (N := 10) (v := .ref (qm 0)) hx hb hts iw6 hown hK hP 0 rfl rfl 1 (Nat.le_of_ble_eq_true rfl) lk19 (fun _ h9 => h9) rfl dX6_alone_1 ?_
  refine lv_iload_n hx hb dX6_alone_4 rfl (lv_at hl 1 rfl) ?_
  obtain ⟨r1, hr1, h⟩ := xk_some h
  refine vx_VJ (As := [.int x1]) (rest := []) hFx (k_X4_hasStreet l D cI cZ cT qm H.size m_cornerCount m_streetCount m_guideCount m_bellCount m_hand m_handTold x1 r1 hr1) (cwV 1 hts gX6_alone_X4_hasStreet rfl rfl rfl (by decide +kernel) ⟨Nat.le_of_ble_eq_true rfl, Nat.le_of_ble_eq_true rfl⟩) hK hP hD hS hA [1] rfl rfl 4 0 rfl rfl rfl hl.1 rfl (Nat.le_of_ble_eq_true rfl) dX6_alone_5 ⟨Nat.zero_le _, Nat.zero_le _⟩ (fun H locs hP hS => ?_)
  refine lv_if_ne (tgt := 13) hx hb dX6_alone_8 (by decide) (fun c2 => ?_) (fun c2 => ?_)
  · have h := (if_neg c2).symm.trans h
    refine lv_aload_n hx hb dX6_alone_13 rfl (lv_at hl 0 rfl) ?_
    refine lv_iload_n hx hb dX6_alone_14 rfl (lv_at hl 1 rfl) ?_
    obtain ⟨r3, hr3, h⟩ := xk_some h
    refine vx_VJ (As := [.int x1]) (rest := []) hFx (k_X6_mayWalkAlone l D cI cZ cT q qr qm qs qt qro qto qw qi0 qi1 H.size v_asked m_cornerCount m_streetCount m_guideCount m_bellCount m_hand m_handTold t_corner t_minute t_paid t_leader t_undoable m_ends m_farEnds m_lengths m_bells x1 r3 fu hr3) (cwV 1 hts gX6_alone_X6_mayWalkAlone rfl rfl rfl (by decide +kernel) ⟨Nat.le_of_ble_eq_true rfl, Nat.le_of_ble_eq_true rfl⟩) hK hP hD hS hA [0, 1, 2, 3, 4, 5, 6] rfl rfl 6 0 rfl rfl rfl hl.1 rfl (Nat.le_of_ble_eq_true rfl) dX6_alone_15 ⟨Nat.zero_le _, Nat.zero_le _⟩ (fun H locs hP hS => ?_)
    refine lv_if_ne (tgt := 24) hx hb dX6_alone_18 (by decide) (fun c4 => ?_) (fun c4 => ?_)
    · have h := (if_neg c4).symm.trans h
      refine lv_aload_n hx hb dX6_alone_24 rfl (lv_at hl 0 rfl) ?_
      refine va_get (C := RX6) (T := TX6) (N := 10) (v := .ref (qt 0)) hx hb hts iw6 hown hK hP 0 rfl rfl 3 (Nat.le_of_ble_eq_true rfl) lk29 (fun _ h9 => h9) rfl dX6_alone_25 ?_
      refine lv_aload_n hx hb dX6_alone_28 rfl (lv_at hl 0 rfl) ?_
      refine va_get (C := RX6) (T := TX6) (N := 10) (v := .ref (qm 0)) hx hb hts iw6 hown hK hP 0 rfl rfl 1 (Nat.le_of_ble_eq_true rfl) lk19 (fun _ h9 => h9) rfl dX6_alone_29 ?_
      refine lv_iload_n hx hb dX6_alone_32 rfl (lv_at hl 1 rfl) ?_
      refine lv_aload_n hx hb dX6_alone_33 rfl (lv_at hl 0 rfl) ?_
      refine va_get (C := RX6) (T := TX6) (N := 10) (v := .ref (qt 0)) hx hb hts iw6 hown hK hP 0 rfl rfl 3 (Nat.le_of_ble_eq_true rfl) lk29 (fun _ h9 => h9) rfl dX6_alone_34 ?_
      refine va_get (C := RX1) (T := TX1) (N := 9) (v := .int t_corner) hx hb hts iw1 hown hK hP 6 rfl rfl 0 (Nat.le_of_ble_eq_true rfl) lk133 (fun _ h9 => h9) rfl dX6_alone_37 ?_
      obtain ⟨r5, hr5, h⟩ := xk_some h
      refine vx_VJ (As := [.int x1, .int t_corner]) (rest := [.ref (qt 0)]) hFx (k_X4_acrossFrom l D cI cZ cT qm H.size m_cornerCount m_streetCount m_guideCount m_bellCount m_hand m_handTold m_ends m_farEnds x1 t_corner r5 hr5) (cwV 2 hts gX6_alone_X4_acrossFrom rfl rfl rfl (by decide +kernel) ⟨Nat.le_of_ble_eq_true rfl, Nat.le_of_ble_eq_true rfl⟩) hK hP hD hS hA [1, 2, 3] rfl rfl 4 0 rfl rfl rfl hl.1 rfl (Nat.le_of_ble_eq_true rfl) dX6_alone_40 ⟨Nat.zero_le _, Nat.zero_le _⟩ (fun H locs hP hS => ?_)
      refine lv_aload_n hx hb dX6_alone_43 rfl (lv_at hl 0 rfl) ?_
      refine va_get (C := RX6) (T := TX6) (N := 10) (v := .ref (qm 0)) hx hb hts iw6 hown hK hP 0 rfl rfl 1 (Nat.le_of_ble_eq_true rfl) lk19 (fun _ h9 => h9) rfl dX6_alone_44 ?_
      refine va_get (C := RX4) (T := TX4) (N := 15) (v := .ref (qm 10)) hx hb hts iw4 hown hK hP 1 rfl rfl 9 (Nat.le_of_ble_eq_true rfl) lk103 (fun _ h9 => h9) rfl dX6_alone_47 ?_
      refine lv_iload_n hx hb dX6_alone_50 rfl (lv_at hl 1 rfl) ?_
      obtain ⟨hi6, h⟩ := xb_some h
      refine va_iald hx hb hK hP 4 0 rfl rfl hi6 dX6_alone_51 ?_
      refine lv_iconst (v := 0) hx hb dX6_alone_52 (by decide) ?_
      refine lv_bipush (v := (-9)) hx hb dX6_alone_53 (by decide) ?_
      obtain ⟨r7, hr7, h⟩ := xk_some h
      refine vx_VV (As := [.int r5, .int (m_lengths x1.toNatClampNeg), .int (0 : Int32), .int (-9 : Int32)]) (rest := []) (wr := [oX6 q (qr 0) (qm 0) (qs 0) (qt 0) (qro 0) (qto 0) (qw 0) v_asked, oX4 qm m_cornerCount m_streetCount m_guideCount m_bellCount m_hand m_handTold, rA (qm 8) cI 9 m_ends, rA (qm 9) cI 9 m_farEnds, rA (qm 10) cI 9 m_lengths, rA (qm 15) cI 8 m_bells]) (wn := [oX6 q (qr 0) (qm 0) (qs 0) (qt 0) (qro 0) (qto 0) (qw 0) v_asked, oX4 qm m_cornerCount m_streetCount m_guideCount m_bellCount m_hand m_handTold, rA (qm 8) cI 9 m_ends, rA (qm 9) cI 9 m_farEnds, rA (qm 10) cI 9 m_lengths, rA (qm 15) cI 8 m_bells, oX1 qt r7.1 r7.2.1 r7.2.2.1 r7.2.2.2.1 r7.2.2.2.2.1, rA (qt 6) cI 10 r7.2.2.2.2.2.1, rA (qt 7) cI 10 r7.2.2.2.2.2.2.1, rA (qt 8) cI 10 r7.2.2.2.2.2.2.2.1, rA (qt 9) cI 10 r7.2.2.2.2.2.2.2.2]) hFx (k_X1_step l D cI cZ cT qt H.size t_corner t_minute t_paid t_leader t_undoable t_corners t_minutes t_paids t_leaders r5 (m_lengths x1.toNatClampNeg) (0 : Int32) (-9 : Int32) r7 hr7) (cwV 4 hts gX6_alone_X1_step rfl rfl rfl (by decide +kernel) ⟨Nat.le_of_ble_eq_true rfl, Nat.le_of_ble_eq_true rfl⟩) hK hP hD hS hA [6, 7, 8, 9, 10] [0, 1, 2, 3, 4, 5] [0, 1, 2, 3, 4, 5, 6, 7, 8, 9, 10] rfl rfl rfl rfl (by decide) rfl rfl 1 0 rfl rfl rfl hl.1 rfl (Nat.le_of_ble_eq_true rfl) dX6_alone_55 ⟨Nat.zero_le _, Nat.zero_le _⟩ (fun H locs hP hD hS => ?_)
      refine lv_aload_n hx hb dX6_alone_58 rfl (lv_at hl 0 rfl) ?_
      refine va_get (C := RX6) (T := TX6) (N := 10) (v := .ref (qt 0)) hx hb hts iw6 hown hK hP 0 rfl rfl 3 (Nat.le_of_ble_eq_true rfl) lk29 (fun _ h9 => h9) rfl dX6_alone_59 ?_
      refine va_get (C := RX1) (T := TX1) (N := 9) (v := .int r7.1) hx hb hts iw1 hown hK hP 6 rfl rfl 0 (Nat.le_of_ble_eq_true rfl) lk133 (fun _ h9 => h9) rfl dX6_alone_62 ?_
      exact hret r7.1 (r7.1, r7.2.1, r7.2.2.1, r7.2.2.2.1, r7.2.2.2.2.1, r7.2.2.2.2.2.1, r7.2.2.2.2.2.2.1, r7.2.2.2.2.2.2.2.1, r7.2.2.2.2.2.2.2.2) H locs _ ls (Option.some.inj h) hP hD hS dX6_alone_65
    · have h := (if_pos c4).symm.trans h
      refine lv_bipush (v := (-2)) hx hb dX6_alone_21 (by decide) ?_
      exact hret (-2 : Int32) (t_corner, t_minute, t_paid, t_leader, t_undoable, t_corners, t_minutes, t_paids, t_leaders) H locs _ ls (Option.some.inj h) hP hD hS dX6_alone_23
  · have h := (if_pos c2).symm.trans h
    refine lv_iconst (v := (-1)) hx hb dX6_alone_11 (by decide) ?_
    exact hret (-1 : Int32) (t_corner, t_minute, t_paid, t_leader, t_undoable, t_corners, t_minutes, t_paids, t_leaders) H locs _ ls (Option.some.inj h) hP hD hS dX6_alone_12
abbrev rm_X6_waits : Room := { frames := 4, cells := 0, slots := 0, locals := 128 }
set_option maxHeartbeats 4000000 in
set_option maxRecDepth 100000 in
theorem k_X6_waits (l : Launch) (D : va_G) (cI cZ cT : ClassId) (q : Nat → Nat) (qr : Nat → Nat) (qm : Nat → Nat) (qs : Nat → Nat) (qt : Nat → Nat) (qro : Nat → Nat) (qto : Nat → Nat) (qw : Nat → Nat) (qi0 : Nat → Nat) (qi1 : Nat → Nat) (sz : Nat) (v_asked : Int64) (t_corner : Int32) (t_minute : Int32) (t_paid : Int32) (t_leader : Int32) (t_undoable : Int32) (t_corners : Nat → Int32) (t_minutes : Nat → Int32) (t_paids : Nat → Int32) (t_leaders : Nat → Int32) (x1 : Int32) (res : R_X6_waits) (hf : f_X6_waits t_corner t_minute t_paid t_leader t_undoable t_corners t_minutes t_paids t_leaders x1 = some res) : Met l yX6_waits wsX6_waits rm_X6_waits (cPre D (tyz cI cZ cT) [.ref (q 0), .int x1] sz [oX6 q (qr 0) (qm 0) (qs 0) (qt 0) (qro 0) (qto 0) (qw 0) v_asked, oX1 qt t_corner t_minute t_paid t_leader t_undoable, rA (qt 6) cI 10 t_corners, rA (qt 7) cI 10 t_minutes, rA (qt 8) cI 10 t_paids, rA (qt 9) cI 10 t_leaders]) (cPi D (tyz cI cZ cT) (fun (r : Int32) (u : Int32 × Int32 × Int32 × Int32 × Int32 × (Nat → Int32) × (Nat → Int32) × (Nat → Int32) × (Nat → Int32)) => (r, u) = res) (fun u => [oX6 q (qr 0) (qm 0) (qs 0) (qt 0) (qro 0) (qto 0) (qw 0) v_asked, oX1 qt u.1 u.2.1 u.2.2.1 u.2.2.2.1 u.2.2.2.2.1, rA (qt 6) cI 10 u.2.2.2.2.2.1, rA (qt 7) cI 10 u.2.2.2.2.2.2.1, rA (qt 8) cI 10 u.2.2.2.2.2.2.2.1, rA (qt 9) cI 10 u.2.2.2.2.2.2.2.2]) [oX6 q (qr 0) (qm 0) (qs 0) (qt 0) (qro 0) (qto 0) (qw 0) v_asked, oX1 qt t_corner t_minute t_paid t_leader t_undoable, rA (qt 6) cI 10 t_corners, rA (qt 7) cI 10 t_minutes, rA (qt 8) cI 10 t_paids, rA (qt 9) cI 10 t_leaders] sz) 0 0 (va_A [oX6 q (qr 0) (qm 0) (qs 0) (qt 0) (qro 0) (qto 0) (qw 0) v_asked, oX1 qt t_corner t_minute t_paid t_leader t_undoable, rA (qt 6) cI 10 t_corners, rA (qt 7) cI 10 t_minutes, rA (qt 8) cI 10 t_paids, rA (qt 9) cI 10 t_leaders] sz) := by
  refine vx_meth_i (by decide) rfl (Nat.le_of_ble_eq_true rfl) ?_
  intro p e s m args below meth c A Q hx hb hml hown hts hK hP hD hA hS hret ls hl
  have hown : s.vm.findClass RX6 = some m.cls := hown
  have hl : lv_has ls 2 [(0, .ref (q 0)), (1, .int x1)] := hl
  have hFx : CallFix p m c cX6_waits 2 s args wsX6_waits RX6 := ⟨hx, hb, hml, hown, hts⟩
  have lk29 := hts (.fieldLink RX6 29 "FogGuides" "tale" "LFogGuides$Tale;") (by decide +kernel)
  have iw6 : ∀ w ∈ u_ws RX6 TX6 10, w ∈ wsX6_waits := by decide +kernel
  have lk140 := hts (.fieldLink RX6 140 "FogGuides$Tale" "minute" "I") (by decide +kernel)
  have iw1 : ∀ w ∈ u_ws RX1 TX1 9, w ∈ wsX6_waits := by decide +kernel
  have lk133 := hts (.fieldLink RX6 133 "FogGuides$Tale" "corner" "I") (by decide +kernel)
  have lk127 := hts (.fieldLink RX6 127 "FogGuides$Tale" "leader" "I") (by decide +kernel)
  have h := hf
  unfold f_X6_waits at h
  obtain ⟨H, eH⟩ : ∃ H, H = s.heap := ⟨_, rfl⟩
  rw [← eH] at hP ⊢
  obtain ⟨locs, el⟩ : ∃ locs : List Loc, locs = [] := ⟨_, rfl⟩
  rw [← el] at hS ⊢
  have hS : va_S A s.heap H locs := by rw [eH]; exact hS
  refine lv_iload_n hx hb dX6_waits_0 rfl (lv_at hl 1 rfl) ?_
  refine lv_iconst (v := 1) hx hb dX6_waits_1 (by decide) ?_
  refine lv_icmp_lt (tgt := 11) hx hb dX6_waits_2 (by decide) (fun c1 => ?_) (fun c1 => ?_)
  · have h := (if_pos c1).symm.trans h
    refine lv_iconst (v := (-1)) hx hb dX6_waits_11 (by decide) ?_
    exact hret (-1 : Int32) (t_corner, t_minute, t_paid, t_leader, t_undoable, t_corners, t_minutes, t_paids, t_leaders) H locs _ ls (Option.some.inj h) hP hD hS dX6_waits_12
  · have h := (if_neg c1).symm.trans h
    refine lv_iload_n hx hb dX6_waits_5 rfl (lv_at hl 1 rfl) ?_
    refine lv_bipush (v := 99) hx hb dX6_waits_6 (by decide) ?_
    refine lv_icmp_le (tgt := 13) hx hb dX6_waits_8 (by decide) (fun c2 => ?_) (fun c2 => ?_)
    · have h := (if_pos c2).symm.trans h
      refine lv_aload_n hx hb dX6_waits_13 rfl (lv_at hl 0 rfl) ?_
      refine va_get (C := RX6) (T := TX6) (N := 10) (v := .ref (qt 0)) hx hb hts iw6 hown hK hP 0 rfl rfl 3 (Nat.le_of_ble_eq_true rfl) lk29 (fun _ h9 => h9) rfl dX6_waits_14 ?_
      refine va_get (C := RX1) (T := TX1) (N := 9) (v := .int t_minute) hx hb hts iw1 hown hK hP 1 rfl rfl 1 (Nat.le_of_ble_eq_true rfl) lk140 (fun _ h9 => h9) rfl dX6_waits_17 ?_
      refine lv_iload_n hx hb dX6_waits_20 rfl (lv_at hl 1 rfl) ?_
      refine lv_iadd hx hb dX6_waits_21 ?_
      refine lv_sipush (v := 9999) hx hb dX6_waits_22 (by decide) ?_
      refine lv_icmp_le (tgt := 31) hx hb dX6_waits_25 (by decide) (fun c3 => ?_) (fun c3 => ?_)
      · have h := (if_pos c3).symm.trans h
        refine lv_aload_n hx hb dX6_waits_31 rfl (lv_at hl 0 rfl) ?_
        refine va_get (C := RX6) (T := TX6) (N := 10) (v := .ref (qt 0)) hx hb hts iw6 hown hK hP 0 rfl rfl 3 (Nat.le_of_ble_eq_true rfl) lk29 (fun _ h9 => h9) rfl dX6_waits_32 ?_
        refine lv_aload_n hx hb dX6_waits_35 rfl (lv_at hl 0 rfl) ?_
        refine va_get (C := RX6) (T := TX6) (N := 10) (v := .ref (qt 0)) hx hb hts iw6 hown hK hP 0 rfl rfl 3 (Nat.le_of_ble_eq_true rfl) lk29 (fun _ h9 => h9) rfl dX6_waits_36 ?_
        refine va_get (C := RX1) (T := TX1) (N := 9) (v := .int t_corner) hx hb hts iw1 hown hK hP 1 rfl rfl 0 (Nat.le_of_ble_eq_true rfl) lk133 (fun _ h9 => h9) rfl dX6_waits_39 ?_
        refine lv_iload_n hx hb dX6_waits_42 rfl (lv_at hl 1 rfl) ?_
        refine lv_iconst (v := 0) hx hb dX6_waits_43 (by decide) ?_
        refine lv_aload_n hx hb dX6_waits_44 rfl (lv_at hl 0 rfl) ?_
        refine va_get (C := RX6) (T := TX6) (N := 10) (v := .ref (qt 0)) hx hb hts iw6 hown hK hP 0 rfl rfl 3 (Nat.le_of_ble_eq_true rfl) lk29 (fun _ h9 => h9) rfl dX6_waits_45 ?_
        refine va_get (C := RX1) (T := TX1) (N := 9) (v := .int t_leader) hx hb hts iw1 hown hK hP 1 rfl rfl 3 (Nat.le_of_ble_eq_true rfl) lk127 (fun _ h9 => h9) rfl dX6_waits_48 ?_
        obtain ⟨r4, hr4, h⟩ := xk_some h
        refine vx_VV (As := [.int t_corner, .int x1, .int (0 : Int32), .int t_leader]) (rest := []) (wr := [oX6 q (qr 0) (qm 0) (qs 0) (qt 0) (qro 0) (qto 0) (qw 0) v_asked]) (wn := [oX6 q (qr 0) (qm 0) (qs 0) (qt 0) (qro 0) (qto 0) (qw 0) v_asked, oX1 qt r4.1 r4.2.1 r4.2.2.1 r4.2.2.2.1 r4.2.2.2.2.1, rA (qt 6) cI 10 r4.2.2.2.2.2.1, rA (qt 7) cI 10 r4.2.2.2.2.2.2.1, rA (qt 8) cI 10 r4.2.2.2.2.2.2.2.1, rA (qt 9) cI 10 r4.2.2.2.2.2.2.2.2]) hFx (k_X1_step l D cI cZ cT qt H.size t_corner t_minute t_paid t_leader t_undoable t_corners t_minutes t_paids t_leaders t_corner x1 (0 : Int32) t_leader r4 hr4) (cwV 4 hts gX6_waits_X1_step rfl rfl rfl (by decide +kernel) ⟨Nat.le_of_ble_eq_true rfl, Nat.le_of_ble_eq_true rfl⟩) hK hP hD hS hA [1, 2, 3, 4, 5] [0] [0, 1, 2, 3, 4, 5] rfl rfl rfl rfl (by decide) rfl rfl 1 0 rfl rfl rfl hl.1 rfl (Nat.le_of_ble_eq_true rfl) dX6_waits_51 ⟨Nat.zero_le _, Nat.zero_le _⟩ (fun H locs hP hD hS => ?_)
        refine lv_aload_n hx hb dX6_waits_54 rfl (lv_at hl 0 rfl) ?_
        refine va_get (C := RX6) (T := TX6) (N := 10) (v := .ref (qt 0)) hx hb hts iw6 hown hK hP 0 rfl rfl 3 (Nat.le_of_ble_eq_true rfl) lk29 (fun _ h9 => h9) rfl dX6_waits_55 ?_
        refine va_get (C := RX1) (T := TX1) (N := 9) (v := .int r4.2.1) hx hb hts iw1 hown hK hP 1 rfl rfl 1 (Nat.le_of_ble_eq_true rfl) lk140 (fun _ h9 => h9) rfl dX6_waits_58 ?_
        exact hret r4.2.1 (r4.1, r4.2.1, r4.2.2.1, r4.2.2.2.1, r4.2.2.2.2.1, r4.2.2.2.2.2.1, r4.2.2.2.2.2.2.1, r4.2.2.2.2.2.2.2.1, r4.2.2.2.2.2.2.2.2) H locs _ ls (Option.some.inj h) hP hD hS dX6_waits_61
      · have h := (if_neg c3).symm.trans h
        refine lv_bipush (v := (-2)) hx hb dX6_waits_28 (by decide) ?_
        exact hret (-2 : Int32) (t_corner, t_minute, t_paid, t_leader, t_undoable, t_corners, t_minutes, t_paids, t_leaders) H locs _ ls (Option.some.inj h) hP hD hS dX6_waits_30
    · have h := (if_neg c2).symm.trans h
      refine lv_iconst (v := (-1)) hx hb dX6_waits_11 (by decide) ?_
      exact hret (-1 : Int32) (t_corner, t_minute, t_paid, t_leader, t_undoable, t_corners, t_minutes, t_paids, t_leaders) H locs _ ls (Option.some.inj h) hP hD hS dX6_waits_12
abbrev rm_X6_undo : Room := { frames := 1, cells := 0, slots := 0, locals := 20 }
set_option maxHeartbeats 4000000 in
set_option maxRecDepth 100000 in
theorem k_X6_undo (l : Launch) (D : va_G) (cI cZ cT : ClassId) (q : Nat → Nat) (qr : Nat → Nat) (qm : Nat → Nat) (qs : Nat → Nat) (qt : Nat → Nat) (qro : Nat → Nat) (qto : Nat → Nat) (qw : Nat → Nat) (qi0 : Nat → Nat) (qi1 : Nat → Nat) (sz : Nat) (v_asked : Int64) (t_corner : Int32) (t_minute : Int32) (t_paid : Int32) (t_leader : Int32) (t_undoable : Int32) (t_corners : Nat → Int32) (t_minutes : Nat → Int32) (t_paids : Nat → Int32) (t_leaders : Nat → Int32) (res : R_X6_undo) (hf : f_X6_undo t_corner t_minute t_paid t_leader t_undoable t_corners t_minutes t_paids t_leaders = some res) : Met l yX6_undo wsX6_undo rm_X6_undo (cPre D (tyz cI cZ cT) [.ref (q 0)] sz [oX6 q (qr 0) (qm 0) (qs 0) (qt 0) (qro 0) (qto 0) (qw 0) v_asked, oX1 qt t_corner t_minute t_paid t_leader t_undoable, rA (qt 6) cI 10 t_corners, rA (qt 7) cI 10 t_minutes, rA (qt 8) cI 10 t_paids, rA (qt 9) cI 10 t_leaders]) (cPi D (tyz cI cZ cT) (fun (r : Int32) (u : Int32 × Int32 × Int32 × Int32 × Int32) => (r, u) = res) (fun u => [oX6 q (qr 0) (qm 0) (qs 0) (qt 0) (qro 0) (qto 0) (qw 0) v_asked, oX1 qt u.1 u.2.1 u.2.2.1 u.2.2.2.1 u.2.2.2.2, rA (qt 6) cI 10 t_corners, rA (qt 7) cI 10 t_minutes, rA (qt 8) cI 10 t_paids, rA (qt 9) cI 10 t_leaders]) [oX6 q (qr 0) (qm 0) (qs 0) (qt 0) (qro 0) (qto 0) (qw 0) v_asked, oX1 qt t_corner t_minute t_paid t_leader t_undoable, rA (qt 6) cI 10 t_corners, rA (qt 7) cI 10 t_minutes, rA (qt 8) cI 10 t_paids, rA (qt 9) cI 10 t_leaders] sz) 0 0 (va_A [oX6 q (qr 0) (qm 0) (qs 0) (qt 0) (qro 0) (qto 0) (qw 0) v_asked, oX1 qt t_corner t_minute t_paid t_leader t_undoable, rA (qt 6) cI 10 t_corners, rA (qt 7) cI 10 t_minutes, rA (qt 8) cI 10 t_paids, rA (qt 9) cI 10 t_leaders] sz) := by
  refine vx_meth_i (by decide) rfl (Nat.le_of_ble_eq_true rfl) ?_
  intro p e s m args below meth c A Q hx hb hml hown hts hK hP hD hA hS hret ls hl
  have hown : s.vm.findClass RX6 = some m.cls := hown
  have hl : lv_has ls 1 [(0, .ref (q 0))] := hl
  have hFx : CallFix p m c cX6_undo 1 s args wsX6_undo RX6 := ⟨hx, hb, hml, hown, hts⟩
  have lk29 := hts (.fieldLink RX6 29 "FogGuides" "tale" "LFogGuides$Tale;") (by decide +kernel)
  have iw6 : ∀ w ∈ u_ws RX6 TX6 10, w ∈ wsX6_undo := by decide +kernel
  have lk160 := hts (.fieldLink RX6 160 "FogGuides$Tale" "undoable" "I") (by decide +kernel)
  have iw1 : ∀ w ∈ u_ws RX1 TX1 9, w ∈ wsX6_undo := by decide +kernel
  have h := hf
  unfold f_X6_undo at h
  obtain ⟨H, eH⟩ : ∃ H, H = s.heap := ⟨_, rfl⟩
  rw [← eH] at hP ⊢
  obtain ⟨locs, el⟩ : ∃ locs : List Loc, locs = [] := ⟨_, rfl⟩
  rw [← el] at hS ⊢
  have hS : va_S A s.heap H locs := by rw [eH]; exact hS
  refine lv_aload_n hx hb dX6_undo_0 rfl (lv_at hl 0 rfl) ?_
  refine va_get (C := RX6) (T := TX6) (N := 10) (v := .ref (qt 0)) hx hb hts iw6 hown hK hP 0 rfl rfl 3 (Nat.le_of_ble_eq_true rfl) lk29 (fun _ h9 => h9) rfl dX6_undo_1 ?_
  obtain ⟨r1, hr1, h⟩ := xk_some h
  refine vx_VI (As := []) (rest := []) (wr := [oX6 q (qr 0) (qm 0) (qs 0) (qt 0) (qro 0) (qto 0) (qw 0) v_asked]) (wn := [oX6 q (qr 0) (qm 0) (qs 0) (qt 0) (qro 0) (qto 0) (qw 0) v_asked, oX1 qt r1.2.1 r1.2.2.1 r1.2.2.2.1 r1.2.2.2.2.1 r1.2.2.2.2.2, rA (qt 6) cI 10 t_corners, rA (qt 7) cI 10 t_minutes, rA (qt 8) cI 10 t_paids, rA (qt 9) cI 10 t_leaders]) hFx (k_X1_takeBack l D cI cZ cT qt H.size t_corner t_minute t_paid t_leader t_undoable t_corners t_minutes t_paids t_leaders r1 hr1) (cwV 0 hts gX6_undo_X1_takeBack rfl rfl rfl (by decide +kernel) ⟨Nat.le_of_ble_eq_true rfl, Nat.le_of_ble_eq_true rfl⟩) hK hP hD hS hA [1, 2, 3, 4, 5] [0] [0, 1, 2, 3, 4, 5] rfl rfl rfl rfl (by decide) rfl rfl 1 0 rfl rfl rfl hl.1 rfl (Nat.le_of_ble_eq_true rfl) dX6_undo_4 ⟨Nat.zero_le _, Nat.zero_le _⟩ (fun H locs hP hD hS => ?_)
  refine lv_if_eq (tgt := 20) hx hb dX6_undo_7 (by decide) (fun c2 => ?_) (fun c2 => ?_)
  · have h := (if_pos c2).symm.trans h
    refine lv_bipush (v := (-2)) hx hb dX6_undo_20 (by decide) ?_
    exact hret (-2 : Int32) (r1.2.1, r1.2.2.1, r1.2.2.2.1, r1.2.2.2.2.1, r1.2.2.2.2.2) H locs _ ls (Option.some.inj h) hP hD hS dX6_undo_22
  · have h := (if_neg c2).symm.trans h
    refine lv_aload_n hx hb dX6_undo_10 rfl (lv_at hl 0 rfl) ?_
    refine va_get (C := RX6) (T := TX6) (N := 10) (v := .ref (qt 0)) hx hb hts iw6 hown hK hP 0 rfl rfl 3 (Nat.le_of_ble_eq_true rfl) lk29 (fun _ h9 => h9) rfl dX6_undo_11 ?_
    refine va_get (C := RX1) (T := TX1) (N := 9) (v := .int r1.2.2.2.2.2) hx hb hts iw1 hown hK hP 1 rfl rfl 4 (Nat.le_of_ble_eq_true rfl) lk160 (fun _ h9 => h9) rfl dX6_undo_14 ?_
    refine lv_goto (tgt := 22) hx hb dX6_undo_17 (by decide) ?_
    exact hret r1.2.2.2.2.2 (r1.2.1, r1.2.2.1, r1.2.2.2.1, r1.2.2.2.2.1, r1.2.2.2.2.2) H locs _ ls (Option.some.inj h) hP hD hS dX6_undo_22
abbrev rm_X6_streetsOpen : Room := { frames := 3, cells := 0, slots := 0, locals := 66 }
set_option maxHeartbeats 4000000 in
set_option maxRecDepth 100000 in
theorem k_X6_streetsOpen (l : Launch) (D : va_G) (cI cZ cT : ClassId) (q : Nat → Nat) (qr : Nat → Nat) (qm : Nat → Nat) (qs : Nat → Nat) (qt : Nat → Nat) (qro : Nat → Nat) (qto : Nat → Nat) (qw : Nat → Nat) (qi0 : Nat → Nat) (qi1 : Nat → Nat) (sz : Nat) (v_asked : Int64) (m_cornerCount : Int32) (m_streetCount : Int32) (m_guideCount : Int32) (m_bellCount : Int32) (m_hand : Int32) (m_handTold : Int32) (t_corner : Int32) (t_minute : Int32) (t_paid : Int32) (t_leader : Int32) (t_undoable : Int32) (m_ends : Nat → Int32) (m_farEnds : Nat → Int32) (m_lengths : Nat → Int32) (m_paces : Nat → Int32) (m_fees : Nat → Int32) (m_knows : Nat → Int32) (m_bells : Nat → Int32) (res : R_X6_streetsOpen) (fu : Nat) (hf : f_X6_streetsOpen fu m_streetCount m_guideCount m_bellCount m_ends m_farEnds m_lengths m_paces m_fees m_knows m_bells t_corner t_minute t_paid t_leader = some res) : Met l yX6_streetsOpen wsX6_streetsOpen rm_X6_streetsOpen (cPre D (tyz cI cZ cT) [.ref (q 0)] sz [oX6 q (qr 0) (qm 0) (qs 0) (qt 0) (qro 0) (qto 0) (qw 0) v_asked, oX4 qm m_cornerCount m_streetCount m_guideCount m_bellCount m_hand m_handTold, rA (qm 8) cI 9 m_ends, rA (qm 9) cI 9 m_farEnds, rA (qm 10) cI 9 m_lengths, rA (qm 11) cI 4 m_paces, rA (qm 12) cI 4 m_fees, rA (qm 13) cI 4 m_knows, rA (qm 15) cI 8 m_bells, oX1 qt t_corner t_minute t_paid t_leader t_undoable]) (cPi D (tyz cI cZ cT) (fun (r : Int32) (_ : Unit) => r = res) (fun _ => [oX6 q (qr 0) (qm 0) (qs 0) (qt 0) (qro 0) (qto 0) (qw 0) v_asked, oX4 qm m_cornerCount m_streetCount m_guideCount m_bellCount m_hand m_handTold, rA (qm 8) cI 9 m_ends, rA (qm 9) cI 9 m_farEnds, rA (qm 10) cI 9 m_lengths, rA (qm 11) cI 4 m_paces, rA (qm 12) cI 4 m_fees, rA (qm 13) cI 4 m_knows, rA (qm 15) cI 8 m_bells, oX1 qt t_corner t_minute t_paid t_leader t_undoable]) [oX6 q (qr 0) (qm 0) (qs 0) (qt 0) (qro 0) (qto 0) (qw 0) v_asked, oX4 qm m_cornerCount m_streetCount m_guideCount m_bellCount m_hand m_handTold, rA (qm 8) cI 9 m_ends, rA (qm 9) cI 9 m_farEnds, rA (qm 10) cI 9 m_lengths, rA (qm 11) cI 4 m_paces, rA (qm 12) cI 4 m_fees, rA (qm 13) cI 4 m_knows, rA (qm 15) cI 8 m_bells, oX1 qt t_corner t_minute t_paid t_leader t_undoable] sz) 0 0 (va_A [oX6 q (qr 0) (qm 0) (qs 0) (qt 0) (qro 0) (qto 0) (qw 0) v_asked, oX4 qm m_cornerCount m_streetCount m_guideCount m_bellCount m_hand m_handTold, rA (qm 8) cI 9 m_ends, rA (qm 9) cI 9 m_farEnds, rA (qm 10) cI 9 m_lengths, rA (qm 11) cI 4 m_paces, rA (qm 12) cI 4 m_fees, rA (qm 13) cI 4 m_knows, rA (qm 15) cI 8 m_bells, oX1 qt t_corner t_minute t_paid t_leader t_undoable] sz) := by
  refine vx_meth_i (by decide) rfl (Nat.le_of_ble_eq_true rfl) ?_
  intro p e s m args below meth c A Q hx hb hml hown hts hK hP hD hA hS hret ls hl
  have hown : s.vm.findClass RX6 = some m.cls := hown
  have hl : lv_has ls 4 [(0, .ref (q 0))] := hl
  have hFx : CallFix p m c cX6_streetsOpen 4 s args wsX6_streetsOpen RX6 := ⟨hx, hb, hml, hown, hts⟩
  have lk19 := hts (.fieldLink RX6 19 "FogGuides" "map" "LFogGuides$TownMap;") (by decide +kernel)
  have iw6 : ∀ w ∈ u_ws RX6 TX6 10, w ∈ wsX6_streetsOpen := by decide +kernel
  have lk191 := hts (.fieldLink RX6 191 "FogGuides$TownMap" "streetCount" "I") (by decide +kernel)
  have iw4 : ∀ w ∈ u_ws RX4 TX4 15, w ∈ wsX6_streetsOpen := by decide +kernel
  have lk29 := hts (.fieldLink RX6 29 "FogGuides" "tale" "LFogGuides$Tale;") (by decide +kernel)
  have lk127 := hts (.fieldLink RX6 127 "FogGuides$Tale" "leader" "I") (by decide +kernel)
  have iw1 : ∀ w ∈ u_ws RX1 TX1 9, w ∈ wsX6_streetsOpen := by decide +kernel
  have hL22 : ∀ (n22 : Nat), ∀ (x1 : Int32) (x2 : Int32) (x3 : Int32) (H : Heap) (locs : List Loc) (ls : Array Slot), f_X6_streetsOpen_L22 fu n22 m_streetCount m_guideCount m_bellCount m_ends m_farEnds m_lengths m_paces m_fees m_knows m_bells t_corner t_minute t_paid t_leader x1 x2 x3 = some res → va_P D vwCl [oX6 q (qr 0) (qm 0) (qs 0) (qt 0) (qro 0) (qto 0) (qw 0) v_asked, oX4 qm m_cornerCount m_streetCount m_guideCount m_bellCount m_hand m_handTold, rA (qm 8) cI 9 m_ends, rA (qm 9) cI 9 m_farEnds, rA (qm 10) cI 9 m_lengths, rA (qm 11) cI 4 m_paces, rA (qm 12) cI 4 m_fees, rA (qm 13) cI 4 m_knows, rA (qm 15) cI 8 m_bells, oX1 qt t_corner t_minute t_paid t_leader t_undoable] H → va_D A [oX6 q (qr 0) (qm 0) (qs 0) (qt 0) (qro 0) (qto 0) (qw 0) v_asked, oX4 qm m_cornerCount m_streetCount m_guideCount m_bellCount m_hand m_handTold, rA (qm 8) cI 9 m_ends, rA (qm 9) cI 9 m_farEnds, rA (qm 10) cI 9 m_lengths, rA (qm 11) cI 4 m_paces, rA (qm 12) cI 4 m_fees, rA (qm 13) cI 4 m_knows, rA (qm 15) cI 8 m_bells, oX1 qt t_corner t_minute t_paid t_leader t_undoable] → va_S A s.heap H locs → lv_has ls 4 [(0, .ref (q 0)), (1, .int x1), (2, .int x2), (3, .int x3)] → W p l e rm_X6_streetsOpen s m args below meth c H locs 0 0 Q (F0 m 22 ls []) := by
    intro n22
    induction n22 with
    | zero =>
      intro x1 x2 x3 H locs ls h hP hD hS hl
      cases (show (none : Option R_X6_streetsOpen) = some res from h)
    | succ n22 ih22 =>
      have hJ56 : ∀ (x1 : Int32) (x2 : Int32) (x3 : Int32) (H : Heap) (locs : List Loc) (ls : Array Slot), f_X6_streetsOpen_J56 fu (f_X6_streetsOpen_L22 fu n22) m_streetCount m_guideCount m_bellCount m_ends m_farEnds m_lengths m_paces m_fees m_knows m_bells t_corner t_minute t_paid t_leader x1 x2 x3 = some res → va_P D vwCl [oX6 q (qr 0) (qm 0) (qs 0) (qt 0) (qro 0) (qto 0) (qw 0) v_asked, oX4 qm m_cornerCount m_streetCount m_guideCount m_bellCount m_hand m_handTold, rA (qm 8) cI 9 m_ends, rA (qm 9) cI 9 m_farEnds, rA (qm 10) cI 9 m_lengths, rA (qm 11) cI 4 m_paces, rA (qm 12) cI 4 m_fees, rA (qm 13) cI 4 m_knows, rA (qm 15) cI 8 m_bells, oX1 qt t_corner t_minute t_paid t_leader t_undoable] H → va_D A [oX6 q (qr 0) (qm 0) (qs 0) (qt 0) (qro 0) (qto 0) (qw 0) v_asked, oX4 qm m_cornerCount m_streetCount m_guideCount m_bellCount m_hand m_handTold, rA (qm 8) cI 9 m_ends, rA (qm 9) cI 9 m_farEnds, rA (qm 10) cI 9 m_lengths, rA (qm 11) cI 4 m_paces, rA (qm 12) cI 4 m_fees, rA (qm 13) cI 4 m_knows, rA (qm 15) cI 8 m_bells, oX1 qt t_corner t_minute t_paid t_leader t_undoable] → va_S A s.heap H locs → lv_has ls 4 [(0, .ref (q 0)), (1, .int x1), (2, .int x2), (3, .int x3)] → W p l e rm_X6_streetsOpen s m args below meth c H locs 0 0 Q (F0 m 56 ls []) := by
        intro x1 x2 x3 H locs ls h hP hD hS hl
        unfold f_X6_streetsOpen_J56 at h
        refine lv_iload_n hx hb dX6_streetsOpen_56 rfl (lv_at hl 2 rfl) ?_
        refine lv_iconst (v := 1) hx hb dX6_streetsOpen_57 (by decide) ?_
        refine lv_iload_n hx hb dX6_streetsOpen_58 rfl (lv_at hl 3 rfl) ?_
        refine lv_ishl hx hb dX6_streetsOpen_59 ?_
        refine lv_ior hx hb dX6_streetsOpen_60 ?_
        refine lv_istore_n (lv' := [(2, .int (x2 ||| ((1 : Int32) <<< (x3 &&& 31)))), (0, .ref (q 0)), (1, .int x1), (3, .int x3)]) hx hb dX6_streetsOpen_61 rfl hl (by decide) rfl (fun ls hl => ?_)
        refine lv_iinc (v := x3 + 1) (lv' := [(3, .int (x3 + 1)), (2, .int (x2 ||| ((1 : Int32) <<< (x3 &&& 31)))), (0, .ref (q 0)), (1, .int x1)]) hx hb dX6_streetsOpen_62 hl (k := 3) rfl rfl (by decide) rfl (fun ls hl => ?_)
        refine lv_goto (tgt := 22) hx hb dX6_streetsOpen_65 (by decide) ?_
        exact ih22 x1 (x2 ||| ((1 : Int32) <<< (x3 &&& 31))) (x3 + 1) H locs ls h hP hD hS (lv_sub hl [2, 3, 1, 0] rfl)
      intro x1 x2 x3 H locs ls h hP hD hS hl
      have h : f_X6_streetsOpen_L22b fu (f_X6_streetsOpen_L22 fu n22) m_streetCount m_guideCount m_bellCount m_ends m_farEnds m_lengths m_paces m_fees m_knows m_bells t_corner t_minute t_paid t_leader x1 x2 x3 = some res := h
      unfold f_X6_streetsOpen_L22b at h
      refine lv_iload_n hx hb dX6_streetsOpen_22 rfl (lv_at hl 3 rfl) ?_
      refine lv_aload_n hx hb dX6_streetsOpen_23 rfl (lv_at hl 0 rfl) ?_
      refine va_get (C := RX6) (T := TX6) (N := 10) (v := .ref (qm 0)) hx hb hts iw6 hown hK hP 0 rfl rfl 1 (Nat.le_of_ble_eq_true rfl) lk19 (fun _ h9 => h9) rfl dX6_streetsOpen_24 ?_
      refine va_get (C := RX4) (T := TX4) (N := 15) (v := .int m_streetCount) hx hb hts iw4 hown hK hP 1 rfl rfl 1 (Nat.le_of_ble_eq_true rfl) lk191 (fun _ h9 => h9) rfl dX6_streetsOpen_27 ?_
      refine lv_icmp_ge (tgt := 68) hx hb dX6_streetsOpen_30 (by decide) (fun c1 => ?_) (fun c1 => ?_)
      · have h := (if_pos c1).symm.trans h
        refine lv_iload_n hx hb dX6_streetsOpen_68 rfl (lv_at hl 2 rfl) ?_
        exact hret x2 () H locs _ ls (Option.some.inj h) hP hD hS dX6_streetsOpen_69
      · have h := (if_neg c1).symm.trans h
        refine lv_iload_n hx hb dX6_streetsOpen_33 rfl (lv_at hl 1 rfl) ?_
        refine lv_if_eq (tgt := 48) hx hb dX6_streetsOpen_34 (by decide) (fun c2 => ?_) (fun c2 => ?_)
        · have h := (if_pos c2).symm.trans h
          refine lv_aload_n hx hb dX6_streetsOpen_48 rfl (lv_at hl 0 rfl) ?_
          refine lv_iload_n hx hb dX6_streetsOpen_49 rfl (lv_at hl 3 rfl) ?_
          obtain ⟨r3, hr3, h⟩ := xk_some h
          refine vx_VJ (As := [.int x3]) (rest := []) hFx (k_X6_mayWalkAlone l D cI cZ cT q qr qm qs qt qro qto qw qi0 qi1 H.size v_asked m_cornerCount m_streetCount m_guideCount m_bellCount m_hand m_handTold t_corner t_minute t_paid t_leader t_undoable m_ends m_farEnds m_lengths m_bells x3 r3 fu hr3) (cwV 1 hts gX6_streetsOpen_X6_mayWalkAlone rfl rfl rfl (by decide +kernel) ⟨Nat.le_of_ble_eq_true rfl, Nat.le_of_ble_eq_true rfl⟩) hK hP hD hS hA [0, 1, 2, 3, 4, 8, 9] rfl rfl 6 0 rfl rfl rfl hl.1 rfl (Nat.le_of_ble_eq_true rfl) dX6_streetsOpen_50 ⟨Nat.zero_le _, Nat.zero_le _⟩ (fun H locs hP hS => ?_)
          refine lv_if_eq (tgt := 62) hx hb dX6_streetsOpen_53 (by decide) (fun c4 => ?_) (fun c4 => ?_)
          · have h := (if_pos c4).symm.trans h
            refine lv_iinc (v := x3 + 1) (lv' := [(3, .int (x3 + 1)), (0, .ref (q 0)), (1, .int x1), (2, .int x2)]) hx hb dX6_streetsOpen_62 hl (k := 3) rfl rfl (by decide) rfl (fun ls hl => ?_)
            refine lv_goto (tgt := 22) hx hb dX6_streetsOpen_65 (by decide) ?_
            exact ih22 x1 x2 (x3 + 1) H locs ls h hP hD hS (lv_sub hl [1, 2, 3, 0] rfl)
          · have h := (if_neg c4).symm.trans h
            exact hJ56 x1 x2 x3 H locs ls h hP hD hS (lv_sub hl [0, 1, 2, 3] rfl)
        · have h := (if_neg c2).symm.trans h
          refine lv_aload_n hx hb dX6_streetsOpen_37 rfl (lv_at hl 0 rfl) ?_
          refine lv_iload_n hx hb dX6_streetsOpen_38 rfl (lv_at hl 3 rfl) ?_
          obtain ⟨r5, hr5, h⟩ := xk_some h
          refine vx_VJ (As := [.int x3]) (rest := []) hFx (k_X6_mayBeLed l D cI cZ cT q qr qm qs qt qro qto qw qi0 qi1 H.size v_asked m_cornerCount m_streetCount m_guideCount m_bellCount m_hand m_handTold t_corner t_minute t_paid t_leader t_undoable m_ends m_farEnds m_lengths m_paces m_fees m_knows x3 r5 hr5) (cwV 1 hts gX6_streetsOpen_X6_mayBeLed rfl rfl rfl (by decide +kernel) ⟨Nat.le_of_ble_eq_true rfl, Nat.le_of_ble_eq_true rfl⟩) hK hP hD hS hA [0, 1, 2, 3, 4, 5, 6, 7, 9] rfl rfl 6 0 rfl rfl rfl hl.1 rfl (Nat.le_of_ble_eq_true rfl) dX6_streetsOpen_39 ⟨Nat.zero_le _, Nat.zero_le _⟩ (fun H locs hP hS => ?_)
          refine lv_if_eq (tgt := 62) hx hb dX6_streetsOpen_42 (by decide) (fun c6 => ?_) (fun c6 => ?_)
          · have h := (if_pos c6).symm.trans h
            refine lv_iinc (v := x3 + 1) (lv' := [(3, .int (x3 + 1)), (0, .ref (q 0)), (1, .int x1), (2, .int x2)]) hx hb dX6_streetsOpen_62 hl (k := 3) rfl rfl (by decide) rfl (fun ls hl => ?_)
            refine lv_goto (tgt := 22) hx hb dX6_streetsOpen_65 (by decide) ?_
            exact ih22 x1 x2 (x3 + 1) H locs ls h hP hD hS (lv_sub hl [1, 2, 3, 0] rfl)
          · have h := (if_neg c6).symm.trans h
            refine lv_goto (tgt := 56) hx hb dX6_streetsOpen_45 (by decide) ?_
            exact hJ56 x1 x2 x3 H locs ls h hP hD hS (lv_sub hl [0, 1, 2, 3] rfl)
  have h := hf
  unfold f_X6_streetsOpen at h
  obtain ⟨H, eH⟩ : ∃ H, H = s.heap := ⟨_, rfl⟩
  rw [← eH] at hP ⊢
  obtain ⟨locs, el⟩ : ∃ locs : List Loc, locs = [] := ⟨_, rfl⟩
  rw [← el] at hS ⊢
  have hS : va_S A s.heap H locs := by rw [eH]; exact hS
  refine lv_aload_n hx hb dX6_streetsOpen_0 rfl (lv_at hl 0 rfl) ?_
  refine va_get (C := RX6) (T := TX6) (N := 10) (v := .ref (qt 0)) hx hb hts iw6 hown hK hP 0 rfl rfl 3 (Nat.le_of_ble_eq_true rfl) lk29 (fun _ h9 => h9) rfl dX6_streetsOpen_1 ?_
  refine va_get (C := RX1) (T := TX1) (N := 9) (v := .int t_leader) hx hb hts iw1 hown hK hP 9 rfl rfl 3 (Nat.le_of_ble_eq_true rfl) lk127 (fun _ h9 => h9) rfl dX6_streetsOpen_4 ?_
  refine lv_bipush (v := (-9)) hx hb dX6_streetsOpen_7 (by decide) ?_
  refine lv_icmp_eq (tgt := 16) hx hb dX6_streetsOpen_9 (by decide) (fun c7 => ?_) (fun c7 => ?_)
  · have h := (if_pos c7).symm.trans h
    refine lv_iconst (v := 0) hx hb dX6_streetsOpen_16 (by decide) ?_
    refine lv_istore_n (lv' := [(1, .int (0 : Int32)), (0, .ref (q 0))]) hx hb dX6_streetsOpen_17 rfl hl (by decide) rfl (fun ls hl => ?_)
    refine lv_iconst (v := 0) hx hb dX6_streetsOpen_18 (by decide) ?_
    refine lv_istore_n (lv' := [(2, .int (0 : Int32)), (1, .int (0 : Int32)), (0, .ref (q 0))]) hx hb dX6_streetsOpen_19 rfl hl (by decide) rfl (fun ls hl => ?_)
    refine lv_iconst (v := 0) hx hb dX6_streetsOpen_20 (by decide) ?_
    refine lv_istore_n (lv' := [(3, .int (0 : Int32)), (2, .int (0 : Int32)), (1, .int (0 : Int32)), (0, .ref (q 0))]) hx hb dX6_streetsOpen_21 rfl hl (by decide) rfl (fun ls hl => ?_)
    exact hL22 fu (0 : Int32) (0 : Int32) (0 : Int32) H locs ls h hP hD hS (lv_sub hl [3, 2, 1, 0] rfl)
  · have h := (if_neg c7).symm.trans h
    refine lv_iconst (v := 1) hx hb dX6_streetsOpen_12 (by decide) ?_
    refine lv_goto (tgt := 17) hx hb dX6_streetsOpen_13 (by decide) ?_
    refine lv_istore_n (lv' := [(1, .int (1 : Int32)), (0, .ref (q 0))]) hx hb dX6_streetsOpen_17 rfl hl (by decide) rfl (fun ls hl => ?_)
    refine lv_iconst (v := 0) hx hb dX6_streetsOpen_18 (by decide) ?_
    refine lv_istore_n (lv' := [(2, .int (0 : Int32)), (1, .int (1 : Int32)), (0, .ref (q 0))]) hx hb dX6_streetsOpen_19 rfl hl (by decide) rfl (fun ls hl => ?_)
    refine lv_iconst (v := 0) hx hb dX6_streetsOpen_20 (by decide) ?_
    refine lv_istore_n (lv' := [(3, .int (0 : Int32)), (2, .int (0 : Int32)), (1, .int (1 : Int32)), (0, .ref (q 0))]) hx hb dX6_streetsOpen_21 rfl hl (by decide) rfl (fun ls hl => ?_)
    exact hL22 fu (1 : Int32) (0 : Int32) (0 : Int32) H locs ls h hP hD hS (lv_sub hl [3, 2, 1, 0] rfl)
abbrev rm_X6_guidesToHire : Room := { frames := 3, cells := 0, slots := 0, locals := 64 }
set_option maxHeartbeats 4000000 in
set_option maxRecDepth 100000 in
theorem k_X6_guidesToHire (l : Launch) (D : va_G) (cI cZ cT : ClassId) (q : Nat → Nat) (qr : Nat → Nat) (qm : Nat → Nat) (qs : Nat → Nat) (qt : Nat → Nat) (qro : Nat → Nat) (qto : Nat → Nat) (qw : Nat → Nat) (qi0 : Nat → Nat) (qi1 : Nat → Nat) (sz : Nat) (v_asked : Int64) (m_cornerCount : Int32) (m_streetCount : Int32) (m_guideCount : Int32) (m_bellCount : Int32) (m_hand : Int32) (m_handTold : Int32) (t_corner : Int32) (t_minute : Int32) (t_paid : Int32) (t_leader : Int32) (t_undoable : Int32) (m_his : Nat → Int32) (res : R_X6_guidesToHire) (fu : Nat) (hf : f_X6_guidesToHire fu m_cornerCount m_guideCount m_hand m_his t_corner t_minute t_leader = some res) : Met l yX6_guidesToHire wsX6_guidesToHire rm_X6_guidesToHire (cPre D (tyz cI cZ cT) [.ref (q 0)] sz [oX6 q (qr 0) (qm 0) (qs 0) (qt 0) (qro 0) (qto 0) (qw 0) v_asked, oX4 qm m_cornerCount m_streetCount m_guideCount m_bellCount m_hand m_handTold, rA (qm 14) cI 4 m_his, oX1 qt t_corner t_minute t_paid t_leader t_undoable]) (cPi D (tyz cI cZ cT) (fun (r : Int32) (_ : Unit) => r = res) (fun _ => [oX6 q (qr 0) (qm 0) (qs 0) (qt 0) (qro 0) (qto 0) (qw 0) v_asked, oX4 qm m_cornerCount m_streetCount m_guideCount m_bellCount m_hand m_handTold, rA (qm 14) cI 4 m_his, oX1 qt t_corner t_minute t_paid t_leader t_undoable]) [oX6 q (qr 0) (qm 0) (qs 0) (qt 0) (qro 0) (qto 0) (qw 0) v_asked, oX4 qm m_cornerCount m_streetCount m_guideCount m_bellCount m_hand m_handTold, rA (qm 14) cI 4 m_his, oX1 qt t_corner t_minute t_paid t_leader t_undoable] sz) 0 0 (va_A [oX6 q (qr 0) (qm 0) (qs 0) (qt 0) (qro 0) (qto 0) (qw 0) v_asked, oX4 qm m_cornerCount m_streetCount m_guideCount m_bellCount m_hand m_handTold, rA (qm 14) cI 4 m_his, oX1 qt t_corner t_minute t_paid t_leader t_undoable] sz) := by
  refine vx_meth_i (by decide) rfl (Nat.le_of_ble_eq_true rfl) ?_
  intro p e s m args below meth c A Q hx hb hml hown hts hK hP hD hA hS hret ls hl
  have hown : s.vm.findClass RX6 = some m.cls := hown
  have hl : lv_has ls 3 [(0, .ref (q 0))] := hl
  have hFx : CallFix p m c cX6_guidesToHire 3 s args wsX6_guidesToHire RX6 := ⟨hx, hb, hml, hown, hts⟩
  have lk19 := hts (.fieldLink RX6 19 "FogGuides" "map" "LFogGuides$TownMap;") (by decide +kernel)
  have iw6 : ∀ w ∈ u_ws RX6 TX6 10, w ∈ wsX6_guidesToHire := by decide +kernel
  have lk194 := hts (.fieldLink RX6 194 "FogGuides$TownMap" "guideCount" "I") (by decide +kernel)
  have iw4 : ∀ w ∈ u_ws RX4 TX4 15, w ∈ wsX6_guidesToHire := by decide +kernel
  have hL4 : ∀ (n4 : Nat), ∀ (x1 : Int32) (x2 : Int32) (H : Heap) (locs : List Loc) (ls : Array Slot), f_X6_guidesToHire_L4 fu n4 m_cornerCount m_guideCount m_hand m_his t_corner t_minute t_leader x1 x2 = some res → va_P D vwCl [oX6 q (qr 0) (qm 0) (qs 0) (qt 0) (qro 0) (qto 0) (qw 0) v_asked, oX4 qm m_cornerCount m_streetCount m_guideCount m_bellCount m_hand m_handTold, rA (qm 14) cI 4 m_his, oX1 qt t_corner t_minute t_paid t_leader t_undoable] H → va_D A [oX6 q (qr 0) (qm 0) (qs 0) (qt 0) (qro 0) (qto 0) (qw 0) v_asked, oX4 qm m_cornerCount m_streetCount m_guideCount m_bellCount m_hand m_handTold, rA (qm 14) cI 4 m_his, oX1 qt t_corner t_minute t_paid t_leader t_undoable] → va_S A s.heap H locs → lv_has ls 3 [(0, .ref (q 0)), (1, .int x1), (2, .int x2)] → W p l e rm_X6_guidesToHire s m args below meth c H locs 0 0 Q (F0 m 4 ls []) := by
    intro n4
    induction n4 with
    | zero =>
      intro x1 x2 H locs ls h hP hD hS hl
      cases (show (none : Option R_X6_guidesToHire) = some res from h)
    | succ n4 ih4 =>
      intro x1 x2 H locs ls h hP hD hS hl
      have h : f_X6_guidesToHire_L4b fu (f_X6_guidesToHire_L4 fu n4) m_cornerCount m_guideCount m_hand m_his t_corner t_minute t_leader x1 x2 = some res := h
      unfold f_X6_guidesToHire_L4b at h
      refine lv_iload_n hx hb dX6_guidesToHire_4 rfl (lv_at hl 2 rfl) ?_
      refine lv_aload_n hx hb dX6_guidesToHire_5 rfl (lv_at hl 0 rfl) ?_
      refine va_get (C := RX6) (T := TX6) (N := 10) (v := .ref (qm 0)) hx hb hts iw6 hown hK hP 0 rfl rfl 1 (Nat.le_of_ble_eq_true rfl) lk19 (fun _ h9 => h9) rfl dX6_guidesToHire_6 ?_
      refine va_get (C := RX4) (T := TX4) (N := 15) (v := .int m_guideCount) hx hb hts iw4 hown hK hP 1 rfl rfl 2 (Nat.le_of_ble_eq_true rfl) lk194 (fun _ h9 => h9) rfl dX6_guidesToHire_9 ?_
      refine lv_icmp_ge (tgt := 35) hx hb dX6_guidesToHire_12 (by decide) (fun c1 => ?_) (fun c1 => ?_)
      · have h := (if_pos c1).symm.trans h
        refine lv_iload_n hx hb dX6_guidesToHire_35 rfl (lv_at hl 1 rfl) ?_
        exact hret x1 () H locs _ ls (Option.some.inj h) hP hD hS dX6_guidesToHire_36
      · have h := (if_neg c1).symm.trans h
        refine lv_aload_n hx hb dX6_guidesToHire_15 rfl (lv_at hl 0 rfl) ?_
        refine lv_iload_n hx hb dX6_guidesToHire_16 rfl (lv_at hl 2 rfl) ?_
        obtain ⟨r2, hr2, h⟩ := xk_some h
        refine vx_VJ (As := [.int x2]) (rest := []) hFx (k_X6_mayHire l D cI cZ cT q qr qm qs qt qro qto qw qi0 qi1 H.size v_asked m_cornerCount m_streetCount m_guideCount m_bellCount m_hand m_handTold t_corner t_minute t_paid t_leader t_undoable m_his x2 r2 hr2) (cwV 1 hts gX6_guidesToHire_X6_mayHire rfl rfl rfl (by decide +kernel) ⟨Nat.le_of_ble_eq_true rfl, Nat.le_of_ble_eq_true rfl⟩) hK hP hD hS hA [0, 1, 2, 3] rfl rfl 6 0 rfl rfl rfl hl.1 rfl (Nat.le_of_ble_eq_true rfl) dX6_guidesToHire_17 ⟨Nat.zero_le _, Nat.zero_le _⟩ (fun H locs hP hS => ?_)
        refine lv_if_eq (tgt := 29) hx hb dX6_guidesToHire_20 (by decide) (fun c3 => ?_) (fun c3 => ?_)
        · have h := (if_pos c3).symm.trans h
          refine lv_iinc (v := x2 + 1) (lv' := [(2, .int (x2 + 1)), (0, .ref (q 0)), (1, .int x1)]) hx hb dX6_guidesToHire_29 hl (k := 2) rfl rfl (by decide) rfl (fun ls hl => ?_)
          refine lv_goto (tgt := 4) hx hb dX6_guidesToHire_32 (by decide) ?_
          exact ih4 x1 (x2 + 1) H locs ls h hP hD hS (lv_sub hl [1, 2, 0] rfl)
        · have h := (if_neg c3).symm.trans h
          refine lv_iload_n hx hb dX6_guidesToHire_23 rfl (lv_at hl 1 rfl) ?_
          refine lv_iconst (v := 1) hx hb dX6_guidesToHire_24 (by decide) ?_
          refine lv_iload_n hx hb dX6_guidesToHire_25 rfl (lv_at hl 2 rfl) ?_
          refine lv_ishl hx hb dX6_guidesToHire_26 ?_
          refine lv_ior hx hb dX6_guidesToHire_27 ?_
          refine lv_istore_n (lv' := [(1, .int (x1 ||| ((1 : Int32) <<< (x2 &&& 31)))), (0, .ref (q 0)), (2, .int x2)]) hx hb dX6_guidesToHire_28 rfl hl (by decide) rfl (fun ls hl => ?_)
          refine lv_iinc (v := x2 + 1) (lv' := [(2, .int (x2 + 1)), (1, .int (x1 ||| ((1 : Int32) <<< (x2 &&& 31)))), (0, .ref (q 0))]) hx hb dX6_guidesToHire_29 hl (k := 2) rfl rfl (by decide) rfl (fun ls hl => ?_)
          refine lv_goto (tgt := 4) hx hb dX6_guidesToHire_32 (by decide) ?_
          exact ih4 (x1 ||| ((1 : Int32) <<< (x2 &&& 31))) (x2 + 1) H locs ls h hP hD hS (lv_sub hl [2, 1, 0] rfl)
  have h := hf
  unfold f_X6_guidesToHire at h
  obtain ⟨H, eH⟩ : ∃ H, H = s.heap := ⟨_, rfl⟩
  rw [← eH] at hP ⊢
  obtain ⟨locs, el⟩ : ∃ locs : List Loc, locs = [] := ⟨_, rfl⟩
  rw [← el] at hS ⊢
  have hS : va_S A s.heap H locs := by rw [eH]; exact hS
  refine lv_iconst (v := 0) hx hb dX6_guidesToHire_0 (by decide) ?_
  refine lv_istore_n (lv' := [(1, .int (0 : Int32)), (0, .ref (q 0))]) hx hb dX6_guidesToHire_1 rfl hl (by decide) rfl (fun ls hl => ?_)
  refine lv_iconst (v := 0) hx hb dX6_guidesToHire_2 (by decide) ?_
  refine lv_istore_n (lv' := [(2, .int (0 : Int32)), (1, .int (0 : Int32)), (0, .ref (q 0))]) hx hb dX6_guidesToHire_3 rfl hl (by decide) rfl (fun ls hl => ?_)
  exact hL4 fu (0 : Int32) (0 : Int32) H locs ls h hP hD hS (lv_sub hl [2, 1, 0] rfl)
abbrev rm_X6_now : Room := { frames := 4, cells := 0, slots := 0, locals := 89 }
set_option maxHeartbeats 4000000 in
set_option maxRecDepth 100000 in
theorem k_X6_now (l : Launch) (D : va_G) (cI cZ cT : ClassId) (q : Nat → Nat) (qr : Nat → Nat) (qm : Nat → Nat) (qs : Nat → Nat) (qt : Nat → Nat) (qro : Nat → Nat) (qto : Nat → Nat) (qw : Nat → Nat) (qi0 : Nat → Nat) (qi1 : Nat → Nat) (sz : Nat) (v_asked : Int64) (m_cornerCount : Int32) (m_streetCount : Int32) (m_guideCount : Int32) (m_bellCount : Int32) (m_hand : Int32) (m_handTold : Int32) (t_corner : Int32) (t_minute : Int32) (t_paid : Int32) (t_leader : Int32) (t_undoable : Int32) (m_ends : Nat → Int32) (m_farEnds : Nat → Int32) (m_lengths : Nat → Int32) (m_paces : Nat → Int32) (m_fees : Nat → Int32) (m_knows : Nat → Int32) (m_his : Nat → Int32) (m_bells : Nat → Int32) (x1 : Int32) (res : R_X6_now) (fu : Nat) (hf : f_X6_now fu m_cornerCount m_streetCount m_guideCount m_bellCount m_hand m_ends m_farEnds m_lengths m_paces m_fees m_knows m_his m_bells t_corner t_minute t_paid t_leader x1 = some res) : Met l yX6_now wsX6_now rm_X6_now (cPre D (tyz cI cZ cT) [.ref (q 0), .int x1] sz [oX6 q (qr 0) (qm 0) (qs 0) (qt 0) (qro 0) (qto 0) (qw 0) v_asked, oX4 qm m_cornerCount m_streetCount m_guideCount m_bellCount m_hand m_handTold, rA (qm 8) cI 9 m_ends, rA (qm 9) cI 9 m_farEnds, rA (qm 10) cI 9 m_lengths, rA (qm 11) cI 4 m_paces, rA (qm 12) cI 4 m_fees, rA (qm 13) cI 4 m_knows, rA (qm 14) cI 4 m_his, rA (qm 15) cI 8 m_bells, oX1 qt t_corner t_minute t_paid t_leader t_undoable]) (cPi D (tyz cI cZ cT) (fun (r : Int32) (_ : Unit) => r = res) (fun _ => [oX6 q (qr 0) (qm 0) (qs 0) (qt 0) (qro 0) (qto 0) (qw 0) v_asked, oX4 qm m_cornerCount m_streetCount m_guideCount m_bellCount m_hand m_handTold, rA (qm 8) cI 9 m_ends, rA (qm 9) cI 9 m_farEnds, rA (qm 10) cI 9 m_lengths, rA (qm 11) cI 4 m_paces, rA (qm 12) cI 4 m_fees, rA (qm 13) cI 4 m_knows, rA (qm 14) cI 4 m_his, rA (qm 15) cI 8 m_bells, oX1 qt t_corner t_minute t_paid t_leader t_undoable]) [oX6 q (qr 0) (qm 0) (qs 0) (qt 0) (qro 0) (qto 0) (qw 0) v_asked, oX4 qm m_cornerCount m_streetCount m_guideCount m_bellCount m_hand m_handTold, rA (qm 8) cI 9 m_ends, rA (qm 9) cI 9 m_farEnds, rA (qm 10) cI 9 m_lengths, rA (qm 11) cI 4 m_paces, rA (qm 12) cI 4 m_fees, rA (qm 13) cI 4 m_knows, rA (qm 14) cI 4 m_his, rA (qm 15) cI 8 m_bells, oX1 qt t_corner t_minute t_paid t_leader t_undoable] sz) 0 0 (va_A [oX6 q (qr 0) (qm 0) (qs 0) (qt 0) (qro 0) (qto 0) (qw 0) v_asked, oX4 qm m_cornerCount m_streetCount m_guideCount m_bellCount m_hand m_handTold, rA (qm 8) cI 9 m_ends, rA (qm 9) cI 9 m_farEnds, rA (qm 10) cI 9 m_lengths, rA (qm 11) cI 4 m_paces, rA (qm 12) cI 4 m_fees, rA (qm 13) cI 4 m_knows, rA (qm 14) cI 4 m_his, rA (qm 15) cI 8 m_bells, oX1 qt t_corner t_minute t_paid t_leader t_undoable] sz) := by
  refine vx_meth_i (by decide) rfl (Nat.le_of_ble_eq_true rfl) ?_
  intro p e s m args below meth c A Q hx hb hml hown hts hK hP hD hA hS hret ls hl
  have hown : s.vm.findClass RX6 = some m.cls := hown
  have hl : lv_has ls 2 [(0, .ref (q 0)), (1, .int x1)] := hl
  have hFx : CallFix p m c cX6_now 2 s args wsX6_now RX6 := ⟨hx, hb, hml, hown, hts⟩
  have lk19 := hts (.fieldLink RX6 19 "FogGuides" "map" "LFogGuides$TownMap;") (by decide +kernel)
  have iw6 : ∀ w ∈ u_ws RX6 TX6 10, w ∈ wsX6_now := by decide +kernel
  have lk163 := hts (.fieldLink RX6 163 "FogGuides$TownMap" "cornerCount" "I") (by decide +kernel)
  have iw4 : ∀ w ∈ u_ws RX4 TX4 15, w ∈ wsX6_now := by decide +kernel
  have lk29 := hts (.fieldLink RX6 29 "FogGuides" "tale" "LFogGuides$Tale;") (by decide +kernel)
  have lk133 := hts (.fieldLink RX6 133 "FogGuides$Tale" "corner" "I") (by decide +kernel)
  have iw1 : ∀ w ∈ u_ws RX1 TX1 9, w ∈ wsX6_now := by decide +kernel
  have lk140 := hts (.fieldLink RX6 140 "FogGuides$Tale" "minute" "I") (by decide +kernel)
  have lk166 := hts (.fieldLink RX6 166 "FogGuides$Tale" "paid" "I") (by decide +kernel)
  have lk127 := hts (.fieldLink RX6 127 "FogGuides$Tale" "leader" "I") (by decide +kernel)
  have h := hf
  unfold f_X6_now at h
  obtain ⟨H, eH⟩ : ∃ H, H = s.heap := ⟨_, rfl⟩
  rw [← eH] at hP ⊢
  obtain ⟨locs, el⟩ : ∃ locs : List Loc, locs = [] := ⟨_, rfl⟩
  rw [← el] at hS ⊢
  have hS : va_S A s.heap H locs := by rw [eH]; exact hS
  refine lv_iload_n hx hb dX6_now_0 rfl (lv_at hl 1 rfl) ?_
  by_cases c1 : x1 = (0 : Int32)
  · refine lv_tableIn (off := 39) (tgt := 40) hx hb dX6_now_1 (by rw [c1]; decide) (by rw [c1]; decide) (by rw [c1]; decide) (by decide) ?_
    have h := (if_pos c1).symm.trans h
    refine lv_aload_n hx hb dX6_now_40 rfl (lv_at hl 0 rfl) ?_
    refine va_get (C := RX6) (T := TX6) (N := 10) (v := .ref (qm 0)) hx hb hts iw6 hown hK hP 0 rfl rfl 1 (Nat.le_of_ble_eq_true rfl) lk19 (fun _ h9 => h9) rfl dX6_now_41 ?_
    refine va_get (C := RX4) (T := TX4) (N := 15) (v := .int m_cornerCount) hx hb hts iw4 hown hK hP 1 rfl rfl 0 (Nat.le_of_ble_eq_true rfl) lk163 (fun _ h9 => h9) rfl dX6_now_44 ?_
    refine lv_if_le (tgt := 60) hx hb dX6_now_47 (by decide) (fun c2 => ?_) (fun c2 => ?_)
    · have h := (if_pos c2).symm.trans h
      refine lv_bipush (v := (-9)) hx hb dX6_now_60 (by decide) ?_
      exact hret (-9 : Int32) () H locs _ ls (Option.some.inj h) hP hD hS dX6_now_62
    · have h := (if_neg c2).symm.trans h
      refine lv_aload_n hx hb dX6_now_50 rfl (lv_at hl 0 rfl) ?_
      refine va_get (C := RX6) (T := TX6) (N := 10) (v := .ref (qt 0)) hx hb hts iw6 hown hK hP 0 rfl rfl 3 (Nat.le_of_ble_eq_true rfl) lk29 (fun _ h9 => h9) rfl dX6_now_51 ?_
      refine va_get (C := RX1) (T := TX1) (N := 9) (v := .int t_corner) hx hb hts iw1 hown hK hP 10 rfl rfl 0 (Nat.le_of_ble_eq_true rfl) lk133 (fun _ h9 => h9) rfl dX6_now_54 ?_
      refine lv_goto (tgt := 62) hx hb dX6_now_57 (by decide) ?_
      exact hret t_corner () H locs _ ls (Option.some.inj h) hP hD hS dX6_now_62
  have h := (if_neg c1).symm.trans h
  by_cases c3 : x1 = (1 : Int32)
  · refine lv_tableIn (off := 62) (tgt := 63) hx hb dX6_now_1 (by rw [c3]; decide) (by rw [c3]; decide) (by rw [c3]; decide) (by decide) ?_
    have h := (if_pos c3).symm.trans h
    refine lv_aload_n hx hb dX6_now_63 rfl (lv_at hl 0 rfl) ?_
    refine va_get (C := RX6) (T := TX6) (N := 10) (v := .ref (qt 0)) hx hb hts iw6 hown hK hP 0 rfl rfl 3 (Nat.le_of_ble_eq_true rfl) lk29 (fun _ h9 => h9) rfl dX6_now_64 ?_
    refine va_get (C := RX1) (T := TX1) (N := 9) (v := .int t_minute) hx hb hts iw1 hown hK hP 10 rfl rfl 1 (Nat.le_of_ble_eq_true rfl) lk140 (fun _ h9 => h9) rfl dX6_now_67 ?_
    exact hret t_minute () H locs _ ls (Option.some.inj h) hP hD hS dX6_now_70
  have h := (if_neg c3).symm.trans h
  by_cases c4 : x1 = (2 : Int32)
  · refine lv_tableIn (off := 70) (tgt := 71) hx hb dX6_now_1 (by rw [c4]; decide) (by rw [c4]; decide) (by rw [c4]; decide) (by decide) ?_
    have h := (if_pos c4).symm.trans h
    refine lv_aload_n hx hb dX6_now_71 rfl (lv_at hl 0 rfl) ?_
    refine va_get (C := RX6) (T := TX6) (N := 10) (v := .ref (qt 0)) hx hb hts iw6 hown hK hP 0 rfl rfl 3 (Nat.le_of_ble_eq_true rfl) lk29 (fun _ h9 => h9) rfl dX6_now_72 ?_
    refine va_get (C := RX1) (T := TX1) (N := 9) (v := .int t_paid) hx hb hts iw1 hown hK hP 10 rfl rfl 2 (Nat.le_of_ble_eq_true rfl) lk166 (fun _ h9 => h9) rfl dX6_now_75 ?_
    exact hret t_paid () H locs _ ls (Option.some.inj h) hP hD hS dX6_now_78
  have h := (if_neg c4).symm.trans h
  by_cases c5 : x1 = (3 : Int32)
  · refine lv_tableIn (off := 78) (tgt := 79) hx hb dX6_now_1 (by rw [c5]; decide) (by rw [c5]; decide) (by rw [c5]; decide) (by decide) ?_
    have h := (if_pos c5).symm.trans h
    refine lv_aload_n hx hb dX6_now_79 rfl (lv_at hl 0 rfl) ?_
    refine va_get (C := RX6) (T := TX6) (N := 10) (v := .ref (qt 0)) hx hb hts iw6 hown hK hP 0 rfl rfl 3 (Nat.le_of_ble_eq_true rfl) lk29 (fun _ h9 => h9) rfl dX6_now_80 ?_
    refine va_get (C := RX1) (T := TX1) (N := 9) (v := .int t_leader) hx hb hts iw1 hown hK hP 10 rfl rfl 3 (Nat.le_of_ble_eq_true rfl) lk127 (fun _ h9 => h9) rfl dX6_now_83 ?_
    exact hret t_leader () H locs _ ls (Option.some.inj h) hP hD hS dX6_now_86
  have h := (if_neg c5).symm.trans h
  by_cases c6 : x1 = (4 : Int32)
  · refine lv_tableIn (off := 86) (tgt := 87) hx hb dX6_now_1 (by rw [c6]; decide) (by rw [c6]; decide) (by rw [c6]; decide) (by decide) ?_
    have h := (if_pos c6).symm.trans h
    refine lv_aload_n hx hb dX6_now_87 rfl (lv_at hl 0 rfl) ?_
    obtain ⟨r7, hr7, h⟩ := xk_some h
    refine vx_VJ (As := []) (rest := []) hFx (k_X6_streetsOpen l D cI cZ cT q qr qm qs qt qro qto qw qi0 qi1 H.size v_asked m_cornerCount m_streetCount m_guideCount m_bellCount m_hand m_handTold t_corner t_minute t_paid t_leader t_undoable m_ends m_farEnds m_lengths m_paces m_fees m_knows m_bells r7 fu hr7) (cwV 0 hts gX6_now_X6_streetsOpen rfl rfl rfl (by decide +kernel) ⟨Nat.le_of_ble_eq_true rfl, Nat.le_of_ble_eq_true rfl⟩) hK hP hD hS hA [0, 1, 2, 3, 4, 5, 6, 7, 9, 10] rfl rfl 6 0 rfl rfl rfl hl.1 rfl (Nat.le_of_ble_eq_true rfl) dX6_now_88 ⟨Nat.zero_le _, Nat.zero_le _⟩ (fun H locs hP hS => ?_)
    exact hret r7 () H locs _ ls (Option.some.inj h) hP hD hS dX6_now_91
  have h := (if_neg c6).symm.trans h
  by_cases c8 : x1 = (5 : Int32)
  · refine lv_tableIn (off := 91) (tgt := 92) hx hb dX6_now_1 (by rw [c8]; decide) (by rw [c8]; decide) (by rw [c8]; decide) (by decide) ?_
    have h := (if_pos c8).symm.trans h
    refine lv_aload_n hx hb dX6_now_92 rfl (lv_at hl 0 rfl) ?_
    obtain ⟨r9, hr9, h⟩ := xk_some h
    refine vx_VJ (As := []) (rest := []) hFx (k_X6_guidesToHire l D cI cZ cT q qr qm qs qt qro qto qw qi0 qi1 H.size v_asked m_cornerCount m_streetCount m_guideCount m_bellCount m_hand m_handTold t_corner t_minute t_paid t_leader t_undoable m_his r9 fu hr9) (cwV 0 hts gX6_now_X6_guidesToHire rfl rfl rfl (by decide +kernel) ⟨Nat.le_of_ble_eq_true rfl, Nat.le_of_ble_eq_true rfl⟩) hK hP hD hS hA [0, 1, 8, 10] rfl rfl 6 0 rfl rfl rfl hl.1 rfl (Nat.le_of_ble_eq_true rfl) dX6_now_93 ⟨Nat.zero_le _, Nat.zero_le _⟩ (fun H locs hP hS => ?_)
    exact hret r9 () H locs _ ls (Option.some.inj h) hP hD hS dX6_now_96
  have h := (if_neg c8).symm.trans h
  refine lv_tableOut (tgt := 97) hx hb dX6_now_1 (sw_out (lo := 0) (hi := 5) (by decide) (by decide) (fun j h1 h2 => ?_)) (by decide) ?_
  · rcases (show j = 0 ∨ j = 1 ∨ j = 2 ∨ j = 3 ∨ j = 4 ∨ j = 5 by omega) with rfl | rfl | rfl | rfl | rfl | rfl
    · exact c1
    · exact c3
    · exact c4
    · exact c5
    · exact c6
    · exact c8
  · refine lv_iconst (v := (-1)) hx hb dX6_now_97 (by decide) ?_
    exact hret (-1 : Int32) () H locs _ ls (Option.some.inj h) hP hD hS dX6_now_98
abbrev rm_X6_routeAnswer : Room := { frames := 4, cells := 0, slots := 0, locals := 99 }
set_option maxHeartbeats 4000000 in
set_option maxRecDepth 100000 in
theorem k_X6_routeAnswer (l : Launch) (D : va_G) (cI cZ cT : ClassId) (q : Nat → Nat) (qr : Nat → Nat) (qm : Nat → Nat) (qs : Nat → Nat) (qt : Nat → Nat) (qro : Nat → Nat) (qto : Nat → Nat) (qw : Nat → Nat) (qi0 : Nat → Nat) (qi1 : Nat → Nat) (sz : Nat) (v_asked : Int64) (m_cornerCount : Int32) (m_streetCount : Int32) (m_guideCount : Int32) (m_bellCount : Int32) (m_hand : Int32) (m_handTold : Int32) (ro_minutes : Int32) (ro_paid : Int32) (ro_first : Int32) (m_ends : Nat → Int32) (m_farEnds : Nat → Int32) (m_lengths : Nat → Int32) (m_paces : Nat → Int32) (m_fees : Nat → Int32) (m_knows : Nat → Int32) (m_his : Nat → Int32) (ro_costs : Nat → Int32) (x1 : Int32) (x2 : Int32) (x3 : Int32) (x4 : Int32) (res : R_X6_routeAnswer) (fu : Nat) (hf : f_X6_routeAnswer fu m_cornerCount m_streetCount m_guideCount m_hand m_ends m_farEnds m_lengths m_paces m_fees m_knows m_his ro_costs ro_minutes ro_paid ro_first x1 x2 x3 x4 = some res) : Met l yX6_routeAnswer wsX6_routeAnswer rm_X6_routeAnswer (cPre D (tyz cI cZ cT) [.ref (q 0), .int x1, .int x2, .int x3, .int x4] sz [oX6 q (qr 0) (qm 0) (qs 0) (qt 0) (qro 0) (qto 0) (qw 0) v_asked, oX4 qm m_cornerCount m_streetCount m_guideCount m_bellCount m_hand m_handTold, rA (qm 8) cI 9 m_ends, rA (qm 9) cI 9 m_farEnds, rA (qm 10) cI 9 m_lengths, rA (qm 11) cI 4 m_paces, rA (qm 12) cI 4 m_fees, rA (qm 13) cI 4 m_knows, rA (qm 14) cI 4 m_his, oX0 qro ro_minutes ro_paid ro_first, rA (qro 1) cI 28 ro_costs]) (cPi D (tyz cI cZ cT) (fun (r : Int32) (u : (Nat → Int32) × Int32 × Int32 × Int32) => (r, u) = res) (fun u => [oX6 q (qr 0) (qm 0) (qs 0) (qt 0) (qro 0) (qto 0) (qw 0) v_asked, oX4 qm m_cornerCount m_streetCount m_guideCount m_bellCount m_hand m_handTold, rA (qm 8) cI 9 m_ends, rA (qm 9) cI 9 m_farEnds, rA (qm 10) cI 9 m_lengths, rA (qm 11) cI 4 m_paces, rA (qm 12) cI 4 m_fees, rA (qm 13) cI 4 m_knows, rA (qm 14) cI 4 m_his, oX0 qro u.2.1 u.2.2.1 u.2.2.2, rA (qro 1) cI 28 u.1]) [oX6 q (qr 0) (qm 0) (qs 0) (qt 0) (qro 0) (qto 0) (qw 0) v_asked, oX4 qm m_cornerCount m_streetCount m_guideCount m_bellCount m_hand m_handTold, rA (qm 8) cI 9 m_ends, rA (qm 9) cI 9 m_farEnds, rA (qm 10) cI 9 m_lengths, rA (qm 11) cI 4 m_paces, rA (qm 12) cI 4 m_fees, rA (qm 13) cI 4 m_knows, rA (qm 14) cI 4 m_his, oX0 qro ro_minutes ro_paid ro_first, rA (qro 1) cI 28 ro_costs] sz) 0 0 (va_A [oX6 q (qr 0) (qm 0) (qs 0) (qt 0) (qro 0) (qto 0) (qw 0) v_asked, oX4 qm m_cornerCount m_streetCount m_guideCount m_bellCount m_hand m_handTold, rA (qm 8) cI 9 m_ends, rA (qm 9) cI 9 m_farEnds, rA (qm 10) cI 9 m_lengths, rA (qm 11) cI 4 m_paces, rA (qm 12) cI 4 m_fees, rA (qm 13) cI 4 m_knows, rA (qm 14) cI 4 m_his, oX0 qro ro_minutes ro_paid ro_first, rA (qro 1) cI 28 ro_costs] sz) := by
  refine vx_meth_i (by decide) rfl (Nat.le_of_ble_eq_true rfl) ?_
  intro p e s m args below meth c A Q hx hb hml hown hts hK hP hD hA hS hret ls hl
  have hown : s.vm.findClass RX6 = some m.cls := hown
  have hl : lv_has ls 5 [(0, .ref (q 0)), (1, .int x1), (2, .int x2), (3, .int x3), (4, .int x4)] := hl
  have hFx : CallFix p m c cX6_routeAnswer 5 s args wsX6_routeAnswer RX6 := ⟨hx, hb, hml, hown, hts⟩
  have lk19 := hts (.fieldLink RX6 19 "FogGuides" "map" "LFogGuides$TownMap;") (by decide +kernel)
  have iw6 : ∀ w ∈ u_ws RX6 TX6 10, w ∈ wsX6_routeAnswer := by decide +kernel
  have lk44 := hts (.fieldLink RX6 44 "FogGuides" "routes" "LFogGuides$Routes;") (by decide +kernel)
  have lk205 := hts (.fieldLink RX6 205 "FogGuides$Routes" "minutes" "I") (by decide +kernel)
  have iw0 : ∀ w ∈ u_ws RX0 TX0 5, w ∈ wsX6_routeAnswer := by decide +kernel
  have lk208 := hts (.fieldLink RX6 208 "FogGuides$Routes" "paid" "I") (by decide +kernel)
  have lk209 := hts (.fieldLink RX6 209 "FogGuides$Routes" "first" "I") (by decide +kernel)
  have h := hf
  unfold f_X6_routeAnswer at h
  obtain ⟨H, eH⟩ : ∃ H, H = s.heap := ⟨_, rfl⟩
  rw [← eH] at hP ⊢
  obtain ⟨locs, el⟩ : ∃ locs : List Loc, locs = [] := ⟨_, rfl⟩
  rw [← el] at hS ⊢
  have hS : va_S A s.heap H locs := by rw [eH]; exact hS
  refine lv_aload_n hx hb dX6_routeAnswer_0 rfl (lv_at hl 0 rfl) ?_
  refine va_get (C := RX6) (T := TX6) (N := 10) (v := .ref (qm 0)) hx hb hts iw6 hown hK hP 0 rfl rfl 1 (Nat.le_of_ble_eq_true rfl) lk19 (fun _ h9 => h9) rfl dX6_routeAnswer_1 ?_
  refine lv_iload_n hx hb dX6_routeAnswer_4 rfl (lv_at hl 1 rfl) ?_
  obtain ⟨r1, hr1, h⟩ := xk_some h
  refine vx_VJ (As := [.int x1]) (rest := []) hFx (k_X4_hasCorner l D cI cZ cT qm H.size m_cornerCount m_streetCount m_guideCount m_bellCount m_hand m_handTold x1 r1 hr1) (cwV 1 hts gX6_routeAnswer_X4_hasCorner rfl rfl rfl (by decide +kernel) ⟨Nat.le_of_ble_eq_true rfl, Nat.le_of_ble_eq_true rfl⟩) hK hP hD hS hA [1] rfl rfl 4 0 rfl rfl rfl hl.1 rfl (Nat.le_of_ble_eq_true rfl) dX6_routeAnswer_5 ⟨Nat.zero_le _, Nat.zero_le _⟩ (fun H locs hP hS => ?_)
  refine lv_if_eq (tgt := 31) hx hb dX6_routeAnswer_8 (by decide) (fun c2 => ?_) (fun c2 => ?_)
  · have h := (if_pos c2).symm.trans h
    refine lv_iconst (v := (-1)) hx hb dX6_routeAnswer_31 (by decide) ?_
    exact hret (-1 : Int32) (ro_costs, ro_minutes, ro_paid, ro_first) H locs _ ls (Option.some.inj h) hP hD hS dX6_routeAnswer_32
  · have h := (if_neg c2).symm.trans h
    refine lv_aload_n hx hb dX6_routeAnswer_11 rfl (lv_at hl 0 rfl) ?_
    refine va_get (C := RX6) (T := TX6) (N := 10) (v := .ref (qm 0)) hx hb hts iw6 hown hK hP 0 rfl rfl 1 (Nat.le_of_ble_eq_true rfl) lk19 (fun _ h9 => h9) rfl dX6_routeAnswer_12 ?_
    refine lv_iload_n hx hb dX6_routeAnswer_15 rfl (lv_at hl 2 rfl) ?_
    obtain ⟨r3, hr3, h⟩ := xk_some h
    refine vx_VJ (As := [.int x2]) (rest := []) hFx (k_X4_hasCorner l D cI cZ cT qm H.size m_cornerCount m_streetCount m_guideCount m_bellCount m_hand m_handTold x2 r3 hr3) (cwV 1 hts gX6_routeAnswer_X4_hasCorner rfl rfl rfl (by decide +kernel) ⟨Nat.le_of_ble_eq_true rfl, Nat.le_of_ble_eq_true rfl⟩) hK hP hD hS hA [1] rfl rfl 4 0 rfl rfl rfl hl.1 rfl (Nat.le_of_ble_eq_true rfl) dX6_routeAnswer_16 ⟨Nat.zero_le _, Nat.zero_le _⟩ (fun H locs hP hS => ?_)
    refine lv_if_eq (tgt := 31) hx hb dX6_routeAnswer_19 (by decide) (fun c4 => ?_) (fun c4 => ?_)
    · have h := (if_pos c4).symm.trans h
      refine lv_iconst (v := (-1)) hx hb dX6_routeAnswer_31 (by decide) ?_
      exact hret (-1 : Int32) (ro_costs, ro_minutes, ro_paid, ro_first) H locs _ ls (Option.some.inj h) hP hD hS dX6_routeAnswer_32
    · have h := (if_neg c4).symm.trans h
      refine lv_iload_n hx hb dX6_routeAnswer_22 rfl (lv_at hl 3 rfl) ?_
      refine lv_if_lt (tgt := 31) hx hb dX6_routeAnswer_23 (by decide) (fun c5 => ?_) (fun c5 => ?_)
      · have h := (if_pos c5).symm.trans h
        refine lv_iconst (v := (-1)) hx hb dX6_routeAnswer_31 (by decide) ?_
        exact hret (-1 : Int32) (ro_costs, ro_minutes, ro_paid, ro_first) H locs _ ls (Option.some.inj h) hP hD hS dX6_routeAnswer_32
      · have h := (if_neg c5).symm.trans h
        refine lv_iload_n hx hb dX6_routeAnswer_26 rfl (lv_at hl 3 rfl) ?_
        refine lv_iconst (v := 2) hx hb dX6_routeAnswer_27 (by decide) ?_
        refine lv_icmp_le (tgt := 33) hx hb dX6_routeAnswer_28 (by decide) (fun c6 => ?_) (fun c6 => ?_)
        · have h := (if_pos c6).symm.trans h
          refine lv_iload_n hx hb dX6_routeAnswer_33 rfl (lv_at hl 1 rfl) ?_
          refine lv_iload_n hx hb dX6_routeAnswer_34 rfl (lv_at hl 2 rfl) ?_
          refine lv_icmp_ne (tgt := 50) hx hb dX6_routeAnswer_35 (by decide) (fun c7 => ?_) (fun c7 => ?_)
          · have h := (if_neg c7).symm.trans h
            refine lv_aload_n hx hb dX6_routeAnswer_50 rfl (lv_at hl 0 rfl) ?_
            refine va_get (C := RX6) (T := TX6) (N := 10) (v := .ref (qro 0)) hx hb hts iw6 hown hK hP 0 rfl rfl 6 (Nat.le_of_ble_eq_true rfl) lk44 (fun _ h9 => h9) rfl dX6_routeAnswer_51 ?_
            refine lv_aload_n hx hb dX6_routeAnswer_54 rfl (lv_at hl 0 rfl) ?_
            refine va_get (C := RX6) (T := TX6) (N := 10) (v := .ref (qm 0)) hx hb hts iw6 hown hK hP 0 rfl rfl 1 (Nat.le_of_ble_eq_true rfl) lk19 (fun _ h9 => h9) rfl dX6_routeAnswer_55 ?_
            refine lv_iload_n hx hb dX6_routeAnswer_58 rfl (lv_at hl 1 rfl) ?_
            refine lv_iload_n hx hb dX6_routeAnswer_59 rfl (lv_at hl 2 rfl) ?_
            refine lv_iload hx hb dX6_routeAnswer_60 (lv_at hl 4 rfl) ?_
            obtain ⟨r8, hr8, h⟩ := xk_some h
            refine vx_VV (As := [.ref (qm 0), .int x1, .int x2, .int x4]) (rest := []) (wr := [oX6 q (qr 0) (qm 0) (qs 0) (qt 0) (qro 0) (qto 0) (qw 0) v_asked]) (wn := [oX6 q (qr 0) (qm 0) (qs 0) (qt 0) (qro 0) (qto 0) (qw 0) v_asked, oX4 qm m_cornerCount m_streetCount m_guideCount m_bellCount m_hand m_handTold, rA (qm 8) cI 9 m_ends, rA (qm 9) cI 9 m_farEnds, rA (qm 10) cI 9 m_lengths, rA (qm 11) cI 4 m_paces, rA (qm 12) cI 4 m_fees, rA (qm 13) cI 4 m_knows, rA (qm 14) cI 4 m_his, oX0 qro r8.2.1 r8.2.2.1 r8.2.2.2, rA (qro 1) cI 28 r8.1]) hFx (k_X0_find l D cI cZ cT qro qm H.size ro_minutes ro_paid ro_first m_cornerCount m_streetCount m_guideCount m_bellCount m_hand m_handTold ro_costs m_ends m_farEnds m_lengths m_paces m_fees m_knows m_his x1 x2 x4 r8 fu hr8) (cwV 4 hts gX6_routeAnswer_X0_find rfl rfl rfl (by decide +kernel) ⟨Nat.le_of_ble_eq_true rfl, Nat.le_of_ble_eq_true rfl⟩) hK hP hD hS hA [9, 10, 1, 2, 3, 4, 5, 6, 7, 8] [0] [0, 3, 4, 5, 6, 7, 8, 9, 10, 1, 2] rfl rfl rfl rfl (by decide) rfl rfl 0 0 rfl rfl rfl hl.1 rfl (Nat.le_of_ble_eq_true rfl) dX6_routeAnswer_62 ⟨Nat.zero_le _, Nat.zero_le _⟩ (fun H locs hP hD hS => ?_)
            refine lv_iload_n hx hb dX6_routeAnswer_65 rfl (lv_at hl 3 rfl) ?_
            by_cases c9 : x3 = (0 : Int32)
            · refine lv_lookup (off := 26) (tgt := 92) hx hb dX6_routeAnswer_66 (by decide) (by rw [c9]; decide) (by decide) ?_
              have h := (if_pos c9).symm.trans h
              refine lv_aload_n hx hb dX6_routeAnswer_92 rfl (lv_at hl 0 rfl) ?_
              refine va_get (C := RX6) (T := TX6) (N := 10) (v := .ref (qro 0)) hx hb hts iw6 hown hK hP 0 rfl rfl 6 (Nat.le_of_ble_eq_true rfl) lk44 (fun _ h9 => h9) rfl dX6_routeAnswer_93 ?_
              refine va_get (C := RX0) (T := TX0) (N := 5) (v := .int r8.2.1) hx hb hts iw0 hown hK hP 9 rfl rfl 2 (Nat.le_of_ble_eq_true rfl) lk205 (fun _ h9 => h9) rfl dX6_routeAnswer_96 ?_
              exact hret r8.2.1 (r8.1, r8.2.1, r8.2.2.1, r8.2.2.2) H locs _ ls (Option.some.inj h) hP hD hS dX6_routeAnswer_99
            have h := (if_neg c9).symm.trans h
            by_cases c10 : x3 = (1 : Int32)
            · refine lv_lookup (off := 34) (tgt := 100) hx hb dX6_routeAnswer_66 (by decide) (by rw [c10]; decide) (by decide) ?_
              have h := (if_pos c10).symm.trans h
              refine lv_aload_n hx hb dX6_routeAnswer_100 rfl (lv_at hl 0 rfl) ?_
              refine va_get (C := RX6) (T := TX6) (N := 10) (v := .ref (qro 0)) hx hb hts iw6 hown hK hP 0 rfl rfl 6 (Nat.le_of_ble_eq_true rfl) lk44 (fun _ h9 => h9) rfl dX6_routeAnswer_101 ?_
              refine va_get (C := RX0) (T := TX0) (N := 5) (v := .int r8.2.2.1) hx hb hts iw0 hown hK hP 9 rfl rfl 3 (Nat.le_of_ble_eq_true rfl) lk208 (fun _ h9 => h9) rfl dX6_routeAnswer_104 ?_
              exact hret r8.2.2.1 (r8.1, r8.2.1, r8.2.2.1, r8.2.2.2) H locs _ ls (Option.some.inj h) hP hD hS dX6_routeAnswer_107
            have h := (if_neg c10).symm.trans h
            refine lv_lookup (off := 42) (tgt := 108) hx hb dX6_routeAnswer_66 (by decide) (sw_look _ (fun q hq => ?_)) (by decide) ?_
            · have hq : q ∈ ([(0, 26), (1, 34)] : List (Int × Int)) := hq
              simp only [List.mem_cons, List.not_mem_nil, or_false] at hq
              rcases hq with rfl | rfl
              · exact c9
              · exact c10
            · refine lv_aload_n hx hb dX6_routeAnswer_108 rfl (lv_at hl 0 rfl) ?_
              refine va_get (C := RX6) (T := TX6) (N := 10) (v := .ref (qro 0)) hx hb hts iw6 hown hK hP 0 rfl rfl 6 (Nat.le_of_ble_eq_true rfl) lk44 (fun _ h9 => h9) rfl dX6_routeAnswer_109 ?_
              refine va_get (C := RX0) (T := TX0) (N := 5) (v := .int r8.2.2.2) hx hb hts iw0 hown hK hP 9 rfl rfl 4 (Nat.le_of_ble_eq_true rfl) lk209 (fun _ h9 => h9) rfl dX6_routeAnswer_112 ?_
              exact hret r8.2.2.2 (r8.1, r8.2.1, r8.2.2.1, r8.2.2.2) H locs _ ls (Option.some.inj h) hP hD hS dX6_routeAnswer_115
          · have h := (if_pos c7).symm.trans h
            refine lv_iload_n hx hb dX6_routeAnswer_38 rfl (lv_at hl 3 rfl) ?_
            refine lv_iconst (v := 2) hx hb dX6_routeAnswer_39 (by decide) ?_
            refine lv_icmp_ne (tgt := 48) hx hb dX6_routeAnswer_40 (by decide) (fun c11 => ?_) (fun c11 => ?_)
            · have h := (if_neg c11).symm.trans h
              refine lv_iconst (v := 0) hx hb dX6_routeAnswer_48 (by decide) ?_
              exact hret (0 : Int32) (ro_costs, ro_minutes, ro_paid, ro_first) H locs _ ls (Option.some.inj h) hP hD hS dX6_routeAnswer_49
            · have h := (if_pos c11).symm.trans h
              refine lv_bipush (v := (-9)) hx hb dX6_routeAnswer_43 (by decide) ?_
              refine lv_goto (tgt := 49) hx hb dX6_routeAnswer_45 (by decide) ?_
              exact hret (-9 : Int32) (ro_costs, ro_minutes, ro_paid, ro_first) H locs _ ls (Option.some.inj h) hP hD hS dX6_routeAnswer_49
        · have h := (if_neg c6).symm.trans h
          refine lv_iconst (v := (-1)) hx hb dX6_routeAnswer_31 (by decide) ?_
          exact hret (-1 : Int32) (ro_costs, ro_minutes, ro_paid, ro_first) H locs _ ls (Option.some.inj h) hP hD hS dX6_routeAnswer_32
abbrev rm_X6_soonest : Room := { frames := 5, cells := 0, slots := 0, locals := 123 }
set_option maxHeartbeats 4000000 in
set_option maxRecDepth 100000 in
theorem k_X6_soonest (l : Launch) (D : va_G) (cI cZ cT : ClassId) (q : Nat → Nat) (qr : Nat → Nat) (qm : Nat → Nat) (qs : Nat → Nat) (qt : Nat → Nat) (qro : Nat → Nat) (qto : Nat → Nat) (qw : Nat → Nat) (qi0 : Nat → Nat) (qi1 : Nat → Nat) (sz : Nat) (v_asked : Int64) (m_cornerCount : Int32) (m_streetCount : Int32) (m_guideCount : Int32) (m_bellCount : Int32) (m_hand : Int32) (m_handTold : Int32) (ro_minutes : Int32) (ro_paid : Int32) (ro_first : Int32) (m_ends : Nat → Int32) (m_farEnds : Nat → Int32) (m_lengths : Nat → Int32) (m_paces : Nat → Int32) (m_fees : Nat → Int32) (m_knows : Nat → Int32) (m_his : Nat → Int32) (ro_costs : Nat → Int32) (x1 : Int32) (x2 : Int32) (x3 : Int32) (res : R_X6_soonest) (fu : Nat) (hf : f_X6_soonest fu m_cornerCount m_streetCount m_guideCount m_hand m_ends m_farEnds m_lengths m_paces m_fees m_knows m_his ro_costs ro_minutes ro_paid ro_first x1 x2 x3 = some res) : Met l yX6_soonest wsX6_soonest rm_X6_soonest (cPre D (tyz cI cZ cT) [.ref (q 0), .int x1, .int x2, .int x3] sz [oX6 q (qr 0) (qm 0) (qs 0) (qt 0) (qro 0) (qto 0) (qw 0) v_asked, oX4 qm m_cornerCount m_streetCount m_guideCount m_bellCount m_hand m_handTold, rA (qm 8) cI 9 m_ends, rA (qm 9) cI 9 m_farEnds, rA (qm 10) cI 9 m_lengths, rA (qm 11) cI 4 m_paces, rA (qm 12) cI 4 m_fees, rA (qm 13) cI 4 m_knows, rA (qm 14) cI 4 m_his, oX0 qro ro_minutes ro_paid ro_first, rA (qro 1) cI 28 ro_costs]) (cPi D (tyz cI cZ cT) (fun (r : Int32) (u : (Nat → Int32) × Int32 × Int32 × Int32) => (r, u) = res) (fun u => [oX6 q (qr 0) (qm 0) (qs 0) (qt 0) (qro 0) (qto 0) (qw 0) v_asked, oX4 qm m_cornerCount m_streetCount m_guideCount m_bellCount m_hand m_handTold, rA (qm 8) cI 9 m_ends, rA (qm 9) cI 9 m_farEnds, rA (qm 10) cI 9 m_lengths, rA (qm 11) cI 4 m_paces, rA (qm 12) cI 4 m_fees, rA (qm 13) cI 4 m_knows, rA (qm 14) cI 4 m_his, oX0 qro u.2.1 u.2.2.1 u.2.2.2, rA (qro 1) cI 28 u.1]) [oX6 q (qr 0) (qm 0) (qs 0) (qt 0) (qro 0) (qto 0) (qw 0) v_asked, oX4 qm m_cornerCount m_streetCount m_guideCount m_bellCount m_hand m_handTold, rA (qm 8) cI 9 m_ends, rA (qm 9) cI 9 m_farEnds, rA (qm 10) cI 9 m_lengths, rA (qm 11) cI 4 m_paces, rA (qm 12) cI 4 m_fees, rA (qm 13) cI 4 m_knows, rA (qm 14) cI 4 m_his, oX0 qro ro_minutes ro_paid ro_first, rA (qro 1) cI 28 ro_costs] sz) 0 0 (va_A [oX6 q (qr 0) (qm 0) (qs 0) (qt 0) (qro 0) (qto 0) (qw 0) v_asked, oX4 qm m_cornerCount m_streetCount m_guideCount m_bellCount m_hand m_handTold, rA (qm 8) cI 9 m_ends, rA (qm 9) cI 9 m_farEnds, rA (qm 10) cI 9 m_lengths, rA (qm 11) cI 4 m_paces, rA (qm 12) cI 4 m_fees, rA (qm 13) cI 4 m_knows, rA (qm 14) cI 4 m_his, oX0 qro ro_minutes ro_paid ro_first, rA (qro 1) cI 28 ro_costs] sz) := by
  refine vx_meth_i (by decide) rfl (Nat.le_of_ble_eq_true rfl) ?_
  intro p e s m args below meth c A Q hx hb hml hown hts hK hP hD hA hS hret ls hl
  have hown : s.vm.findClass RX6 = some m.cls := hown
  have hl : lv_has ls 4 [(0, .ref (q 0)), (1, .int x1), (2, .int x2), (3, .int x3)] := hl
  have hFx : CallFix p m c cX6_soonest 4 s args wsX6_soonest RX6 := ⟨hx, hb, hml, hown, hts⟩
  have h := hf
  unfold f_X6_soonest at h
  obtain ⟨H, eH⟩ : ∃ H, H = s.heap := ⟨_, rfl⟩
  rw [← eH] at hP ⊢
  obtain ⟨locs, el⟩ : ∃ locs : List Loc, locs = [] := ⟨_, rfl⟩
  rw [← el] at hS ⊢
  have hS : va_S A s.heap H locs := by rw [eH]; exact hS
  refine lv_aload_n hx hb dX6_soonest_0 rfl (lv_at hl 0 rfl) ?_
  refine lv_iload_n hx hb dX6_soonest_1 rfl (lv_at hl 1 rfl) ?_
  refine lv_iload_n hx hb dX6_soonest_2 rfl (lv_at hl 2 rfl) ?_
  refine lv_iload_n hx hb dX6_soonest_3 rfl (lv_at hl 3 rfl) ?_
  refine lv_iconst (v := 1) hx hb dX6_soonest_4 (by decide) ?_
  obtain ⟨r1, hr1, h⟩ := xk_some h
  refine vx_VI (As := [.int x1, .int x2, .int x3, .int (1 : Int32)]) (rest := []) (wr := []) (wn := [oX6 q (qr 0) (qm 0) (qs 0) (qt 0) (qro 0) (qto 0) (qw 0) v_asked, oX4 qm m_cornerCount m_streetCount m_guideCount m_bellCount m_hand m_handTold, rA (qm 8) cI 9 m_ends, rA (qm 9) cI 9 m_farEnds, rA (qm 10) cI 9 m_lengths, rA (qm 11) cI 4 m_paces, rA (qm 12) cI 4 m_fees, rA (qm 13) cI 4 m_knows, rA (qm 14) cI 4 m_his, oX0 qro r1.2.2.1 r1.2.2.2.1 r1.2.2.2.2, rA (qro 1) cI 28 r1.2.1]) hFx (k_X6_routeAnswer l D cI cZ cT q qr qm qs qt qro qto qw qi0 qi1 H.size v_asked m_cornerCount m_streetCount m_guideCount m_bellCount m_hand m_handTold ro_minutes ro_paid ro_first m_ends m_farEnds m_lengths m_paces m_fees m_knows m_his ro_costs x1 x2 x3 (1 : Int32) r1 fu hr1) (cwV 4 hts gX6_soonest_X6_routeAnswer rfl rfl rfl (by decide +kernel) ⟨Nat.le_of_ble_eq_true rfl, Nat.le_of_ble_eq_true rfl⟩) hK hP hD hS hA [0, 1, 2, 3, 4, 5, 6, 7, 8, 9, 10] [] [0, 1, 2, 3, 4, 5, 6, 7, 8, 9, 10] rfl rfl rfl rfl (by decide) rfl rfl 6 0 rfl rfl rfl hl.1 rfl (Nat.le_of_ble_eq_true rfl) dX6_soonest_5 ⟨Nat.zero_le _, Nat.zero_le _⟩ (fun H locs hP hD hS => ?_)
  exact hret r1.1 (r1.2.1, r1.2.2.1, r1.2.2.2.1, r1.2.2.2.2) H locs _ ls (Option.some.inj h) hP hD hS dX6_soonest_8
abbrev rm_X6_cheapest : Room := { frames := 5, cells := 0, slots := 0, locals := 123 }
set_option maxHeartbeats 4000000 in
set_option maxRecDepth 100000 in
theorem k_X6_cheapest (l : Launch) (D : va_G) (cI cZ cT : ClassId) (q : Nat → Nat) (qr : Nat → Nat) (qm : Nat → Nat) (qs : Nat → Nat) (qt : Nat → Nat) (qro : Nat → Nat) (qto : Nat → Nat) (qw : Nat → Nat) (qi0 : Nat → Nat) (qi1 : Nat → Nat) (sz : Nat) (v_asked : Int64) (m_cornerCount : Int32) (m_streetCount : Int32) (m_guideCount : Int32) (m_bellCount : Int32) (m_hand : Int32) (m_handTold : Int32) (ro_minutes : Int32) (ro_paid : Int32) (ro_first : Int32) (m_ends : Nat → Int32) (m_farEnds : Nat → Int32) (m_lengths : Nat → Int32) (m_paces : Nat → Int32) (m_fees : Nat → Int32) (m_knows : Nat → Int32) (m_his : Nat → Int32) (ro_costs : Nat → Int32) (x1 : Int32) (x2 : Int32) (x3 : Int32) (res : R_X6_cheapest) (fu : Nat) (hf : f_X6_cheapest fu m_cornerCount m_streetCount m_guideCount m_hand m_ends m_farEnds m_lengths m_paces m_fees m_knows m_his ro_costs ro_minutes ro_paid ro_first x1 x2 x3 = some res) : Met l yX6_cheapest wsX6_cheapest rm_X6_cheapest (cPre D (tyz cI cZ cT) [.ref (q 0), .int x1, .int x2, .int x3] sz [oX6 q (qr 0) (qm 0) (qs 0) (qt 0) (qro 0) (qto 0) (qw 0) v_asked, oX4 qm m_cornerCount m_streetCount m_guideCount m_bellCount m_hand m_handTold, rA (qm 8) cI 9 m_ends, rA (qm 9) cI 9 m_farEnds, rA (qm 10) cI 9 m_lengths, rA (qm 11) cI 4 m_paces, rA (qm 12) cI 4 m_fees, rA (qm 13) cI 4 m_knows, rA (qm 14) cI 4 m_his, oX0 qro ro_minutes ro_paid ro_first, rA (qro 1) cI 28 ro_costs]) (cPi D (tyz cI cZ cT) (fun (r : Int32) (u : (Nat → Int32) × Int32 × Int32 × Int32) => (r, u) = res) (fun u => [oX6 q (qr 0) (qm 0) (qs 0) (qt 0) (qro 0) (qto 0) (qw 0) v_asked, oX4 qm m_cornerCount m_streetCount m_guideCount m_bellCount m_hand m_handTold, rA (qm 8) cI 9 m_ends, rA (qm 9) cI 9 m_farEnds, rA (qm 10) cI 9 m_lengths, rA (qm 11) cI 4 m_paces, rA (qm 12) cI 4 m_fees, rA (qm 13) cI 4 m_knows, rA (qm 14) cI 4 m_his, oX0 qro u.2.1 u.2.2.1 u.2.2.2, rA (qro 1) cI 28 u.1]) [oX6 q (qr 0) (qm 0) (qs 0) (qt 0) (qro 0) (qto 0) (qw 0) v_asked, oX4 qm m_cornerCount m_streetCount m_guideCount m_bellCount m_hand m_handTold, rA (qm 8) cI 9 m_ends, rA (qm 9) cI 9 m_farEnds, rA (qm 10) cI 9 m_lengths, rA (qm 11) cI 4 m_paces, rA (qm 12) cI 4 m_fees, rA (qm 13) cI 4 m_knows, rA (qm 14) cI 4 m_his, oX0 qro ro_minutes ro_paid ro_first, rA (qro 1) cI 28 ro_costs] sz) 0 0 (va_A [oX6 q (qr 0) (qm 0) (qs 0) (qt 0) (qro 0) (qto 0) (qw 0) v_asked, oX4 qm m_cornerCount m_streetCount m_guideCount m_bellCount m_hand m_handTold, rA (qm 8) cI 9 m_ends, rA (qm 9) cI 9 m_farEnds, rA (qm 10) cI 9 m_lengths, rA (qm 11) cI 4 m_paces, rA (qm 12) cI 4 m_fees, rA (qm 13) cI 4 m_knows, rA (qm 14) cI 4 m_his, oX0 qro ro_minutes ro_paid ro_first, rA (qro 1) cI 28 ro_costs] sz) := by
  refine vx_meth_i (by decide) rfl (Nat.le_of_ble_eq_true rfl) ?_
  intro p e s m args below meth c A Q hx hb hml hown hts hK hP hD hA hS hret ls hl
  have hown : s.vm.findClass RX6 = some m.cls := hown
  have hl : lv_has ls 4 [(0, .ref (q 0)), (1, .int x1), (2, .int x2), (3, .int x3)] := hl
  have hFx : CallFix p m c cX6_cheapest 4 s args wsX6_cheapest RX6 := ⟨hx, hb, hml, hown, hts⟩
  have h := hf
  unfold f_X6_cheapest at h
  obtain ⟨H, eH⟩ : ∃ H, H = s.heap := ⟨_, rfl⟩
  rw [← eH] at hP ⊢
  obtain ⟨locs, el⟩ : ∃ locs : List Loc, locs = [] := ⟨_, rfl⟩
  rw [← el] at hS ⊢
  have hS : va_S A s.heap H locs := by rw [eH]; exact hS
  refine lv_aload_n hx hb dX6_cheapest_0 rfl (lv_at hl 0 rfl) ?_
  refine lv_iload_n hx hb dX6_cheapest_1 rfl (lv_at hl 1 rfl) ?_
  refine lv_iload_n hx hb dX6_cheapest_2 rfl (lv_at hl 2 rfl) ?_
  refine lv_iload_n hx hb dX6_cheapest_3 rfl (lv_at hl 3 rfl) ?_
  refine lv_iconst (v := 0) hx hb dX6_cheapest_4 (by decide) ?_
  obtain ⟨r1, hr1, h⟩ := xk_some h
  refine vx_VI (As := [.int x1, .int x2, .int x3, .int (0 : Int32)]) (rest := []) (wr := []) (wn := [oX6 q (qr 0) (qm 0) (qs 0) (qt 0) (qro 0) (qto 0) (qw 0) v_asked, oX4 qm m_cornerCount m_streetCount m_guideCount m_bellCount m_hand m_handTold, rA (qm 8) cI 9 m_ends, rA (qm 9) cI 9 m_farEnds, rA (qm 10) cI 9 m_lengths, rA (qm 11) cI 4 m_paces, rA (qm 12) cI 4 m_fees, rA (qm 13) cI 4 m_knows, rA (qm 14) cI 4 m_his, oX0 qro r1.2.2.1 r1.2.2.2.1 r1.2.2.2.2, rA (qro 1) cI 28 r1.2.1]) hFx (k_X6_routeAnswer l D cI cZ cT q qr qm qs qt qro qto qw qi0 qi1 H.size v_asked m_cornerCount m_streetCount m_guideCount m_bellCount m_hand m_handTold ro_minutes ro_paid ro_first m_ends m_farEnds m_lengths m_paces m_fees m_knows m_his ro_costs x1 x2 x3 (0 : Int32) r1 fu hr1) (cwV 4 hts gX6_cheapest_X6_routeAnswer rfl rfl rfl (by decide +kernel) ⟨Nat.le_of_ble_eq_true rfl, Nat.le_of_ble_eq_true rfl⟩) hK hP hD hS hA [0, 1, 2, 3, 4, 5, 6, 7, 8, 9, 10] [] [0, 1, 2, 3, 4, 5, 6, 7, 8, 9, 10] rfl rfl rfl rfl (by decide) rfl rfl 6 0 rfl rfl rfl hl.1 rfl (Nat.le_of_ble_eq_true rfl) dX6_cheapest_5 ⟨Nat.zero_le _, Nat.zero_le _⟩ (fun H locs hP hD hS => ?_)
  exact hret r1.1 (r1.2.1, r1.2.2.1, r1.2.2.2.1, r1.2.2.2.2) H locs _ ls (Option.some.inj h) hP hD hS dX6_cheapest_8
