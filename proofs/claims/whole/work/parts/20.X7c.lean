abbrev rm_X7_guide : Room := { frames := 2, cells := 0, slots := 0, locals := 46 }
set_option maxHeartbeats 4000000 in
set_option maxRecDepth 100000 in
theorem k_X7_guide (l : Launch) (D : va_G) (cI cZ cT : ClassId) (q : Nat → Nat) (sz : Nat) (v_size : Int32) (v_at : Int32) (v_begin : Int32) (v_token : Int32) (v_told : Int32) (v_undos : Int32) (v_changed : Int32) (v_felt : Int32) (v_wents : Int32) (v_wish : Int32) (v_trace : Int64) (v_town : Nat → Int32) (x1 : Int32) (x2 : Int32) (res : R_X7_guide) (hf : f_X7_guide v_town x1 x2 = some res) : Met l yX7_guide wsX7_guide rm_X7_guide (cPre D (tyz cI cZ cT) [.ref (q 0), .int x1, .int x2] sz [oX7 q v_size v_at v_begin v_token v_told v_undos v_changed v_felt v_wents v_wish v_trace, rA (q 8) cI 64 v_town]) (cPi D (tyz cI cZ cT) (fun (r : Int32) (_ : Unit) => r = res) (fun _ => [oX7 q v_size v_at v_begin v_token v_told v_undos v_changed v_felt v_wents v_wish v_trace, rA (q 8) cI 64 v_town]) [oX7 q v_size v_at v_begin v_token v_told v_undos v_changed v_felt v_wents v_wish v_trace, rA (q 8) cI 64 v_town] sz) 0 0 (va_A [oX7 q v_size v_at v_begin v_token v_told v_undos v_changed v_felt v_wents v_wish v_trace, rA (q 8) cI 64 v_town] sz) := by
  refine vx_meth_i (by decide) rfl (Nat.le_of_ble_eq_true rfl) ?_
  intro p e s m args below meth c A Q hx hb hml hown hts hK hP hD hA hS hret ls hl
  have hown : s.vm.findClass RX7 = some m.cls := hown
  have hl : lv_has ls 3 [(0, .ref (q 0)), (1, .int x1), (2, .int x2)] := hl
  have hFx : CallFix p m c cX7_guide 3 s args wsX7_guide RX7 := ⟨hx, hb, hml, hown, hts⟩
  have h := hf
  unfold f_X7_guide at h
  obtain ⟨H, eH⟩ : ∃ H, H = s.heap := ⟨_, rfl⟩
  rw [← eH] at hP ⊢
  obtain ⟨locs, el⟩ : ∃ locs : List Loc, locs = [] := ⟨_, rfl⟩
  rw [← el] at hS ⊢
  have hS : va_S A s.heap H locs := by rw [eH]; exact hS
  refine lv_aload_n hx hb dX7_guide_0 rfl (lv_at hl 0 rfl) ?_
  refine lv_iload_n hx hb dX7_guide_1 rfl (lv_at hl 1 rfl) ?_
  obtain ⟨r1, hr1, h⟩ := xk_some h
  refine vx_VJ (As := [.int x1]) (rest := []) hFx (k_X7_isGuide l D cI cZ cT q H.size v_size v_at v_begin v_token v_told v_undos v_changed v_felt v_wents v_wish v_trace v_town x1 r1 hr1) (cwV 1 hts gX7_guide_X7_isGuide rfl rfl rfl (by decide +kernel) ⟨Nat.le_of_ble_eq_true rfl, Nat.le_of_ble_eq_true rfl⟩) hK hP hD hS hA [0, 1] rfl rfl 7 0 rfl rfl rfl hl.1 rfl (Nat.le_of_ble_eq_true rfl) dX7_guide_2 ⟨Nat.zero_le _, Nat.zero_le _⟩ (fun H locs hP hS => ?_)
  refine lv_if_eq (tgt := 20) hx hb dX7_guide_5 (by decide) (fun c2 => ?_) (fun c2 => ?_)
  · have h := (if_pos c2).symm.trans h
    refine lv_iconst (v := (-1)) hx hb dX7_guide_20 (by decide) ?_
    exact hret (-1 : Int32) () H locs _ ls (Option.some.inj h) hP hD hS dX7_guide_21
  · have h := (if_neg c2).symm.trans h
    refine lv_iload_n hx hb dX7_guide_8 rfl (lv_at hl 2 rfl) ?_
    refine lv_i2l hx hb dX7_guide_9 rfl ?_
    refine lv_lconst (v := 0) hx hb dX7_guide_10 (by decide) ?_
    refine lv_ldc2 (v := (3)) hx hb hown (hts (.constantLong RX7 184 (3)) (by decide +kernel)) dX7_guide_11 ?_
    obtain ⟨r3, hr3, h⟩ := xk_some h
    refine vx_SJ (As := [.long x2.toInt64, .long (0 : Int64), .long (3 : Int64)]) (rest := []) hFx (k_X7_in l D cI cZ cT H.size x2.toInt64 (0 : Int64) (3 : Int64) r3 hr3) (vx_cwS 3 hts gX7_guide_X7_in rfl rfl rfl (by decide +kernel) ⟨Nat.le_of_ble_eq_true rfl, Nat.le_of_ble_eq_true rfl⟩) hK hP hD hS hA rfl hl.1 rfl (Nat.le_of_ble_eq_true rfl) dX7_guide_14 ⟨Nat.zero_le _, Nat.zero_le _⟩ (fun H locs hP hS => ?_)
    refine lv_if_ne (tgt := 22) hx hb dX7_guide_17 (by decide) (fun c4 => ?_) (fun c4 => ?_)
    · have h := (if_neg c4).symm.trans h
      refine lv_iload_n hx hb dX7_guide_22 rfl (lv_at hl 2 rfl) ?_
      refine lv_if_ne (tgt := 34) hx hb dX7_guide_23 (by decide) (fun c5 => ?_) (fun c5 => ?_)
      · have h := (if_neg c5).symm.trans h
        refine lv_iload_n hx hb dX7_guide_34 rfl (lv_at hl 2 rfl) ?_
        refine lv_iconst (v := 1) hx hb dX7_guide_35 (by decide) ?_
        refine lv_icmp_ne (tgt := 47) hx hb dX7_guide_36 (by decide) (fun c6 => ?_) (fun c6 => ?_)
        · have h := (if_neg c6).symm.trans h
          refine lv_iload_n hx hb dX7_guide_47 rfl (lv_at hl 2 rfl) ?_
          refine lv_iconst (v := 2) hx hb dX7_guide_48 (by decide) ?_
          refine lv_icmp_ne (tgt := 60) hx hb dX7_guide_49 (by decide) (fun c7 => ?_) (fun c7 => ?_)
          · have h := (if_neg c7).symm.trans h
            refine lv_aload_n hx hb dX7_guide_60 rfl (lv_at hl 0 rfl) ?_
            refine lv_iload_n hx hb dX7_guide_61 rfl (lv_at hl 1 rfl) ?_
            obtain ⟨r8, hr8, h⟩ := xk_some h
            refine vx_VJ (As := [.int x1]) (rest := []) hFx (k_X7_his l D cI cZ cT q H.size v_size v_at v_begin v_token v_told v_undos v_changed v_felt v_wents v_wish v_trace v_town x1 r8 hr8) (cwV 1 hts gX7_guide_X7_his rfl rfl rfl (by decide +kernel) ⟨Nat.le_of_ble_eq_true rfl, Nat.le_of_ble_eq_true rfl⟩) hK hP hD hS hA [0, 1] rfl rfl 7 0 rfl rfl rfl hl.1 rfl (Nat.le_of_ble_eq_true rfl) dX7_guide_62 ⟨Nat.zero_le _, Nat.zero_le _⟩ (fun H locs hP hS => ?_)
            exact hret r8 () H locs _ ls (Option.some.inj h) hP hD hS dX7_guide_65
          · have h := (if_pos c7).symm.trans h
            refine lv_aload_n hx hb dX7_guide_52 rfl (lv_at hl 0 rfl) ?_
            refine lv_iload_n hx hb dX7_guide_53 rfl (lv_at hl 1 rfl) ?_
            obtain ⟨r9, hr9, h⟩ := xk_some h
            refine vx_VJ (As := [.int x1]) (rest := []) hFx (k_X7_known l D cI cZ cT q H.size v_size v_at v_begin v_token v_told v_undos v_changed v_felt v_wents v_wish v_trace v_town x1 r9 hr9) (cwV 1 hts gX7_guide_X7_known rfl rfl rfl (by decide +kernel) ⟨Nat.le_of_ble_eq_true rfl, Nat.le_of_ble_eq_true rfl⟩) hK hP hD hS hA [0, 1] rfl rfl 7 0 rfl rfl rfl hl.1 rfl (Nat.le_of_ble_eq_true rfl) dX7_guide_54 ⟨Nat.zero_le _, Nat.zero_le _⟩ (fun H locs hP hS => ?_)
            refine lv_goto (tgt := 65) hx hb dX7_guide_57 (by decide) ?_
            exact hret r9 () H locs _ ls (Option.some.inj h) hP hD hS dX7_guide_65
        · have h := (if_pos c6).symm.trans h
          refine lv_aload_n hx hb dX7_guide_39 rfl (lv_at hl 0 rfl) ?_
          refine lv_iload_n hx hb dX7_guide_40 rfl (lv_at hl 1 rfl) ?_
          obtain ⟨r10, hr10, h⟩ := xk_some h
          refine vx_VJ (As := [.int x1]) (rest := []) hFx (k_X7_fee l D cI cZ cT q H.size v_size v_at v_begin v_token v_told v_undos v_changed v_felt v_wents v_wish v_trace v_town x1 r10 hr10) (cwV 1 hts gX7_guide_X7_fee rfl rfl rfl (by decide +kernel) ⟨Nat.le_of_ble_eq_true rfl, Nat.le_of_ble_eq_true rfl⟩) hK hP hD hS hA [0, 1] rfl rfl 7 0 rfl rfl rfl hl.1 rfl (Nat.le_of_ble_eq_true rfl) dX7_guide_41 ⟨Nat.zero_le _, Nat.zero_le _⟩ (fun H locs hP hS => ?_)
          refine lv_goto (tgt := 65) hx hb dX7_guide_44 (by decide) ?_
          exact hret r10 () H locs _ ls (Option.some.inj h) hP hD hS dX7_guide_65
      · have h := (if_pos c5).symm.trans h
        refine lv_aload_n hx hb dX7_guide_26 rfl (lv_at hl 0 rfl) ?_
        refine lv_iload_n hx hb dX7_guide_27 rfl (lv_at hl 1 rfl) ?_
        obtain ⟨r11, hr11, h⟩ := xk_some h
        refine vx_VJ (As := [.int x1]) (rest := []) hFx (k_X7_pace l D cI cZ cT q H.size v_size v_at v_begin v_token v_told v_undos v_changed v_felt v_wents v_wish v_trace v_town x1 r11 hr11) (cwV 1 hts gX7_guide_X7_pace rfl rfl rfl (by decide +kernel) ⟨Nat.le_of_ble_eq_true rfl, Nat.le_of_ble_eq_true rfl⟩) hK hP hD hS hA [0, 1] rfl rfl 7 0 rfl rfl rfl hl.1 rfl (Nat.le_of_ble_eq_true rfl) dX7_guide_28 ⟨Nat.zero_le _, Nat.zero_le _⟩ (fun H locs hP hS => ?_)
        refine lv_goto (tgt := 65) hx hb dX7_guide_31 (by decide) ?_
        exact hret r11 () H locs _ ls (Option.some.inj h) hP hD hS dX7_guide_65
    · have h := (if_pos c4).symm.trans h
      refine lv_iconst (v := (-1)) hx hb dX7_guide_20 (by decide) ?_
      exact hret (-1 : Int32) () H locs _ ls (Option.some.inj h) hP hD hS dX7_guide_21
abbrev rm_X7_isThick : Room := { frames := 0, cells := 0, slots := 0, locals := 0 }
set_option maxHeartbeats 4000000 in
set_option maxRecDepth 100000 in
theorem k_X7_isThick (l : Launch) (D : va_G) (cI cZ cT : ClassId) (q : Nat → Nat) (sz : Nat) (v_size : Int32) (v_at : Int32) (v_begin : Int32) (v_token : Int32) (v_told : Int32) (v_undos : Int32) (v_changed : Int32) (v_felt : Int32) (v_wents : Int32) (v_wish : Int32) (v_trace : Int64) (v_town : Nat → Int32) (x1 : Int32) (res : R_X7_isThick) (hf : f_X7_isThick v_town x1 = some res) : Met l yX7_isThick wsX7_isThick rm_X7_isThick (cPre D (tyz cI cZ cT) [.ref (q 0), .int x1] sz [oX7 q v_size v_at v_begin v_token v_told v_undos v_changed v_felt v_wents v_wish v_trace, rA (q 8) cI 64 v_town]) (cPi D (tyz cI cZ cT) (fun (r : Int32) (_ : Unit) => r = res) (fun _ => [oX7 q v_size v_at v_begin v_token v_told v_undos v_changed v_felt v_wents v_wish v_trace, rA (q 8) cI 64 v_town]) [oX7 q v_size v_at v_begin v_token v_told v_undos v_changed v_felt v_wents v_wish v_trace, rA (q 8) cI 64 v_town] sz) 0 0 (va_A [oX7 q v_size v_at v_begin v_token v_told v_undos v_changed v_felt v_wents v_wish v_trace, rA (q 8) cI 64 v_town] sz) := by
  refine vx_meth_z (by decide) rfl (Nat.le_of_ble_eq_true rfl) ?_
  intro p e s m args below meth c A Q hx hb hml hown hts hK hP hD hA hS hret ls hl
  have hown : s.vm.findClass RX7 = some m.cls := hown
  have hl : lv_has ls 2 [(0, .ref (q 0)), (1, .int x1)] := hl
  have hFx : CallFix p m c cX7_isThick 2 s args wsX7_isThick RX7 := ⟨hx, hb, hml, hown, hts⟩
  have lk16 := hts (.fieldLink RX7 16 "FogGuidesModel" "town" "[I") (by decide +kernel)
  have iw7 : ∀ w ∈ u_ws RX7 TX7 34, w ∈ wsX7_isThick := by decide +kernel
  have h := hf
  unfold f_X7_isThick at h
  obtain ⟨H, eH⟩ : ∃ H, H = s.heap := ⟨_, rfl⟩
  rw [← eH] at hP ⊢
  obtain ⟨locs, el⟩ : ∃ locs : List Loc, locs = [] := ⟨_, rfl⟩
  rw [← el] at hS ⊢
  have hS : va_S A s.heap H locs := by rw [eH]; exact hS
  refine lv_aload_n hx hb dX7_isThick_0 rfl (lv_at hl 0 rfl) ?_
  refine va_get (C := RX7) (T := TX7) (N := 34) (v := .ref (q 8)) hx hb hts iw7 hown hK hP 0 rfl rfl 7 (Nat.le_of_ble_eq_true rfl) lk16 (fun _ h9 => h9) rfl dX7_isThick_1 ?_
  refine lv_iconst (v := 4) hx hb dX7_isThick_4 (by decide) ?_
  obtain ⟨hi1, h⟩ := xb_some h
  refine va_iald hx hb hK hP 1 0 rfl rfl hi1 dX7_isThick_5 ?_
  refine lv_if_eq (tgt := 32) hx hb dX7_isThick_6 (by decide) (fun c2 => ?_) (fun c2 => ?_)
  · have h := (if_pos c2).symm.trans h
    refine lv_iconst (v := 1) hx hb dX7_isThick_32 (by decide) ?_
    refine lv_goto (tgt := 37) hx hb dX7_isThick_33 (by decide) ?_
    exact hret (1 : Int32) () H locs _ ls (Or.inr rfl) (Option.some.inj h) hP hD hS dX7_isThick_37
  · have h := (if_neg c2).symm.trans h
    refine lv_aload_n hx hb dX7_isThick_9 rfl (lv_at hl 0 rfl) ?_
    refine va_get (C := RX7) (T := TX7) (N := 34) (v := .ref (q 8)) hx hb hts iw7 hown hK hP 0 rfl rfl 7 (Nat.le_of_ble_eq_true rfl) lk16 (fun _ h9 => h9) rfl dX7_isThick_10 ?_
    refine lv_bipush (v := 56) hx hb dX7_isThick_13 (by decide) ?_
    refine lv_iload_n hx hb dX7_isThick_15 rfl (lv_at hl 1 rfl) ?_
    refine lv_bipush (v := 10) hx hb dX7_isThick_16 (by decide) ?_
    refine lv_idiv hx hb dX7_isThick_18 (by decide) ?_
    refine lv_aload_n hx hb dX7_isThick_19 rfl (lv_at hl 0 rfl) ?_
    refine va_get (C := RX7) (T := TX7) (N := 34) (v := .ref (q 8)) hx hb hts iw7 hown hK hP 0 rfl rfl 7 (Nat.le_of_ble_eq_true rfl) lk16 (fun _ h9 => h9) rfl dX7_isThick_20 ?_
    refine lv_iconst (v := 4) hx hb dX7_isThick_23 (by decide) ?_
    obtain ⟨hi3, h⟩ := xb_some h
    refine va_iald hx hb hK hP 1 0 rfl rfl hi3 dX7_isThick_24 ?_
    obtain ⟨hd6, h⟩ := xd_some h
    refine lv_irem hx hb dX7_isThick_25 hd6 ?_
    refine lv_iadd hx hb dX7_isThick_26 ?_
    obtain ⟨hi4, h⟩ := xb_some h
    refine va_iald hx hb hK hP 1 0 rfl rfl hi4 dX7_isThick_27 ?_
    refine lv_iconst (v := 1) hx hb dX7_isThick_28 (by decide) ?_
    refine lv_icmp_ne (tgt := 36) hx hb dX7_isThick_29 (by decide) (fun c5 => ?_) (fun c5 => ?_)
    · have h := (if_neg c5).symm.trans h
      refine lv_iconst (v := 0) hx hb dX7_isThick_36 (by decide) ?_
      exact hret (0 : Int32) () H locs _ ls (Or.inl rfl) (Option.some.inj h) hP hD hS dX7_isThick_37
    · have h := (if_pos c5).symm.trans h
      refine lv_iconst (v := 1) hx hb dX7_isThick_32 (by decide) ?_
      refine lv_goto (tgt := 37) hx hb dX7_isThick_33 (by decide) ?_
      exact hret (1 : Int32) () H locs _ ls (Or.inr rfl) (Option.some.inj h) hP hD hS dX7_isThick_37
abbrev rm_X7_isThin : Room := { frames := 1, cells := 0, slots := 0, locals := 21 }
set_option maxHeartbeats 4000000 in
set_option maxRecDepth 100000 in
theorem k_X7_isThin (l : Launch) (D : va_G) (cI cZ cT : ClassId) (q : Nat → Nat) (sz : Nat) (v_size : Int32) (v_at : Int32) (v_begin : Int32) (v_token : Int32) (v_told : Int32) (v_undos : Int32) (v_changed : Int32) (v_felt : Int32) (v_wents : Int32) (v_wish : Int32) (v_trace : Int64) (v_town : Nat → Int32) (x1 : Int32) (x2 : Int32) (res : R_X7_isThin) (fu : Nat) (hf : f_X7_isThin fu v_town x1 x2 = some res) : Met l yX7_isThin wsX7_isThin rm_X7_isThin (cPre D (tyz cI cZ cT) [.ref (q 0), .int x1, .int x2] sz [oX7 q v_size v_at v_begin v_token v_told v_undos v_changed v_felt v_wents v_wish v_trace, rA (q 8) cI 64 v_town]) (cPi D (tyz cI cZ cT) (fun (r : Int32) (_ : Unit) => r = res) (fun _ => [oX7 q v_size v_at v_begin v_token v_told v_undos v_changed v_felt v_wents v_wish v_trace, rA (q 8) cI 64 v_town]) [oX7 q v_size v_at v_begin v_token v_told v_undos v_changed v_felt v_wents v_wish v_trace, rA (q 8) cI 64 v_town] sz) 0 0 (va_A [oX7 q v_size v_at v_begin v_token v_told v_undos v_changed v_felt v_wents v_wish v_trace, rA (q 8) cI 64 v_town] sz) := by
  refine vx_meth_z (by decide) rfl (Nat.le_of_ble_eq_true rfl) ?_
  intro p e s m args below meth c A Q hx hb hml hown hts hK hP hD hA hS hret ls hl
  have hown : s.vm.findClass RX7 = some m.cls := hown
  have hl : lv_has ls 5 [(0, .ref (q 0)), (1, .int x1), (2, .int x2)] := hl
  have hFx : CallFix p m c cX7_isThin 5 s args wsX7_isThin RX7 := ⟨hx, hb, hml, hown, hts⟩
  have hL5 : ∀ (n5 : Nat), ∀ (x1 : Int32) (x2 : Int32) (x3 : Int32) (x4 : Int32) (H : Heap) (locs : List Loc) (ls : Array Slot), f_X7_isThin_L5 fu n5 v_town x1 x2 x3 x4 = some res → va_P D vwCl [oX7 q v_size v_at v_begin v_token v_told v_undos v_changed v_felt v_wents v_wish v_trace, rA (q 8) cI 64 v_town] H → va_D A [oX7 q v_size v_at v_begin v_token v_told v_undos v_changed v_felt v_wents v_wish v_trace, rA (q 8) cI 64 v_town] → va_S A s.heap H locs → lv_has ls 5 [(0, .ref (q 0)), (1, .int x1), (2, .int x2), (3, .int x3), (4, .int x4)] → W p l e rm_X7_isThin s m args below meth c H locs 0 0 Q (F0 m 5 ls []) := by
    intro n5
    induction n5 with
    | zero =>
      intro x1 x2 x3 x4 H locs ls h hP hD hS hl
      cases (show (none : Option R_X7_isThin) = some res from h)
    | succ n5 ih5 =>
      intro x1 x2 x3 x4 H locs ls h hP hD hS hl
      have h : f_X7_isThin_L5b fu (f_X7_isThin_L5 fu n5) v_town x1 x2 x3 x4 = some res := h
      unfold f_X7_isThin_L5b at h
      refine lv_iload hx hb dX7_isThin_5 (lv_at hl 4 rfl) ?_
      refine lv_iload_n hx hb dX7_isThin_7 rfl (lv_at hl 2 rfl) ?_
      refine lv_icmp_ge (tgt := 38) hx hb dX7_isThin_8 (by decide) (fun c1 => ?_) (fun c1 => ?_)
      · have h := (if_pos c1).symm.trans h
        refine lv_iload_n hx hb dX7_isThin_38 rfl (lv_at hl 3 rfl) ?_
        obtain ⟨hz2, h⟩ := xz_some h
        exact hret x3 () H locs _ ls hz2 (Option.some.inj h) hP hD hS dX7_isThin_39
      · have h := (if_neg c1).symm.trans h
        refine lv_iload_n hx hb dX7_isThin_11 rfl (lv_at hl 3 rfl) ?_
        refine lv_if_eq (tgt := 30) hx hb dX7_isThin_12 (by decide) (fun c3 => ?_) (fun c3 => ?_)
        · have h := (if_pos c3).symm.trans h
          refine lv_iconst (v := 0) hx hb dX7_isThin_30 (by decide) ?_
          refine lv_istore_n (lv' := [(3, .int (0 : Int32)), (0, .ref (q 0)), (1, .int x1), (2, .int x2), (4, .int x4)]) hx hb dX7_isThin_31 rfl hl (by decide) rfl (fun ls hl => ?_)
          refine lv_iinc (v := x4 + 1) (lv' := [(4, .int (x4 + 1)), (3, .int (0 : Int32)), (0, .ref (q 0)), (1, .int x1), (2, .int x2)]) hx hb dX7_isThin_32 hl (k := 4) rfl rfl (by decide) rfl (fun ls hl => ?_)
          refine lv_goto (tgt := 5) hx hb dX7_isThin_35 (by decide) ?_
          exact ih5 x1 x2 (0 : Int32) (x4 + 1) H locs ls h hP hD hS (lv_sub hl [2, 3, 4, 1, 0] rfl)
        · have h := (if_neg c3).symm.trans h
          refine lv_aload_n hx hb dX7_isThin_15 rfl (lv_at hl 0 rfl) ?_
          refine lv_iload_n hx hb dX7_isThin_16 rfl (lv_at hl 1 rfl) ?_
          refine lv_iload hx hb dX7_isThin_17 (lv_at hl 4 rfl) ?_
          refine lv_iadd hx hb dX7_isThin_19 ?_
          obtain ⟨r4, hr4, h⟩ := xk_some h
          refine vx_VJ (As := [.int (x1 + x4)]) (rest := []) hFx (k_X7_isThick l D cI cZ cT q H.size v_size v_at v_begin v_token v_told v_undos v_changed v_felt v_wents v_wish v_trace v_town (x1 + x4) r4 hr4) (cwV 1 hts gX7_isThin_X7_isThick rfl rfl rfl (by decide +kernel) ⟨Nat.le_of_ble_eq_true rfl, Nat.le_of_ble_eq_true rfl⟩) hK hP hD hS hA [0, 1] rfl rfl 7 0 rfl rfl rfl hl.1 rfl (Nat.le_of_ble_eq_true rfl) dX7_isThin_20 ⟨Nat.zero_le _, Nat.zero_le _⟩ (fun H locs hP hS => ?_)
          refine lv_if_ne (tgt := 30) hx hb dX7_isThin_23 (by decide) (fun c5 => ?_) (fun c5 => ?_)
          · have h := (if_neg c5).symm.trans h
            refine lv_iconst (v := 0) hx hb dX7_isThin_30 (by decide) ?_
            refine lv_istore_n (lv' := [(3, .int (0 : Int32)), (0, .ref (q 0)), (1, .int x1), (2, .int x2), (4, .int x4)]) hx hb dX7_isThin_31 rfl hl (by decide) rfl (fun ls hl => ?_)
            refine lv_iinc (v := x4 + 1) (lv' := [(4, .int (x4 + 1)), (3, .int (0 : Int32)), (0, .ref (q 0)), (1, .int x1), (2, .int x2)]) hx hb dX7_isThin_32 hl (k := 4) rfl rfl (by decide) rfl (fun ls hl => ?_)
            refine lv_goto (tgt := 5) hx hb dX7_isThin_35 (by decide) ?_
            exact ih5 x1 x2 (0 : Int32) (x4 + 1) H locs ls h hP hD hS (lv_sub hl [2, 3, 4, 1, 0] rfl)
          · have h := (if_pos c5).symm.trans h
            refine lv_iconst (v := 1) hx hb dX7_isThin_26 (by decide) ?_
            refine lv_goto (tgt := 31) hx hb dX7_isThin_27 (by decide) ?_
            refine lv_istore_n (lv' := [(3, .int (1 : Int32)), (0, .ref (q 0)), (1, .int x1), (2, .int x2), (4, .int x4)]) hx hb dX7_isThin_31 rfl hl (by decide) rfl (fun ls hl => ?_)
            refine lv_iinc (v := x4 + 1) (lv' := [(4, .int (x4 + 1)), (3, .int (1 : Int32)), (0, .ref (q 0)), (1, .int x1), (2, .int x2)]) hx hb dX7_isThin_32 hl (k := 4) rfl rfl (by decide) rfl (fun ls hl => ?_)
            refine lv_goto (tgt := 5) hx hb dX7_isThin_35 (by decide) ?_
            exact ih5 x1 x2 (1 : Int32) (x4 + 1) H locs ls h hP hD hS (lv_sub hl [2, 3, 4, 1, 0] rfl)
  have h := hf
  unfold f_X7_isThin at h
  obtain ⟨H, eH⟩ : ∃ H, H = s.heap := ⟨_, rfl⟩
  rw [← eH] at hP ⊢
  obtain ⟨locs, el⟩ : ∃ locs : List Loc, locs = [] := ⟨_, rfl⟩
  rw [← el] at hS ⊢
  have hS : va_S A s.heap H locs := by rw [eH]; exact hS
  refine lv_iconst (v := 1) hx hb dX7_isThin_0 (by decide) ?_
  refine lv_istore_n (lv' := [(3, .int (1 : Int32)), (0, .ref (q 0)), (1, .int x1), (2, .int x2)]) hx hb dX7_isThin_1 rfl hl (by decide) rfl (fun ls hl => ?_)
  refine lv_iconst (v := 0) hx hb dX7_isThin_2 (by decide) ?_
  refine lv_istore (lv' := [(4, .int (0 : Int32)), (3, .int (1 : Int32)), (0, .ref (q 0)), (1, .int x1), (2, .int x2)]) hx hb dX7_isThin_3 hl (by decide) rfl (fun ls hl => ?_)
  exact hL5 fu x1 x2 (1 : Int32) (0 : Int32) H locs ls h hP hD hS (lv_sub hl [2, 3, 4, 1, 0] rfl)
abbrev rm_X7_fog : Room := { frames := 1, cells := 0, slots := 0, locals := 25 }
set_option maxHeartbeats 4000000 in
set_option maxRecDepth 100000 in
theorem k_X7_fog (l : Launch) (D : va_G) (cI cZ cT : ClassId) (q : Nat → Nat) (sz : Nat) (v_size : Int32) (v_at : Int32) (v_begin : Int32) (v_token : Int32) (v_told : Int32) (v_undos : Int32) (v_changed : Int32) (v_felt : Int32) (v_wents : Int32) (v_wish : Int32) (v_trace : Int64) (v_town : Nat → Int32) (x1 : Int32) (res : R_X7_fog) (hf : f_X7_fog v_town x1 = some res) : Met l yX7_fog wsX7_fog rm_X7_fog (cPre D (tyz cI cZ cT) [.ref (q 0), .int x1] sz [oX7 q v_size v_at v_begin v_token v_told v_undos v_changed v_felt v_wents v_wish v_trace, rA (q 8) cI 64 v_town]) (cPi D (tyz cI cZ cT) (fun (r : Int32) (_ : Unit) => r = res) (fun _ => [oX7 q v_size v_at v_begin v_token v_told v_undos v_changed v_felt v_wents v_wish v_trace, rA (q 8) cI 64 v_town]) [oX7 q v_size v_at v_begin v_token v_told v_undos v_changed v_felt v_wents v_wish v_trace, rA (q 8) cI 64 v_town] sz) 0 0 (va_A [oX7 q v_size v_at v_begin v_token v_told v_undos v_changed v_felt v_wents v_wish v_trace, rA (q 8) cI 64 v_town] sz) := by
  refine vx_meth_i (by decide) rfl (Nat.le_of_ble_eq_true rfl) ?_
  intro p e s m args below meth c A Q hx hb hml hown hts hK hP hD hA hS hret ls hl
  have hown : s.vm.findClass RX7 = some m.cls := hown
  have hl : lv_has ls 2 [(0, .ref (q 0)), (1, .int x1)] := hl
  have hFx : CallFix p m c cX7_fog 2 s args wsX7_fog RX7 := ⟨hx, hb, hml, hown, hts⟩
  have h := hf
  unfold f_X7_fog at h
  obtain ⟨H, eH⟩ : ∃ H, H = s.heap := ⟨_, rfl⟩
  rw [← eH] at hP ⊢
  obtain ⟨locs, el⟩ : ∃ locs : List Loc, locs = [] := ⟨_, rfl⟩
  rw [← el] at hS ⊢
  have hS : va_S A s.heap H locs := by rw [eH]; exact hS
  refine lv_iload_n hx hb dX7_fog_0 rfl (lv_at hl 1 rfl) ?_
  refine lv_i2l hx hb dX7_fog_1 rfl ?_
  refine lv_lconst (v := 0) hx hb dX7_fog_2 (by decide) ?_
  refine lv_ldc2 (v := (9999)) hx hb hown (hts (.constantLong RX7 198 (9999)) (by decide +kernel)) dX7_fog_3 ?_
  obtain ⟨r1, hr1, h⟩ := xk_some h
  refine vx_SJ (As := [.long x1.toInt64, .long (0 : Int64), .long (9999 : Int64)]) (rest := []) hFx (k_X7_in l D cI cZ cT H.size x1.toInt64 (0 : Int64) (9999 : Int64) r1 hr1) (vx_cwS 3 hts gX7_fog_X7_in rfl rfl rfl (by decide +kernel) ⟨Nat.le_of_ble_eq_true rfl, Nat.le_of_ble_eq_true rfl⟩) hK hP hD hS hA rfl hl.1 rfl (Nat.le_of_ble_eq_true rfl) dX7_fog_6 ⟨Nat.zero_le _, Nat.zero_le _⟩ (fun H locs hP hS => ?_)
  refine lv_if_ne (tgt := 16) hx hb dX7_fog_9 (by decide) (fun c2 => ?_) (fun c2 => ?_)
  · have h := (if_neg c2).symm.trans h
    refine lv_aload_n hx hb dX7_fog_16 rfl (lv_at hl 0 rfl) ?_
    refine lv_iload_n hx hb dX7_fog_17 rfl (lv_at hl 1 rfl) ?_
    obtain ⟨r3, hr3, h⟩ := xk_some h
    refine vx_VJ (As := [.int x1]) (rest := []) hFx (k_X7_isThick l D cI cZ cT q H.size v_size v_at v_begin v_token v_told v_undos v_changed v_felt v_wents v_wish v_trace v_town x1 r3 hr3) (cwV 1 hts gX7_fog_X7_isThick rfl rfl rfl (by decide +kernel) ⟨Nat.le_of_ble_eq_true rfl, Nat.le_of_ble_eq_true rfl⟩) hK hP hD hS hA [0, 1] rfl rfl 7 0 rfl rfl rfl hl.1 rfl (Nat.le_of_ble_eq_true rfl) dX7_fog_18 ⟨Nat.zero_le _, Nat.zero_le _⟩ (fun H locs hP hS => ?_)
    refine lv_if_eq (tgt := 28) hx hb dX7_fog_21 (by decide) (fun c4 => ?_) (fun c4 => ?_)
    · have h := (if_pos c4).symm.trans h
      refine lv_iconst (v := 0) hx hb dX7_fog_28 (by decide) ?_
      exact hret (0 : Int32) () H locs _ ls (Option.some.inj h) hP hD hS dX7_fog_29
    · have h := (if_neg c4).symm.trans h
      refine lv_iconst (v := 1) hx hb dX7_fog_24 (by decide) ?_
      refine lv_goto (tgt := 29) hx hb dX7_fog_25 (by decide) ?_
      exact hret (1 : Int32) () H locs _ ls (Option.some.inj h) hP hD hS dX7_fog_29
  · have h := (if_pos c2).symm.trans h
    refine lv_iconst (v := (-1)) hx hb dX7_fog_12 (by decide) ?_
    refine lv_goto (tgt := 29) hx hb dX7_fog_13 (by decide) ?_
    exact hret (-1 : Int32) () H locs _ ls (Option.some.inj h) hP hD hS dX7_fog_29
abbrev rm_X7_notes : Room := { frames := 0, cells := 0, slots := 0, locals := 0 }
set_option maxHeartbeats 4000000 in
set_option maxRecDepth 100000 in
theorem k_X7_notes (l : Launch) (D : va_G) (cI cZ cT : ClassId) (q : Nat → Nat) (sz : Nat) (v_size : Int32) (v_at : Int32) (v_begin : Int32) (v_token : Int32) (v_told : Int32) (v_undos : Int32) (v_changed : Int32) (v_felt : Int32) (v_wents : Int32) (v_wish : Int32) (v_trace : Int64) (v_now : Nat → Int32) (v_undone : Nat → Int32) (res : R_X7_notes) (fu : Nat) (hf : f_X7_notes fu v_now v_undone v_undos = some res) : Met l yX7_notes wsX7_notes rm_X7_notes (cPre D (tyz cI cZ cT) [.ref (q 0)] sz [oX7 q v_size v_at v_begin v_token v_told v_undos v_changed v_felt v_wents v_wish v_trace, rA (q 9) cI 4 v_now, rA (q 10) cI 40 v_undone]) (cPv D (tyz cI cZ cT) (fun (u : (Nat → Int32) × Int32) => u = res) (fun u => [oX7 q v_size v_at v_begin v_token v_told u.2 v_changed v_felt v_wents v_wish v_trace, rA (q 9) cI 4 v_now, rA (q 10) cI 40 u.1]) [oX7 q v_size v_at v_begin v_token v_told v_undos v_changed v_felt v_wents v_wish v_trace, rA (q 9) cI 4 v_now, rA (q 10) cI 40 v_undone] sz) 0 0 (va_A [oX7 q v_size v_at v_begin v_token v_told v_undos v_changed v_felt v_wents v_wish v_trace, rA (q 9) cI 4 v_now, rA (q 10) cI 40 v_undone] sz) := by
  refine vx_meth_v (by decide) rfl (Nat.le_of_ble_eq_true rfl) ?_
  intro p e s m args below meth c A Q hx hb hml hown hts hK hP hD hA hS hret ls hl
  have hown : s.vm.findClass RX7 = some m.cls := hown
  have hl : lv_has ls 2 [(0, .ref (q 0))] := hl
  have hFx : CallFix p m c cX7_notes 2 s args wsX7_notes RX7 := ⟨hx, hb, hml, hown, hts⟩
  have lk166 := hts (.fieldLink RX7 166 "FogGuidesModel" "undos" "I") (by decide +kernel)
  have iw7 : ∀ w ∈ u_ws RX7 TX7 34, w ∈ wsX7_notes := by decide +kernel
  have lk22 := hts (.fieldLink RX7 22 "FogGuidesModel" "undone" "[I") (by decide +kernel)
  have lk19 := hts (.fieldLink RX7 19 "FogGuidesModel" "now" "[I") (by decide +kernel)
  have hL45 : ∀ (n45 : Nat), ∀ (v_undone : (Nat → Int32)) (v_undos : Int32) (x1 : Int32) (H : Heap) (locs : List Loc) (ls : Array Slot), f_X7_notes_L45 fu n45 v_now v_undone v_undos x1 = some res → va_P D vwCl [oX7 q v_size v_at v_begin v_token v_told v_undos v_changed v_felt v_wents v_wish v_trace, rA (q 9) cI 4 v_now, rA (q 10) cI 40 v_undone] H → va_D A [oX7 q v_size v_at v_begin v_token v_told v_undos v_changed v_felt v_wents v_wish v_trace, rA (q 9) cI 4 v_now, rA (q 10) cI 40 v_undone] → va_S A s.heap H locs → lv_has ls 2 [(0, .ref (q 0)), (1, .int x1)] → W p l e rm_X7_notes s m args below meth c H locs 0 0 Q (F0 m 45 ls []) := by
    intro n45
    induction n45 with
    | zero =>
      intro v_undone v_undos x1 H locs ls h hP hD hS hl
      cases (show (none : Option R_X7_notes) = some res from h)
    | succ n45 ih45 =>
      intro v_undone v_undos x1 H locs ls h hP hD hS hl
      have h : f_X7_notes_L45b fu (f_X7_notes_L45 fu n45) v_now v_undone v_undos x1 = some res := h
      unfold f_X7_notes_L45b at h
      refine lv_iload_n hx hb dX7_notes_45 rfl (lv_at hl 1 rfl) ?_
      refine lv_iconst (v := 4) hx hb dX7_notes_46 (by decide) ?_
      refine lv_icmp_ge (tgt := 75) hx hb dX7_notes_47 (by decide) (fun c1 => ?_) (fun c1 => ?_)
      · have h := (if_pos c1).symm.trans h
        refine lv_aload_n hx hb dX7_notes_75 rfl (lv_at hl 0 rfl) ?_
        refine lv_dup hx hb dX7_notes_76 rfl ?_
        refine va_get (C := RX7) (T := TX7) (N := 34) (v := .int v_undos) hx hb hts iw7 hown hK hP 0 rfl rfl 10 (Nat.le_of_ble_eq_true rfl) lk166 (fun _ h9 => h9) rfl dX7_notes_77 ?_
        refine lv_iconst (v := 1) hx hb dX7_notes_80 (by decide) ?_
        refine lv_iadd hx hb dX7_notes_81 ?_
        refine va_put (C := RX7) (T := TX7) (N := 34) (v := .int (v_undos + (1 : Int32))) (ty := .int) hx hb hts iw7 tyX7 tyX7_ok nmX7 hown hK hP hD hS 0 rfl rfl 10 (Nat.le_of_ble_eq_true rfl) lk166 (fun _ h9 => h9) rfl (by decide +kernel) rfl rfl (Nat.le_of_ble_eq_true rfl) dX7_notes_82 (fun H locs hP hD hS => ?_)
        have hP : va_P D vwCl [oX7 q v_size v_at v_begin v_token v_told (v_undos + (1 : Int32)) v_changed v_felt v_wents v_wish v_trace, rA (q 9) cI 4 v_now, rA (q 10) cI 40 v_undone] H := hP
        have hD : va_D A [oX7 q v_size v_at v_begin v_token v_told (v_undos + (1 : Int32)) v_changed v_felt v_wents v_wish v_trace, rA (q 9) cI 4 v_now, rA (q 10) cI 40 v_undone] := hD
        exact hret ((v_undone, v_undos + (1 : Int32))) H locs _ ls (Option.some.inj h) hP hD hS dX7_notes_85
      · have h := (if_neg c1).symm.trans h
        refine lv_aload_n hx hb dX7_notes_50 rfl (lv_at hl 0 rfl) ?_
        refine va_get (C := RX7) (T := TX7) (N := 34) (v := .ref (q 10)) hx hb hts iw7 hown hK hP 0 rfl rfl 9 (Nat.le_of_ble_eq_true rfl) lk22 (fun _ h9 => h9) rfl dX7_notes_51 ?_
        refine lv_iconst (v := 4) hx hb dX7_notes_54 (by decide) ?_
        refine lv_aload_n hx hb dX7_notes_55 rfl (lv_at hl 0 rfl) ?_
        refine va_get (C := RX7) (T := TX7) (N := 34) (v := .int v_undos) hx hb hts iw7 hown hK hP 0 rfl rfl 10 (Nat.le_of_ble_eq_true rfl) lk166 (fun _ h9 => h9) rfl dX7_notes_56 ?_
        refine lv_imul hx hb dX7_notes_59 ?_
        refine lv_iload_n hx hb dX7_notes_60 rfl (lv_at hl 1 rfl) ?_
        refine lv_iadd hx hb dX7_notes_61 ?_
        refine lv_aload_n hx hb dX7_notes_62 rfl (lv_at hl 0 rfl) ?_
        refine va_get (C := RX7) (T := TX7) (N := 34) (v := .ref (q 9)) hx hb hts iw7 hown hK hP 0 rfl rfl 8 (Nat.le_of_ble_eq_true rfl) lk19 (fun _ h9 => h9) rfl dX7_notes_63 ?_
        refine lv_iload_n hx hb dX7_notes_66 rfl (lv_at hl 1 rfl) ?_
        obtain ⟨hi2, h⟩ := xb_some h
        refine va_iald hx hb hK hP 1 0 rfl rfl hi2 dX7_notes_67 ?_
        obtain ⟨hi3, h⟩ := xb_some h
        refine va_iast hx hb hK hP hD hS 2 0 rfl rfl hi3 dX7_notes_68 (fun H locs hP hD hS => ?_)
        have hP : va_P D vwCl [oX7 q v_size v_at v_begin v_token v_told v_undos v_changed v_felt v_wents v_wish v_trace, rA (q 9) cI 4 v_now, rA (q 10) cI 40 (upd v_undone (((4 : Int32) * v_undos) + x1).toNatClampNeg (v_now x1.toNatClampNeg))] H := hP
        have hD : va_D A [oX7 q v_size v_at v_begin v_token v_told v_undos v_changed v_felt v_wents v_wish v_trace, rA (q 9) cI 4 v_now, rA (q 10) cI 40 (upd v_undone (((4 : Int32) * v_undos) + x1).toNatClampNeg (v_now x1.toNatClampNeg))] := hD
        refine lv_iinc (v := x1 + 1) (lv' := [(1, .int (x1 + 1)), (0, .ref (q 0))]) hx hb dX7_notes_69 hl (k := 1) rfl rfl (by decide) rfl (fun ls hl => ?_)
        refine lv_goto (tgt := 45) hx hb dX7_notes_72 (by decide) ?_
        exact ih45 (upd v_undone (((4 : Int32) * v_undos) + x1).toNatClampNeg (v_now x1.toNatClampNeg)) v_undos (x1 + 1) H locs ls h hP hD hS (lv_sub hl [1, 0] rfl)
  have hL11 : ∀ (n11 : Nat), ∀ (v_undone : (Nat → Int32)) (v_undos : Int32) (x1 : Int32) (H : Heap) (locs : List Loc) (ls : Array Slot), f_X7_notes_L11 fu n11 v_now v_undone v_undos x1 = some res → va_P D vwCl [oX7 q v_size v_at v_begin v_token v_told v_undos v_changed v_felt v_wents v_wish v_trace, rA (q 9) cI 4 v_now, rA (q 10) cI 40 v_undone] H → va_D A [oX7 q v_size v_at v_begin v_token v_told v_undos v_changed v_felt v_wents v_wish v_trace, rA (q 9) cI 4 v_now, rA (q 10) cI 40 v_undone] → va_S A s.heap H locs → lv_has ls 2 [(0, .ref (q 0)), (1, .int x1)] → W p l e rm_X7_notes s m args below meth c H locs 0 0 Q (F0 m 11 ls []) := by
    intro n11
    induction n11 with
    | zero =>
      intro v_undone v_undos x1 H locs ls h hP hD hS hl
      cases (show (none : Option R_X7_notes) = some res from h)
    | succ n11 ih11 =>
      intro v_undone v_undos x1 H locs ls h hP hD hS hl
      have h : f_X7_notes_L11b fu (f_X7_notes_L11 fu n11) v_now v_undone v_undos x1 = some res := h
      unfold f_X7_notes_L11b at h
      refine lv_iload_n hx hb dX7_notes_11 rfl (lv_at hl 1 rfl) ?_
      refine lv_bipush (v := 40) hx hb dX7_notes_12 (by decide) ?_
      refine lv_icmp_ge (tgt := 37) hx hb dX7_notes_14 (by decide) (fun c4 => ?_) (fun c4 => ?_)
      · have h := (if_pos c4).symm.trans h
        refine lv_aload_n hx hb dX7_notes_37 rfl (lv_at hl 0 rfl) ?_
        refine lv_bipush (v := 9) hx hb dX7_notes_38 (by decide) ?_
        refine va_put (C := RX7) (T := TX7) (N := 34) (v := .int (9 : Int32)) (ty := .int) hx hb hts iw7 tyX7 tyX7_ok nmX7 hown hK hP hD hS 0 rfl rfl 10 (Nat.le_of_ble_eq_true rfl) lk166 (fun _ h9 => h9) rfl (by decide +kernel) rfl rfl (Nat.le_of_ble_eq_true rfl) dX7_notes_40 (fun H locs hP hD hS => ?_)
        have hP : va_P D vwCl [oX7 q v_size v_at v_begin v_token v_told (9 : Int32) v_changed v_felt v_wents v_wish v_trace, rA (q 9) cI 4 v_now, rA (q 10) cI 40 v_undone] H := hP
        have hD : va_D A [oX7 q v_size v_at v_begin v_token v_told (9 : Int32) v_changed v_felt v_wents v_wish v_trace, rA (q 9) cI 4 v_now, rA (q 10) cI 40 v_undone] := hD
        refine lv_iconst (v := 0) hx hb dX7_notes_43 (by decide) ?_
        refine lv_istore_n (lv' := [(1, .int (0 : Int32)), (0, .ref (q 0))]) hx hb dX7_notes_44 rfl hl (by decide) rfl (fun ls hl => ?_)
        exact hL45 fu v_undone (9 : Int32) (0 : Int32) H locs ls h hP hD hS (lv_sub hl [1, 0] rfl)
      · have h := (if_neg c4).symm.trans h
        refine lv_aload_n hx hb dX7_notes_17 rfl (lv_at hl 0 rfl) ?_
        refine va_get (C := RX7) (T := TX7) (N := 34) (v := .ref (q 10)) hx hb hts iw7 hown hK hP 0 rfl rfl 9 (Nat.le_of_ble_eq_true rfl) lk22 (fun _ h9 => h9) rfl dX7_notes_18 ?_
        refine lv_iload_n hx hb dX7_notes_21 rfl (lv_at hl 1 rfl) ?_
        refine lv_iconst (v := 4) hx hb dX7_notes_22 (by decide) ?_
        refine lv_isub hx hb dX7_notes_23 ?_
        refine lv_aload_n hx hb dX7_notes_24 rfl (lv_at hl 0 rfl) ?_
        refine va_get (C := RX7) (T := TX7) (N := 34) (v := .ref (q 10)) hx hb hts iw7 hown hK hP 0 rfl rfl 9 (Nat.le_of_ble_eq_true rfl) lk22 (fun _ h9 => h9) rfl dX7_notes_25 ?_
        refine lv_iload_n hx hb dX7_notes_28 rfl (lv_at hl 1 rfl) ?_
        obtain ⟨hi5, h⟩ := xb_some h
        refine va_iald hx hb hK hP 2 0 rfl rfl hi5 dX7_notes_29 ?_
        obtain ⟨hi6, h⟩ := xb_some h
        refine va_iast hx hb hK hP hD hS 2 0 rfl rfl hi6 dX7_notes_30 (fun H locs hP hD hS => ?_)
        have hP : va_P D vwCl [oX7 q v_size v_at v_begin v_token v_told v_undos v_changed v_felt v_wents v_wish v_trace, rA (q 9) cI 4 v_now, rA (q 10) cI 40 (upd v_undone (x1 - (4 : Int32)).toNatClampNeg (v_undone x1.toNatClampNeg))] H := hP
        have hD : va_D A [oX7 q v_size v_at v_begin v_token v_told v_undos v_changed v_felt v_wents v_wish v_trace, rA (q 9) cI 4 v_now, rA (q 10) cI 40 (upd v_undone (x1 - (4 : Int32)).toNatClampNeg (v_undone x1.toNatClampNeg))] := hD
        refine lv_iinc (v := x1 + 1) (lv' := [(1, .int (x1 + 1)), (0, .ref (q 0))]) hx hb dX7_notes_31 hl (k := 1) rfl rfl (by decide) rfl (fun ls hl => ?_)
        refine lv_goto (tgt := 11) hx hb dX7_notes_34 (by decide) ?_
        exact ih11 (upd v_undone (x1 - (4 : Int32)).toNatClampNeg (v_undone x1.toNatClampNeg)) v_undos (x1 + 1) H locs ls h hP hD hS (lv_sub hl [1, 0] rfl)
  have h := hf
  unfold f_X7_notes at h
  obtain ⟨H, eH⟩ : ∃ H, H = s.heap := ⟨_, rfl⟩
  rw [← eH] at hP ⊢
  obtain ⟨locs, el⟩ : ∃ locs : List Loc, locs = [] := ⟨_, rfl⟩
  rw [← el] at hS ⊢
  have hS : va_S A s.heap H locs := by rw [eH]; exact hS
  refine lv_aload_n hx hb dX7_notes_0 rfl (lv_at hl 0 rfl) ?_
  refine va_get (C := RX7) (T := TX7) (N := 34) (v := .int v_undos) hx hb hts iw7 hown hK hP 0 rfl rfl 10 (Nat.le_of_ble_eq_true rfl) lk166 (fun _ h9 => h9) rfl dX7_notes_1 ?_
  refine lv_bipush (v := 10) hx hb dX7_notes_4 (by decide) ?_
  refine lv_icmp_ne (tgt := 43) hx hb dX7_notes_6 (by decide) (fun c7 => ?_) (fun c7 => ?_)
  · have h := (if_neg c7).symm.trans h
    refine lv_iconst (v := 0) hx hb dX7_notes_43 (by decide) ?_
    refine lv_istore_n (lv' := [(1, .int (0 : Int32)), (0, .ref (q 0))]) hx hb dX7_notes_44 rfl hl (by decide) rfl (fun ls hl => ?_)
    exact hL45 fu v_undone v_undos (0 : Int32) H locs ls h hP hD hS (lv_sub hl [1, 0] rfl)
  · have h := (if_pos c7).symm.trans h
    refine lv_iconst (v := 4) hx hb dX7_notes_9 (by decide) ?_
    refine lv_istore_n (lv' := [(1, .int (4 : Int32)), (0, .ref (q 0))]) hx hb dX7_notes_10 rfl hl (by decide) rfl (fun ls hl => ?_)
    exact hL11 fu v_undone v_undos (4 : Int32) H locs ls h hP hD hS (lv_sub hl [1, 0] rfl)
abbrev rm_X7_mayHire : Room := { frames := 2, cells := 0, slots := 0, locals := 43 }
set_option maxHeartbeats 4000000 in
set_option maxRecDepth 100000 in
theorem k_X7_mayHire (l : Launch) (D : va_G) (cI cZ cT : ClassId) (q : Nat → Nat) (sz : Nat) (v_size : Int32) (v_at : Int32) (v_begin : Int32) (v_token : Int32) (v_told : Int32) (v_undos : Int32) (v_changed : Int32) (v_felt : Int32) (v_wents : Int32) (v_wish : Int32) (v_trace : Int64) (v_town : Nat → Int32) (v_now : Nat → Int32) (x1 : Int32) (res : R_X7_mayHire) (hf : f_X7_mayHire v_town v_now x1 = some res) : Met l yX7_mayHire wsX7_mayHire rm_X7_mayHire (cPre D (tyz cI cZ cT) [.ref (q 0), .int x1] sz [oX7 q v_size v_at v_begin v_token v_told v_undos v_changed v_felt v_wents v_wish v_trace, rA (q 8) cI 64 v_town, rA (q 9) cI 4 v_now]) (cPi D (tyz cI cZ cT) (fun (r : Int32) (_ : Unit) => r = res) (fun _ => [oX7 q v_size v_at v_begin v_token v_told v_undos v_changed v_felt v_wents v_wish v_trace, rA (q 8) cI 64 v_town, rA (q 9) cI 4 v_now]) [oX7 q v_size v_at v_begin v_token v_told v_undos v_changed v_felt v_wents v_wish v_trace, rA (q 8) cI 64 v_town, rA (q 9) cI 4 v_now] sz) 0 0 (va_A [oX7 q v_size v_at v_begin v_token v_told v_undos v_changed v_felt v_wents v_wish v_trace, rA (q 8) cI 64 v_town, rA (q 9) cI 4 v_now] sz) := by
  refine vx_meth_z (by decide) rfl (Nat.le_of_ble_eq_true rfl) ?_
  intro p e s m args below meth c A Q hx hb hml hown hts hK hP hD hA hS hret ls hl
  have hown : s.vm.findClass RX7 = some m.cls := hown
  have hl : lv_has ls 3 [(0, .ref (q 0)), (1, .int x1)] := hl
  have hFx : CallFix p m c cX7_mayHire 3 s args wsX7_mayHire RX7 := ⟨hx, hb, hml, hown, hts⟩
  have lk19 := hts (.fieldLink RX7 19 "FogGuidesModel" "now" "[I") (by decide +kernel)
  have iw7 : ∀ w ∈ u_ws RX7 TX7 34, w ∈ wsX7_mayHire := by decide +kernel
  have lk16 := hts (.fieldLink RX7 16 "FogGuidesModel" "town" "[I") (by decide +kernel)
  have hJ16 : ∀ (x1 : Int32) (z0 : Int32) (H : Heap) (locs : List Loc) (ls : Array Slot), f_X7_mayHire_J16 v_town v_now x1 z0 = some res → va_P D vwCl [oX7 q v_size v_at v_begin v_token v_told v_undos v_changed v_felt v_wents v_wish v_trace, rA (q 8) cI 64 v_town, rA (q 9) cI 4 v_now] H → va_D A [oX7 q v_size v_at v_begin v_token v_told v_undos v_changed v_felt v_wents v_wish v_trace, rA (q 8) cI 64 v_town, rA (q 9) cI 4 v_now] → va_S A s.heap H locs → lv_has ls 3 [(0, .ref (q 0)), (1, .int x1)] → W p l e rm_X7_mayHire s m args below meth c H locs 0 0 Q (F0 m 16 ls [.int z0]) := by
    intro x1 z0 H locs ls h hP hD hS hl
    unfold f_X7_mayHire_J16 at h
    refine lv_istore_n (lv' := [(2, .int z0), (0, .ref (q 0)), (1, .int x1)]) hx hb dX7_mayHire_16 rfl hl (by decide) rfl (fun ls hl => ?_)
    refine lv_aload_n hx hb dX7_mayHire_17 rfl (lv_at hl 1 rfl) ?_
    refine lv_iload_n hx hb dX7_mayHire_18 rfl (lv_at hl 2 rfl) ?_
    refine lv_aload_n hx hb dX7_mayHire_19 rfl (lv_at hl 1 rfl) ?_
    refine va_get (C := RX7) (T := TX7) (N := 34) (v := .ref (q 9)) hx hb hts iw7 hown hK hP 0 rfl rfl 8 (Nat.le_of_ble_eq_true rfl) lk19 (fun _ h9 => h9) rfl dX7_mayHire_20 ?_
    refine lv_iconst (v := 0) hx hb dX7_mayHire_23 (by decide) ?_
    obtain ⟨hi1, h⟩ := xb_some h
    refine va_iald hx hb hK hP 2 0 rfl rfl hi1 dX7_mayHire_24 ?_
    obtain ⟨r2, hr2, h⟩ := xk_some h
    refine vx_VJ (As := [.int x1, .int (v_now (0 : Int32).toNatClampNeg)]) (rest := []) hFx (k_X7_isHis l D cI cZ cT q H.size v_size v_at v_begin v_token v_told v_undos v_changed v_felt v_wents v_wish v_trace v_town x1 (v_now (0 : Int32).toNatClampNeg) r2 hr2) (cwV 2 hts gX7_mayHire_X7_isHis rfl rfl rfl (by decide +kernel) ⟨Nat.le_of_ble_eq_true rfl, Nat.le_of_ble_eq_true rfl⟩) hK hP hD hS hA [0, 1] rfl rfl 7 0 rfl rfl rfl hl.1 rfl (Nat.le_of_ble_eq_true rfl) dX7_mayHire_25 ⟨Nat.zero_le _, Nat.zero_le _⟩ (fun H locs hP hS => ?_)
    refine lv_if_eq (tgt := 87) hx hb dX7_mayHire_28 (by decide) (fun c3 => ?_) (fun c3 => ?_)
    · have h := (if_pos c3).symm.trans h
      refine lv_iconst (v := 0) hx hb dX7_mayHire_87 (by decide) ?_
      exact hret (0 : Int32) () H locs _ ls (Or.inl rfl) (Option.some.inj h) hP hD hS dX7_mayHire_88
    · have h := (if_neg c3).symm.trans h
      refine lv_aload_n hx hb dX7_mayHire_31 rfl (lv_at hl 1 rfl) ?_
      refine va_get (C := RX7) (T := TX7) (N := 34) (v := .ref (q 9)) hx hb hts iw7 hown hK hP 0 rfl rfl 8 (Nat.le_of_ble_eq_true rfl) lk19 (fun _ h9 => h9) rfl dX7_mayHire_32 ?_
      refine lv_iconst (v := 3) hx hb dX7_mayHire_35 (by decide) ?_
      obtain ⟨hi4, h⟩ := xb_some h
      refine va_iald hx hb hK hP 2 0 rfl rfl hi4 dX7_mayHire_36 ?_
      refine lv_iload_n hx hb dX7_mayHire_37 rfl (lv_at hl 2 rfl) ?_
      refine lv_icmp_eq (tgt := 87) hx hb dX7_mayHire_38 (by decide) (fun c5 => ?_) (fun c5 => ?_)
      · have h := (if_pos c5).symm.trans h
        refine lv_iconst (v := 0) hx hb dX7_mayHire_87 (by decide) ?_
        exact hret (0 : Int32) () H locs _ ls (Or.inl rfl) (Option.some.inj h) hP hD hS dX7_mayHire_88
      · have h := (if_neg c5).symm.trans h
        refine lv_iload_n hx hb dX7_mayHire_41 rfl (lv_at hl 0 rfl) ?_
        refine lv_if_eq (tgt := 83) hx hb dX7_mayHire_42 (by decide) (fun c6 => ?_) (fun c6 => ?_)
        · have h := (if_pos c6).symm.trans h
          refine lv_iconst (v := 1) hx hb dX7_mayHire_83 (by decide) ?_
          refine lv_goto (tgt := 88) hx hb dX7_mayHire_84 (by decide) ?_
          exact hret (1 : Int32) () H locs _ ls (Or.inr rfl) (Option.some.inj h) hP hD hS dX7_mayHire_88
        · have h := (if_neg c6).symm.trans h
          refine lv_aload_n hx hb dX7_mayHire_45 rfl (lv_at hl 1 rfl) ?_
          refine lv_aload_n hx hb dX7_mayHire_46 rfl (lv_at hl 1 rfl) ?_
          refine va_get (C := RX7) (T := TX7) (N := 34) (v := .ref (q 9)) hx hb hts iw7 hown hK hP 0 rfl rfl 8 (Nat.le_of_ble_eq_true rfl) lk19 (fun _ h9 => h9) rfl dX7_mayHire_47 ?_
          refine lv_iconst (v := 3) hx hb dX7_mayHire_50 (by decide) ?_
          obtain ⟨hi7, h⟩ := xb_some h
          refine va_iald hx hb hK hP 2 0 rfl rfl hi7 dX7_mayHire_51 ?_
          refine lv_aload_n hx hb dX7_mayHire_52 rfl (lv_at hl 1 rfl) ?_
          refine va_get (C := RX7) (T := TX7) (N := 34) (v := .ref (q 9)) hx hb hts iw7 hown hK hP 0 rfl rfl 8 (Nat.le_of_ble_eq_true rfl) lk19 (fun _ h9 => h9) rfl dX7_mayHire_53 ?_
          refine lv_iconst (v := 0) hx hb dX7_mayHire_56 (by decide) ?_
          obtain ⟨hi8, h⟩ := xb_some h
          refine va_iald hx hb hK hP 2 0 rfl rfl hi8 dX7_mayHire_57 ?_
          obtain ⟨r9, hr9, h⟩ := xk_some h
          refine vx_VJ (As := [.int (v_now (3 : Int32).toNatClampNeg), .int (v_now (0 : Int32).toNatClampNeg)]) (rest := []) hFx (k_X7_isHis l D cI cZ cT q H.size v_size v_at v_begin v_token v_told v_undos v_changed v_felt v_wents v_wish v_trace v_town (v_now (3 : Int32).toNatClampNeg) (v_now (0 : Int32).toNatClampNeg) r9 hr9) (cwV 2 hts gX7_mayHire_X7_isHis rfl rfl rfl (by decide +kernel) ⟨Nat.le_of_ble_eq_true rfl, Nat.le_of_ble_eq_true rfl⟩) hK hP hD hS hA [0, 1] rfl rfl 7 0 rfl rfl rfl hl.1 rfl (Nat.le_of_ble_eq_true rfl) dX7_mayHire_58 ⟨Nat.zero_le _, Nat.zero_le _⟩ (fun H locs hP hS => ?_)
          refine lv_if_eq (tgt := 87) hx hb dX7_mayHire_61 (by decide) (fun c10 => ?_) (fun c10 => ?_)
          · have h := (if_pos c10).symm.trans h
            refine lv_iconst (v := 0) hx hb dX7_mayHire_87 (by decide) ?_
            exact hret (0 : Int32) () H locs _ ls (Or.inl rfl) (Option.some.inj h) hP hD hS dX7_mayHire_88
          · have h := (if_neg c10).symm.trans h
            refine lv_aload_n hx hb dX7_mayHire_64 rfl (lv_at hl 1 rfl) ?_
            refine va_get (C := RX7) (T := TX7) (N := 34) (v := .ref (q 9)) hx hb hts iw7 hown hK hP 0 rfl rfl 8 (Nat.le_of_ble_eq_true rfl) lk19 (fun _ h9 => h9) rfl dX7_mayHire_65 ?_
            refine lv_iconst (v := 1) hx hb dX7_mayHire_68 (by decide) ?_
            obtain ⟨hi11, h⟩ := xb_some h
            refine va_iald hx hb hK hP 2 0 rfl rfl hi11 dX7_mayHire_69 ?_
            refine lv_aload_n hx hb dX7_mayHire_70 rfl (lv_at hl 1 rfl) ?_
            refine va_get (C := RX7) (T := TX7) (N := 34) (v := .ref (q 8)) hx hb hts iw7 hown hK hP 0 rfl rfl 7 (Nat.le_of_ble_eq_true rfl) lk16 (fun _ h9 => h9) rfl dX7_mayHire_71 ?_
            refine lv_iconst (v := 3) hx hb dX7_mayHire_74 (by decide) ?_
            obtain ⟨hi12, h⟩ := xb_some h
            refine va_iald hx hb hK hP 1 0 rfl rfl hi12 dX7_mayHire_75 ?_
            refine lv_iadd hx hb dX7_mayHire_76 ?_
            refine lv_sipush (v := 9999) hx hb dX7_mayHire_77 (by decide) ?_
            refine lv_icmp_gt (tgt := 87) hx hb dX7_mayHire_80 (by decide) (fun c13 => ?_) (fun c13 => ?_)
            · have h := (if_pos c13).symm.trans h
              refine lv_iconst (v := 0) hx hb dX7_mayHire_87 (by decide) ?_
              exact hret (0 : Int32) () H locs _ ls (Or.inl rfl) (Option.some.inj h) hP hD hS dX7_mayHire_88
            · have h := (if_neg c13).symm.trans h
              refine lv_iconst (v := 1) hx hb dX7_mayHire_83 (by decide) ?_
              refine lv_goto (tgt := 88) hx hb dX7_mayHire_84 (by decide) ?_
              exact hret (1 : Int32) () H locs _ ls (Or.inr rfl) (Option.some.inj h) hP hD hS dX7_mayHire_88
  have h := hf
  unfold f_X7_mayHire at h
  obtain ⟨H, eH⟩ : ∃ H, H = s.heap := ⟨_, rfl⟩
  rw [← eH] at hP ⊢
  obtain ⟨locs, el⟩ : ∃ locs : List Loc, locs = [] := ⟨_, rfl⟩
  rw [← el] at hS ⊢
  have hS : va_S A s.heap H locs := by rw [eH]; exact hS
  refine lv_aload_n hx hb dX7_mayHire_0 rfl (lv_at hl 0 rfl) ?_
  refine va_get (C := RX7) (T := TX7) (N := 34) (v := .ref (q 9)) hx hb hts iw7 hown hK hP 0 rfl rfl 8 (Nat.le_of_ble_eq_true rfl) lk19 (fun _ h9 => h9) rfl dX7_mayHire_1 ?_
  refine lv_iconst (v := 3) hx hb dX7_mayHire_4 (by decide) ?_
  obtain ⟨hi14, h⟩ := xb_some h
  refine va_iald hx hb hK hP 2 0 rfl rfl hi14 dX7_mayHire_5 ?_
  refine lv_bipush (v := (-9)) hx hb dX7_mayHire_6 (by decide) ?_
  refine lv_icmp_eq (tgt := 15) hx hb dX7_mayHire_8 (by decide) (fun c15 => ?_) (fun c15 => ?_)
  · have h := (if_pos c15).symm.trans h
    refine lv_iconst (v := 0) hx hb dX7_mayHire_15 (by decide) ?_
    exact hJ16 x1 (0 : Int32) H locs ls h hP hD hS (lv_sub hl [0, 1] rfl)
  · have h := (if_neg c15).symm.trans h
    refine lv_iconst (v := 1) hx hb dX7_mayHire_11 (by decide) ?_
    refine lv_goto (tgt := 16) hx hb dX7_mayHire_12 (by decide) ?_
    exact hJ16 x1 (1 : Int32) H locs ls h hP hD hS (lv_sub hl [0, 1] rfl)
abbrev rm_X7_hires : Room := { frames := 3, cells := 0, slots := 0, locals := 65 }
set_option maxHeartbeats 4000000 in
set_option maxRecDepth 100000 in
theorem k_X7_hires (l : Launch) (D : va_G) (cI cZ cT : ClassId) (q : Nat → Nat) (sz : Nat) (v_size : Int32) (v_at : Int32) (v_begin : Int32) (v_token : Int32) (v_told : Int32) (v_undos : Int32) (v_changed : Int32) (v_felt : Int32) (v_wents : Int32) (v_wish : Int32) (v_trace : Int64) (v_town : Nat → Int32) (v_now : Nat → Int32) (v_undone : Nat → Int32) (x1 : Int32) (res : R_X7_hires) (fu : Nat) (hf : f_X7_hires fu v_town v_now v_undone v_undos x1 = some res) : Met l yX7_hires wsX7_hires rm_X7_hires (cPre D (tyz cI cZ cT) [.ref (q 0), .int x1] sz [oX7 q v_size v_at v_begin v_token v_told v_undos v_changed v_felt v_wents v_wish v_trace, rA (q 8) cI 64 v_town, rA (q 9) cI 4 v_now, rA (q 10) cI 40 v_undone]) (cPi D (tyz cI cZ cT) (fun (r : Int32) (u : (Nat → Int32) × (Nat → Int32) × Int32) => (r, u) = res) (fun u => [oX7 q v_size v_at v_begin v_token v_told u.2.2 v_changed v_felt v_wents v_wish v_trace, rA (q 8) cI 64 v_town, rA (q 9) cI 4 u.1, rA (q 10) cI 40 u.2.1]) [oX7 q v_size v_at v_begin v_token v_told v_undos v_changed v_felt v_wents v_wish v_trace, rA (q 8) cI 64 v_town, rA (q 9) cI 4 v_now, rA (q 10) cI 40 v_undone] sz) 0 0 (va_A [oX7 q v_size v_at v_begin v_token v_told v_undos v_changed v_felt v_wents v_wish v_trace, rA (q 8) cI 64 v_town, rA (q 9) cI 4 v_now, rA (q 10) cI 40 v_undone] sz) := by
  refine vx_meth_i (by decide) rfl (Nat.le_of_ble_eq_true rfl) ?_
  intro p e s m args below meth c A Q hx hb hml hown hts hK hP hD hA hS hret ls hl
  have hown : s.vm.findClass RX7 = some m.cls := hown
  have hl : lv_has ls 2 [(0, .ref (q 0)), (1, .int x1)] := hl
  have hFx : CallFix p m c cX7_hires 2 s args wsX7_hires RX7 := ⟨hx, hb, hml, hown, hts⟩
  have lk19 := hts (.fieldLink RX7 19 "FogGuidesModel" "now" "[I") (by decide +kernel)
  have iw7 : ∀ w ∈ u_ws RX7 TX7 34, w ∈ wsX7_hires := by decide +kernel
  have lk16 := hts (.fieldLink RX7 16 "FogGuidesModel" "town" "[I") (by decide +kernel)
  have hJ53 : ∀ (v_now : (Nat → Int32)) (v_undone : (Nat → Int32)) (v_undos : Int32) (x1 : Int32) (z1 : Int32) (z2 : Int32) (z3 : Int32) (H : Heap) (locs : List Loc) (ls : Array Slot), f_X7_hires_J53 fu v_town v_now v_undone v_undos x1 z1 z2 z3 = some res → va_P D vwCl [oX7 q v_size v_at v_begin v_token v_told v_undos v_changed v_felt v_wents v_wish v_trace, rA (q 8) cI 64 v_town, rA (q 9) cI 4 v_now, rA (q 10) cI 40 v_undone] H → va_D A [oX7 q v_size v_at v_begin v_token v_told v_undos v_changed v_felt v_wents v_wish v_trace, rA (q 8) cI 64 v_town, rA (q 9) cI 4 v_now, rA (q 10) cI 40 v_undone] → va_S A s.heap H locs → lv_has ls 2 [(0, .ref (q 0)), (1, .int x1)] → W p l e rm_X7_hires s m args below meth c H locs 0 0 Q (F0 m 53 ls [.int z3, .int z2, .int z1, .ref (q 9)]) := by
    intro v_now v_undone v_undos x1 z1 z2 z3 H locs ls h hP hD hS hl
    unfold f_X7_hires_J53 at h
    refine lv_iadd hx hb dX7_hires_53 ?_
    obtain ⟨hi1, h⟩ := xb_some h
    refine va_iast hx hb hK hP hD hS 2 0 rfl rfl hi1 dX7_hires_54 (fun H locs hP hD hS => ?_)
    have hP : va_P D vwCl [oX7 q v_size v_at v_begin v_token v_told v_undos v_changed v_felt v_wents v_wish v_trace, rA (q 8) cI 64 v_town, rA (q 9) cI 4 (upd v_now z1.toNatClampNeg (z2 + z3)), rA (q 10) cI 40 v_undone] H := hP
    have hD : va_D A [oX7 q v_size v_at v_begin v_token v_told v_undos v_changed v_felt v_wents v_wish v_trace, rA (q 8) cI 64 v_town, rA (q 9) cI 4 (upd v_now z1.toNatClampNeg (z2 + z3)), rA (q 10) cI 40 v_undone] := hD
    refine lv_aload_n hx hb dX7_hires_55 rfl (lv_at hl 0 rfl) ?_
    refine va_get (C := RX7) (T := TX7) (N := 34) (v := .ref (q 9)) hx hb hts iw7 hown hK hP 0 rfl rfl 8 (Nat.le_of_ble_eq_true rfl) lk19 (fun _ h9 => h9) rfl dX7_hires_56 ?_
    refine lv_iconst (v := 3) hx hb dX7_hires_59 (by decide) ?_
    refine lv_iload_n hx hb dX7_hires_60 rfl (lv_at hl 1 rfl) ?_
    obtain ⟨hi2, h⟩ := xb_some h
    refine va_iast hx hb hK hP hD hS 2 0 rfl rfl hi2 dX7_hires_61 (fun H locs hP hD hS => ?_)
    have hP : va_P D vwCl [oX7 q v_size v_at v_begin v_token v_told v_undos v_changed v_felt v_wents v_wish v_trace, rA (q 8) cI 64 v_town, rA (q 9) cI 4 (upd (upd v_now z1.toNatClampNeg (z2 + z3)) (3 : Int32).toNatClampNeg x1), rA (q 10) cI 40 v_undone] H := hP
    have hD : va_D A [oX7 q v_size v_at v_begin v_token v_told v_undos v_changed v_felt v_wents v_wish v_trace, rA (q 8) cI 64 v_town, rA (q 9) cI 4 (upd (upd v_now z1.toNatClampNeg (z2 + z3)) (3 : Int32).toNatClampNeg x1), rA (q 10) cI 40 v_undone] := hD
    refine lv_aload_n hx hb dX7_hires_62 rfl (lv_at hl 0 rfl) ?_
    refine va_get (C := RX7) (T := TX7) (N := 34) (v := .ref (q 9)) hx hb hts iw7 hown hK hP 0 rfl rfl 8 (Nat.le_of_ble_eq_true rfl) lk19 (fun _ h9 => h9) rfl dX7_hires_63 ?_
    refine lv_iconst (v := 1) hx hb dX7_hires_66 (by decide) ?_
    obtain ⟨hi3, h⟩ := xb_some h
    refine va_iald hx hb hK hP 2 0 rfl rfl hi3 dX7_hires_67 ?_
    exact hret ((upd (upd v_now z1.toNatClampNeg (z2 + z3)) (3 : Int32).toNatClampNeg x1) (1 : Int32).toNatClampNeg) ((upd (upd v_now z1.toNatClampNeg (z2 + z3)) (3 : Int32).toNatClampNeg x1, v_undone, v_undos)) H locs _ ls (Option.some.inj h) hP hD hS dX7_hires_68
  have h := hf
  unfold f_X7_hires at h
  obtain ⟨H, eH⟩ : ∃ H, H = s.heap := ⟨_, rfl⟩
  rw [← eH] at hP ⊢
  obtain ⟨locs, el⟩ : ∃ locs : List Loc, locs = [] := ⟨_, rfl⟩
  rw [← el] at hS ⊢
  have hS : va_S A s.heap H locs := by rw [eH]; exact hS
  refine lv_aload_n hx hb dX7_hires_0 rfl (lv_at hl 0 rfl) ?_
  refine lv_iload_n hx hb dX7_hires_1 rfl (lv_at hl 1 rfl) ?_
  obtain ⟨r4, hr4, h⟩ := xk_some h
  refine vx_VJ (As := [.int x1]) (rest := []) hFx (k_X7_isGuide l D cI cZ cT q H.size v_size v_at v_begin v_token v_told v_undos v_changed v_felt v_wents v_wish v_trace v_town x1 r4 hr4) (cwV 1 hts gX7_hires_X7_isGuide rfl rfl rfl (by decide +kernel) ⟨Nat.le_of_ble_eq_true rfl, Nat.le_of_ble_eq_true rfl⟩) hK hP hD hS hA [0, 1] rfl rfl 7 0 rfl rfl rfl hl.1 rfl (Nat.le_of_ble_eq_true rfl) dX7_hires_2 ⟨Nat.zero_le _, Nat.zero_le _⟩ (fun H locs hP hS => ?_)
  refine lv_if_ne (tgt := 10) hx hb dX7_hires_5 (by decide) (fun c5 => ?_) (fun c5 => ?_)
  · have h := (if_neg c5).symm.trans h
    refine lv_aload_n hx hb dX7_hires_10 rfl (lv_at hl 0 rfl) ?_
    refine lv_iload_n hx hb dX7_hires_11 rfl (lv_at hl 1 rfl) ?_
    obtain ⟨r6, hr6, h⟩ := xk_some h
    refine vx_VJ (As := [.int x1]) (rest := []) hFx (k_X7_mayHire l D cI cZ cT q H.size v_size v_at v_begin v_token v_told v_undos v_changed v_felt v_wents v_wish v_trace v_town v_now x1 r6 hr6) (cwV 1 hts gX7_hires_X7_mayHire rfl rfl rfl (by decide +kernel) ⟨Nat.le_of_ble_eq_true rfl, Nat.le_of_ble_eq_true rfl⟩) hK hP hD hS hA [0, 1, 2] rfl rfl 7 0 rfl rfl rfl hl.1 rfl (Nat.le_of_ble_eq_true rfl) dX7_hires_12 ⟨Nat.zero_le _, Nat.zero_le _⟩ (fun H locs hP hS => ?_)
    refine lv_if_ne (tgt := 21) hx hb dX7_hires_15 (by decide) (fun c7 => ?_) (fun c7 => ?_)
    · have h := (if_neg c7).symm.trans h
      refine lv_aload_n hx hb dX7_hires_21 rfl (lv_at hl 0 rfl) ?_
      obtain ⟨r8, hr8, h⟩ := xk_some h
      refine vx_VV (As := []) (rest := []) (wr := [rA (q 8) cI 64 v_town]) (wn := [oX7 q v_size v_at v_begin v_token v_told r8.2 v_changed v_felt v_wents v_wish v_trace, rA (q 8) cI 64 v_town, rA (q 9) cI 4 v_now, rA (q 10) cI 40 r8.1]) hFx (k_X7_notes l D cI cZ cT q H.size v_size v_at v_begin v_token v_told v_undos v_changed v_felt v_wents v_wish v_trace v_now v_undone r8 fu hr8) (cwV 0 hts gX7_hires_X7_notes rfl rfl rfl (by decide +kernel) ⟨Nat.le_of_ble_eq_true rfl, Nat.le_of_ble_eq_true rfl⟩) hK hP hD hS hA [0, 2, 3] [1] [1, 0, 2, 3] rfl rfl rfl rfl (by decide) rfl rfl 7 0 rfl rfl rfl hl.1 rfl (Nat.le_of_ble_eq_true rfl) dX7_hires_22 ⟨Nat.zero_le _, Nat.zero_le _⟩ (fun H locs hP hD hS => ?_)
      refine lv_aload_n hx hb dX7_hires_25 rfl (lv_at hl 0 rfl) ?_
      refine va_get (C := RX7) (T := TX7) (N := 34) (v := .ref (q 9)) hx hb hts iw7 hown hK hP 0 rfl rfl 8 (Nat.le_of_ble_eq_true rfl) lk19 (fun _ h9 => h9) rfl dX7_hires_26 ?_
      refine lv_iconst (v := 1) hx hb dX7_hires_29 (by decide) ?_
      refine lv_dup2_11 hx hb dX7_hires_30 rfl rfl ?_
      obtain ⟨hi9, h⟩ := xb_some h
      refine va_iald hx hb hK hP 2 0 rfl rfl hi9 dX7_hires_31 ?_
      refine lv_aload_n hx hb dX7_hires_32 rfl (lv_at hl 0 rfl) ?_
      refine va_get (C := RX7) (T := TX7) (N := 34) (v := .ref (q 9)) hx hb hts iw7 hown hK hP 0 rfl rfl 8 (Nat.le_of_ble_eq_true rfl) lk19 (fun _ h9 => h9) rfl dX7_hires_33 ?_
      refine lv_iconst (v := 3) hx hb dX7_hires_36 (by decide) ?_
      obtain ⟨hi10, h⟩ := xb_some h
      refine va_iald hx hb hK hP 2 0 rfl rfl hi10 dX7_hires_37 ?_
      refine lv_bipush (v := (-9)) hx hb dX7_hires_38 (by decide) ?_
      refine lv_icmp_ne (tgt := 47) hx hb dX7_hires_40 (by decide) (fun c11 => ?_) (fun c11 => ?_)
      · have h := (if_neg c11).symm.trans h
        refine lv_aload_n hx hb dX7_hires_47 rfl (lv_at hl 0 rfl) ?_
        refine va_get (C := RX7) (T := TX7) (N := 34) (v := .ref (q 8)) hx hb hts iw7 hown hK hP 0 rfl rfl 7 (Nat.le_of_ble_eq_true rfl) lk16 (fun _ h9 => h9) rfl dX7_hires_48 ?_
        refine lv_iconst (v := 3) hx hb dX7_hires_51 (by decide) ?_
        obtain ⟨hi12, h⟩ := xb_some h
        refine va_iald hx hb hK hP 1 0 rfl rfl hi12 dX7_hires_52 ?_
        exact hJ53 v_now r8.1 r8.2 x1 (1 : Int32) (v_now (1 : Int32).toNatClampNeg) (v_town (3 : Int32).toNatClampNeg) H locs ls h hP hD hS (lv_sub hl [0, 1] rfl)
      · have h := (if_pos c11).symm.trans h
        refine lv_iconst (v := 0) hx hb dX7_hires_43 (by decide) ?_
        refine lv_goto (tgt := 53) hx hb dX7_hires_44 (by decide) ?_
        exact hJ53 v_now r8.1 r8.2 x1 (1 : Int32) (v_now (1 : Int32).toNatClampNeg) (0 : Int32) H locs ls h hP hD hS (lv_sub hl [0, 1] rfl)
    · have h := (if_pos c7).symm.trans h
      refine lv_bipush (v := (-2)) hx hb dX7_hires_18 (by decide) ?_
      exact hret (-2 : Int32) (v_now, v_undone, v_undos) H locs _ ls (Option.some.inj h) hP hD hS dX7_hires_20
  · have h := (if_pos c5).symm.trans h
    refine lv_iconst (v := (-1)) hx hb dX7_hires_8 (by decide) ?_
    exact hret (-1 : Int32) (v_now, v_undone, v_undos) H locs _ ls (Option.some.inj h) hP hD hS dX7_hires_9
abbrev rm_X7_leaves : Room := { frames := 1, cells := 0, slots := 0, locals := 21 }
set_option maxHeartbeats 4000000 in
set_option maxRecDepth 100000 in
theorem k_X7_leaves (l : Launch) (D : va_G) (cI cZ cT : ClassId) (q : Nat → Nat) (sz : Nat) (v_size : Int32) (v_at : Int32) (v_begin : Int32) (v_token : Int32) (v_told : Int32) (v_undos : Int32) (v_changed : Int32) (v_felt : Int32) (v_wents : Int32) (v_wish : Int32) (v_trace : Int64) (v_now : Nat → Int32) (v_undone : Nat → Int32) (res : R_X7_leaves) (fu : Nat) (hf : f_X7_leaves fu v_now v_undone v_undos = some res) : Met l yX7_leaves wsX7_leaves rm_X7_leaves (cPre D (tyz cI cZ cT) [.ref (q 0)] sz [oX7 q v_size v_at v_begin v_token v_told v_undos v_changed v_felt v_wents v_wish v_trace, rA (q 9) cI 4 v_now, rA (q 10) cI 40 v_undone]) (cPi D (tyz cI cZ cT) (fun (r : Int32) (u : (Nat → Int32) × (Nat → Int32) × Int32) => (r, u) = res) (fun u => [oX7 q v_size v_at v_begin v_token v_told u.2.2 v_changed v_felt v_wents v_wish v_trace, rA (q 9) cI 4 u.1, rA (q 10) cI 40 u.2.1]) [oX7 q v_size v_at v_begin v_token v_told v_undos v_changed v_felt v_wents v_wish v_trace, rA (q 9) cI 4 v_now, rA (q 10) cI 40 v_undone] sz) 0 0 (va_A [oX7 q v_size v_at v_begin v_token v_told v_undos v_changed v_felt v_wents v_wish v_trace, rA (q 9) cI 4 v_now, rA (q 10) cI 40 v_undone] sz) := by
  refine vx_meth_i (by decide) rfl (Nat.le_of_ble_eq_true rfl) ?_
  intro p e s m args below meth c A Q hx hb hml hown hts hK hP hD hA hS hret ls hl
  have hown : s.vm.findClass RX7 = some m.cls := hown
  have hl : lv_has ls 2 [(0, .ref (q 0))] := hl
  have hFx : CallFix p m c cX7_leaves 2 s args wsX7_leaves RX7 := ⟨hx, hb, hml, hown, hts⟩
  have lk19 := hts (.fieldLink RX7 19 "FogGuidesModel" "now" "[I") (by decide +kernel)
  have iw7 : ∀ w ∈ u_ws RX7 TX7 34, w ∈ wsX7_leaves := by decide +kernel
  have h := hf
  unfold f_X7_leaves at h
  obtain ⟨H, eH⟩ : ∃ H, H = s.heap := ⟨_, rfl⟩
  rw [← eH] at hP ⊢
  obtain ⟨locs, el⟩ : ∃ locs : List Loc, locs = [] := ⟨_, rfl⟩
  rw [← el] at hS ⊢
  have hS : va_S A s.heap H locs := by rw [eH]; exact hS
  refine lv_aload_n hx hb dX7_leaves_0 rfl (lv_at hl 0 rfl) ?_
  refine va_get (C := RX7) (T := TX7) (N := 34) (v := .ref (q 9)) hx hb hts iw7 hown hK hP 0 rfl rfl 8 (Nat.le_of_ble_eq_true rfl) lk19 (fun _ h9 => h9) rfl dX7_leaves_1 ?_
  refine lv_iconst (v := 3) hx hb dX7_leaves_4 (by decide) ?_
  obtain ⟨hi1, h⟩ := xb_some h
  refine va_iald hx hb hK hP 1 0 rfl rfl hi1 dX7_leaves_5 ?_
  refine lv_bipush (v := (-9)) hx hb dX7_leaves_6 (by decide) ?_
  refine lv_icmp_ne (tgt := 14) hx hb dX7_leaves_8 (by decide) (fun c2 => ?_) (fun c2 => ?_)
  · have h := (if_neg c2).symm.trans h
    refine lv_aload_n hx hb dX7_leaves_14 rfl (lv_at hl 0 rfl) ?_
    obtain ⟨r3, hr3, h⟩ := xk_some h
    refine vx_VV (As := []) (rest := []) (wr := []) (wn := [oX7 q v_size v_at v_begin v_token v_told r3.2 v_changed v_felt v_wents v_wish v_trace, rA (q 9) cI 4 v_now, rA (q 10) cI 40 r3.1]) hFx (k_X7_notes l D cI cZ cT q H.size v_size v_at v_begin v_token v_told v_undos v_changed v_felt v_wents v_wish v_trace v_now v_undone r3 fu hr3) (cwV 0 hts gX7_leaves_X7_notes rfl rfl rfl (by decide +kernel) ⟨Nat.le_of_ble_eq_true rfl, Nat.le_of_ble_eq_true rfl⟩) hK hP hD hS hA [0, 1, 2] [] [0, 1, 2] rfl rfl rfl rfl (by decide) rfl rfl 7 0 rfl rfl rfl hl.1 rfl (Nat.le_of_ble_eq_true rfl) dX7_leaves_15 ⟨Nat.zero_le _, Nat.zero_le _⟩ (fun H locs hP hD hS => ?_)
    refine lv_aload_n hx hb dX7_leaves_18 rfl (lv_at hl 0 rfl) ?_
    refine va_get (C := RX7) (T := TX7) (N := 34) (v := .ref (q 9)) hx hb hts iw7 hown hK hP 0 rfl rfl 8 (Nat.le_of_ble_eq_true rfl) lk19 (fun _ h9 => h9) rfl dX7_leaves_19 ?_
    refine lv_iconst (v := 3) hx hb dX7_leaves_22 (by decide) ?_
    obtain ⟨hi4, h⟩ := xb_some h
    refine va_iald hx hb hK hP 1 0 rfl rfl hi4 dX7_leaves_23 ?_
    refine lv_istore_n (lv' := [(1, .int (v_now (3 : Int32).toNatClampNeg)), (0, .ref (q 0))]) hx hb dX7_leaves_24 rfl hl (by decide) rfl (fun ls hl => ?_)
    refine lv_aload_n hx hb dX7_leaves_25 rfl (lv_at hl 1 rfl) ?_
    refine va_get (C := RX7) (T := TX7) (N := 34) (v := .ref (q 9)) hx hb hts iw7 hown hK hP 0 rfl rfl 8 (Nat.le_of_ble_eq_true rfl) lk19 (fun _ h9 => h9) rfl dX7_leaves_26 ?_
    refine lv_iconst (v := 3) hx hb dX7_leaves_29 (by decide) ?_
    refine lv_bipush (v := (-9)) hx hb dX7_leaves_30 (by decide) ?_
    obtain ⟨hi5, h⟩ := xb_some h
    refine va_iast hx hb hK hP hD hS 1 0 rfl rfl hi5 dX7_leaves_32 (fun H locs hP hD hS => ?_)
    have hP : va_P D vwCl [oX7 q v_size v_at v_begin v_token v_told r3.2 v_changed v_felt v_wents v_wish v_trace, rA (q 9) cI 4 (upd v_now (3 : Int32).toNatClampNeg (-9 : Int32)), rA (q 10) cI 40 r3.1] H := hP
    have hD : va_D A [oX7 q v_size v_at v_begin v_token v_told r3.2 v_changed v_felt v_wents v_wish v_trace, rA (q 9) cI 4 (upd v_now (3 : Int32).toNatClampNeg (-9 : Int32)), rA (q 10) cI 40 r3.1] := hD
    refine lv_iload_n hx hb dX7_leaves_33 rfl (lv_at hl 0 rfl) ?_
    exact hret (v_now (3 : Int32).toNatClampNeg) ((upd v_now (3 : Int32).toNatClampNeg (-9 : Int32), r3.1, r3.2)) H locs _ ls (Option.some.inj h) hP hD hS dX7_leaves_34
  · have h := (if_pos c2).symm.trans h
    refine lv_bipush (v := (-2)) hx hb dX7_leaves_11 (by decide) ?_
    exact hret (-2 : Int32) (v_now, v_undone, v_undos) H locs _ ls (Option.some.inj h) hP hD hS dX7_leaves_13
abbrev rm_X7_mayLead : Room := { frames := 1, cells := 0, slots := 0, locals := 24 }
set_option maxHeartbeats 4000000 in
set_option maxRecDepth 100000 in
theorem k_X7_mayLead (l : Launch) (D : va_G) (cI cZ cT : ClassId) (q : Nat → Nat) (sz : Nat) (v_size : Int32) (v_at : Int32) (v_begin : Int32) (v_token : Int32) (v_told : Int32) (v_undos : Int32) (v_changed : Int32) (v_felt : Int32) (v_wents : Int32) (v_wish : Int32) (v_trace : Int64) (v_town : Nat → Int32) (v_now : Nat → Int32) (x1 : Int32) (res : R_X7_mayLead) (hf : f_X7_mayLead v_town v_now x1 = some res) : Met l yX7_mayLead wsX7_mayLead rm_X7_mayLead (cPre D (tyz cI cZ cT) [.ref (q 0), .int x1] sz [oX7 q v_size v_at v_begin v_token v_told v_undos v_changed v_felt v_wents v_wish v_trace, rA (q 8) cI 64 v_town, rA (q 9) cI 4 v_now]) (cPi D (tyz cI cZ cT) (fun (r : Int32) (_ : Unit) => r = res) (fun _ => [oX7 q v_size v_at v_begin v_token v_told v_undos v_changed v_felt v_wents v_wish v_trace, rA (q 8) cI 64 v_town, rA (q 9) cI 4 v_now]) [oX7 q v_size v_at v_begin v_token v_told v_undos v_changed v_felt v_wents v_wish v_trace, rA (q 8) cI 64 v_town, rA (q 9) cI 4 v_now] sz) 0 0 (va_A [oX7 q v_size v_at v_begin v_token v_told v_undos v_changed v_felt v_wents v_wish v_trace, rA (q 8) cI 64 v_town, rA (q 9) cI 4 v_now] sz) := by
  refine vx_meth_z (by decide) rfl (Nat.le_of_ble_eq_true rfl) ?_
  intro p e s m args below meth c A Q hx hb hml hown hts hK hP hD hA hS hret ls hl
  have hown : s.vm.findClass RX7 = some m.cls := hown
  have hl : lv_has ls 4 [(0, .ref (q 0)), (1, .int x1)] := hl
  have hFx : CallFix p m c cX7_mayLead 4 s args wsX7_mayLead RX7 := ⟨hx, hb, hml, hown, hts⟩
  have lk19 := hts (.fieldLink RX7 19 "FogGuidesModel" "now" "[I") (by decide +kernel)
  have iw7 : ∀ w ∈ u_ws RX7 TX7 34, w ∈ wsX7_mayLead := by decide +kernel
  have h := hf
  unfold f_X7_mayLead at h
  obtain ⟨H, eH⟩ : ∃ H, H = s.heap := ⟨_, rfl⟩
  rw [← eH] at hP ⊢
  obtain ⟨locs, el⟩ : ∃ locs : List Loc, locs = [] := ⟨_, rfl⟩
  rw [← el] at hS ⊢
  have hS : va_S A s.heap H locs := by rw [eH]; exact hS
  refine lv_aload_n hx hb dX7_mayLead_0 rfl (lv_at hl 0 rfl) ?_
  refine va_get (C := RX7) (T := TX7) (N := 34) (v := .ref (q 9)) hx hb hts iw7 hown hK hP 0 rfl rfl 8 (Nat.le_of_ble_eq_true rfl) lk19 (fun _ h9 => h9) rfl dX7_mayLead_1 ?_
  refine lv_iconst (v := 3) hx hb dX7_mayLead_4 (by decide) ?_
  obtain ⟨hi1, h⟩ := xb_some h
  refine va_iald hx hb hK hP 2 0 rfl rfl hi1 dX7_mayLead_5 ?_
  refine lv_istore_n (lv' := [(2, .int (v_now (3 : Int32).toNatClampNeg)), (0, .ref (q 0)), (1, .int x1)]) hx hb dX7_mayLead_6 rfl hl (by decide) rfl (fun ls hl => ?_)
  refine lv_iload_n hx hb dX7_mayLead_7 rfl (lv_at hl 0 rfl) ?_
  refine lv_bipush (v := (-9)) hx hb dX7_mayLead_8 (by decide) ?_
  refine lv_icmp_eq (tgt := 41) hx hb dX7_mayLead_10 (by decide) (fun c2 => ?_) (fun c2 => ?_)
  · have h := (if_pos c2).symm.trans h
    refine lv_iconst (v := 0) hx hb dX7_mayLead_41 (by decide) ?_
    exact hret (0 : Int32) () H locs _ ls (Or.inl rfl) (Option.some.inj h) hP hD hS dX7_mayLead_42
  · have h := (if_neg c2).symm.trans h
    refine lv_aload_n hx hb dX7_mayLead_13 rfl (lv_at hl 1 rfl) ?_
    refine lv_iload_n hx hb dX7_mayLead_14 rfl (lv_at hl 2 rfl) ?_
    refine lv_aload_n hx hb dX7_mayLead_15 rfl (lv_at hl 1 rfl) ?_
    refine va_get (C := RX7) (T := TX7) (N := 34) (v := .ref (q 9)) hx hb hts iw7 hown hK hP 0 rfl rfl 8 (Nat.le_of_ble_eq_true rfl) lk19 (fun _ h9 => h9) rfl dX7_mayLead_16 ?_
    refine lv_iconst (v := 0) hx hb dX7_mayLead_19 (by decide) ?_
    obtain ⟨hi3, h⟩ := xb_some h
    refine va_iald hx hb hK hP 2 0 rfl rfl hi3 dX7_mayLead_20 ?_
    obtain ⟨r4, hr4, h⟩ := xk_some h
    refine vx_VJ (As := [.int x1, .int (v_now (0 : Int32).toNatClampNeg)]) (rest := []) hFx (k_X7_over l D cI cZ cT q H.size v_size v_at v_begin v_token v_told v_undos v_changed v_felt v_wents v_wish v_trace v_town x1 (v_now (0 : Int32).toNatClampNeg) r4 hr4) (cwV 2 hts gX7_mayLead_X7_over rfl rfl rfl (by decide +kernel) ⟨Nat.le_of_ble_eq_true rfl, Nat.le_of_ble_eq_true rfl⟩) hK hP hD hS hA [0, 1] rfl rfl 7 0 rfl rfl rfl hl.1 rfl (Nat.le_of_ble_eq_true rfl) dX7_mayLead_21 ⟨Nat.zero_le _, Nat.zero_le _⟩ (fun H locs hP hS => ?_)
    refine lv_bipush (v := (-9)) hx hb dX7_mayLead_24 (by decide) ?_
    refine lv_icmp_eq (tgt := 41) hx hb dX7_mayLead_26 (by decide) (fun c5 => ?_) (fun c5 => ?_)
    · have h := (if_pos c5).symm.trans h
      refine lv_iconst (v := 0) hx hb dX7_mayLead_41 (by decide) ?_
      exact hret (0 : Int32) () H locs _ ls (Or.inl rfl) (Option.some.inj h) hP hD hS dX7_mayLead_42
    · have h := (if_neg c5).symm.trans h
      refine lv_aload_n hx hb dX7_mayLead_29 rfl (lv_at hl 1 rfl) ?_
      refine lv_iload_n hx hb dX7_mayLead_30 rfl (lv_at hl 0 rfl) ?_
      obtain ⟨r6, hr6, h⟩ := xk_some h
      refine vx_VJ (As := [.int (v_now (3 : Int32).toNatClampNeg)]) (rest := []) hFx (k_X7_known l D cI cZ cT q H.size v_size v_at v_begin v_token v_told v_undos v_changed v_felt v_wents v_wish v_trace v_town (v_now (3 : Int32).toNatClampNeg) r6 hr6) (cwV 1 hts gX7_mayLead_X7_known rfl rfl rfl (by decide +kernel) ⟨Nat.le_of_ble_eq_true rfl, Nat.le_of_ble_eq_true rfl⟩) hK hP hD hS hA [0, 1] rfl rfl 7 0 rfl rfl rfl hl.1 rfl (Nat.le_of_ble_eq_true rfl) dX7_mayLead_31 ⟨Nat.zero_le _, Nat.zero_le _⟩ (fun H locs hP hS => ?_)
      refine lv_iload_n hx hb dX7_mayLead_34 rfl (lv_at hl 2 rfl) ?_
      refine lv_ishr hx hb dX7_mayLead_35 ?_
      refine lv_iconst (v := 1) hx hb dX7_mayLead_36 (by decide) ?_
      refine lv_iand hx hb dX7_mayLead_37 ?_
      refine lv_if_ne (tgt := 43) hx hb dX7_mayLead_38 (by decide) (fun c7 => ?_) (fun c7 => ?_)
      · have h := (if_neg c7).symm.trans h
        refine lv_aload_n hx hb dX7_mayLead_43 rfl (lv_at hl 1 rfl) ?_
        refine lv_iload_n hx hb dX7_mayLead_44 rfl (lv_at hl 2 rfl) ?_
        obtain ⟨r8, hr8, h⟩ := xk_some h
        refine vx_VJ (As := [.int x1]) (rest := []) hFx (k_X7_length l D cI cZ cT q H.size v_size v_at v_begin v_token v_told v_undos v_changed v_felt v_wents v_wish v_trace v_town x1 r8 hr8) (cwV 1 hts gX7_mayLead_X7_length rfl rfl rfl (by decide +kernel) ⟨Nat.le_of_ble_eq_true rfl, Nat.le_of_ble_eq_true rfl⟩) hK hP hD hS hA [0, 1] rfl rfl 7 0 rfl rfl rfl hl.1 rfl (Nat.le_of_ble_eq_true rfl) dX7_mayLead_45 ⟨Nat.zero_le _, Nat.zero_le _⟩ (fun H locs hP hS => ?_)
        refine lv_aload_n hx hb dX7_mayLead_48 rfl (lv_at hl 1 rfl) ?_
        refine lv_iload_n hx hb dX7_mayLead_49 rfl (lv_at hl 0 rfl) ?_
        obtain ⟨r9, hr9, h⟩ := xk_some h
        refine vx_VJ (As := [.int (v_now (3 : Int32).toNatClampNeg)]) (rest := [.int r8]) hFx (k_X7_pace l D cI cZ cT q H.size v_size v_at v_begin v_token v_told v_undos v_changed v_felt v_wents v_wish v_trace v_town (v_now (3 : Int32).toNatClampNeg) r9 hr9) (cwV 1 hts gX7_mayLead_X7_pace rfl rfl rfl (by decide +kernel) ⟨Nat.le_of_ble_eq_true rfl, Nat.le_of_ble_eq_true rfl⟩) hK hP hD hS hA [0, 1] rfl rfl 7 0 rfl rfl rfl hl.1 rfl (Nat.le_of_ble_eq_true rfl) dX7_mayLead_50 ⟨Nat.zero_le _, Nat.zero_le _⟩ (fun H locs hP hS => ?_)
        refine lv_iadd hx hb dX7_mayLead_53 ?_
        refine lv_istore_n (lv' := [(3, .int (r8 + r9)), (2, .int (v_now (3 : Int32).toNatClampNeg)), (0, .ref (q 0)), (1, .int x1)]) hx hb dX7_mayLead_54 rfl hl (by decide) rfl (fun ls hl => ?_)
        refine lv_aload_n hx hb dX7_mayLead_55 rfl (lv_at hl 2 rfl) ?_
        refine va_get (C := RX7) (T := TX7) (N := 34) (v := .ref (q 9)) hx hb hts iw7 hown hK hP 0 rfl rfl 8 (Nat.le_of_ble_eq_true rfl) lk19 (fun _ h9 => h9) rfl dX7_mayLead_56 ?_
        refine lv_iconst (v := 1) hx hb dX7_mayLead_59 (by decide) ?_
        obtain ⟨hi10, h⟩ := xb_some h
        refine va_iald hx hb hK hP 2 0 rfl rfl hi10 dX7_mayLead_60 ?_
        refine lv_iload_n hx hb dX7_mayLead_61 rfl (lv_at hl 0 rfl) ?_
        refine lv_iadd hx hb dX7_mayLead_62 ?_
        refine lv_sipush (v := 9999) hx hb dX7_mayLead_63 (by decide) ?_
        refine lv_icmp_gt (tgt := 92) hx hb dX7_mayLead_66 (by decide) (fun c11 => ?_) (fun c11 => ?_)
        · have h := (if_pos c11).symm.trans h
          refine lv_iconst (v := 0) hx hb dX7_mayLead_92 (by decide) ?_
          exact hret (0 : Int32) () H locs _ ls (Or.inl rfl) (Option.some.inj h) hP hD hS dX7_mayLead_93
        · have h := (if_neg c11).symm.trans h
          refine lv_aload_n hx hb dX7_mayLead_69 rfl (lv_at hl 2 rfl) ?_
          refine va_get (C := RX7) (T := TX7) (N := 34) (v := .ref (q 9)) hx hb hts iw7 hown hK hP 0 rfl rfl 8 (Nat.le_of_ble_eq_true rfl) lk19 (fun _ h9 => h9) rfl dX7_mayLead_70 ?_
          refine lv_iconst (v := 2) hx hb dX7_mayLead_73 (by decide) ?_
          obtain ⟨hi12, h⟩ := xb_some h
          refine va_iald hx hb hK hP 2 0 rfl rfl hi12 dX7_mayLead_74 ?_
          refine lv_aload_n hx hb dX7_mayLead_75 rfl (lv_at hl 2 rfl) ?_
          refine lv_iload_n hx hb dX7_mayLead_76 rfl (lv_at hl 1 rfl) ?_
          obtain ⟨r13, hr13, h⟩ := xk_some h
          refine vx_VJ (As := [.int (v_now (3 : Int32).toNatClampNeg)]) (rest := [.int (v_now (2 : Int32).toNatClampNeg)]) hFx (k_X7_fee l D cI cZ cT q H.size v_size v_at v_begin v_token v_told v_undos v_changed v_felt v_wents v_wish v_trace v_town (v_now (3 : Int32).toNatClampNeg) r13 hr13) (cwV 1 hts gX7_mayLead_X7_fee rfl rfl rfl (by decide +kernel) ⟨Nat.le_of_ble_eq_true rfl, Nat.le_of_ble_eq_true rfl⟩) hK hP hD hS hA [0, 1] rfl rfl 7 0 rfl rfl rfl hl.1 rfl (Nat.le_of_ble_eq_true rfl) dX7_mayLead_77 ⟨Nat.zero_le _, Nat.zero_le _⟩ (fun H locs hP hS => ?_)
          refine lv_iload_n hx hb dX7_mayLead_80 rfl (lv_at hl 0 rfl) ?_
          refine lv_imul hx hb dX7_mayLead_81 ?_
          refine lv_iadd hx hb dX7_mayLead_82 ?_
          refine lv_ldc (v := (99999)) hx hb hown (hts (.constant RX7 216 (99999)) (by decide +kernel)) dX7_mayLead_83 ?_
          refine lv_icmp_gt (tgt := 92) hx hb dX7_mayLead_85 (by decide) (fun c14 => ?_) (fun c14 => ?_)
          · have h := (if_pos c14).symm.trans h
            refine lv_iconst (v := 0) hx hb dX7_mayLead_92 (by decide) ?_
            exact hret (0 : Int32) () H locs _ ls (Or.inl rfl) (Option.some.inj h) hP hD hS dX7_mayLead_93
          · have h := (if_neg c14).symm.trans h
            refine lv_iconst (v := 1) hx hb dX7_mayLead_88 (by decide) ?_
            refine lv_goto (tgt := 93) hx hb dX7_mayLead_89 (by decide) ?_
            exact hret (1 : Int32) () H locs _ ls (Or.inr rfl) (Option.some.inj h) hP hD hS dX7_mayLead_93
      · have h := (if_pos c7).symm.trans h
        refine lv_iconst (v := 0) hx hb dX7_mayLead_41 (by decide) ?_
        exact hret (0 : Int32) () H locs _ ls (Or.inl rfl) (Option.some.inj h) hP hD hS dX7_mayLead_42
abbrev rm_X7_leads : Room := { frames := 2, cells := 0, slots := 0, locals := 47 }
set_option maxHeartbeats 4000000 in
set_option maxRecDepth 100000 in
theorem k_X7_leads (l : Launch) (D : va_G) (cI cZ cT : ClassId) (q : Nat → Nat) (sz : Nat) (v_size : Int32) (v_at : Int32) (v_begin : Int32) (v_token : Int32) (v_told : Int32) (v_undos : Int32) (v_changed : Int32) (v_felt : Int32) (v_wents : Int32) (v_wish : Int32) (v_trace : Int64) (v_town : Nat → Int32) (v_now : Nat → Int32) (v_undone : Nat → Int32) (x1 : Int32) (res : R_X7_leads) (fu : Nat) (hf : f_X7_leads fu v_town v_now v_undone v_undos x1 = some res) : Met l yX7_leads wsX7_leads rm_X7_leads (cPre D (tyz cI cZ cT) [.ref (q 0), .int x1] sz [oX7 q v_size v_at v_begin v_token v_told v_undos v_changed v_felt v_wents v_wish v_trace, rA (q 8) cI 64 v_town, rA (q 9) cI 4 v_now, rA (q 10) cI 40 v_undone]) (cPi D (tyz cI cZ cT) (fun (r : Int32) (u : (Nat → Int32) × (Nat → Int32) × Int32) => (r, u) = res) (fun u => [oX7 q v_size v_at v_begin v_token v_told u.2.2 v_changed v_felt v_wents v_wish v_trace, rA (q 8) cI 64 v_town, rA (q 9) cI 4 u.1, rA (q 10) cI 40 u.2.1]) [oX7 q v_size v_at v_begin v_token v_told v_undos v_changed v_felt v_wents v_wish v_trace, rA (q 8) cI 64 v_town, rA (q 9) cI 4 v_now, rA (q 10) cI 40 v_undone] sz) 0 0 (va_A [oX7 q v_size v_at v_begin v_token v_told v_undos v_changed v_felt v_wents v_wish v_trace, rA (q 8) cI 64 v_town, rA (q 9) cI 4 v_now, rA (q 10) cI 40 v_undone] sz) := by
  refine vx_meth_i (by decide) rfl (Nat.le_of_ble_eq_true rfl) ?_
  intro p e s m args below meth c A Q hx hb hml hown hts hK hP hD hA hS hret ls hl
  have hown : s.vm.findClass RX7 = some m.cls := hown
  have hl : lv_has ls 3 [(0, .ref (q 0)), (1, .int x1)] := hl
  have hFx : CallFix p m c cX7_leads 3 s args wsX7_leads RX7 := ⟨hx, hb, hml, hown, hts⟩
  have lk19 := hts (.fieldLink RX7 19 "FogGuidesModel" "now" "[I") (by decide +kernel)
  have iw7 : ∀ w ∈ u_ws RX7 TX7 34, w ∈ wsX7_leads := by decide +kernel
  have h := hf
  unfold f_X7_leads at h
  obtain ⟨H, eH⟩ : ∃ H, H = s.heap := ⟨_, rfl⟩
  rw [← eH] at hP ⊢
  obtain ⟨locs, el⟩ : ∃ locs : List Loc, locs = [] := ⟨_, rfl⟩
  rw [← el] at hS ⊢
  have hS : va_S A s.heap H locs := by rw [eH]; exact hS
  refine lv_aload_n hx hb dX7_leads_0 rfl (lv_at hl 0 rfl) ?_
  refine lv_iload_n hx hb dX7_leads_1 rfl (lv_at hl 1 rfl) ?_
  obtain ⟨r1, hr1, h⟩ := xk_some h
  refine vx_VJ (As := [.int x1]) (rest := []) hFx (k_X7_isStreet l D cI cZ cT q H.size v_size v_at v_begin v_token v_told v_undos v_changed v_felt v_wents v_wish v_trace v_town x1 r1 hr1) (cwV 1 hts gX7_leads_X7_isStreet rfl rfl rfl (by decide +kernel) ⟨Nat.le_of_ble_eq_true rfl, Nat.le_of_ble_eq_true rfl⟩) hK hP hD hS hA [0, 1] rfl rfl 7 0 rfl rfl rfl hl.1 rfl (Nat.le_of_ble_eq_true rfl) dX7_leads_2 ⟨Nat.zero_le _, Nat.zero_le _⟩ (fun H locs hP hS => ?_)
  refine lv_if_ne (tgt := 10) hx hb dX7_leads_5 (by decide) (fun c2 => ?_) (fun c2 => ?_)
  · have h := (if_neg c2).symm.trans h
    refine lv_aload_n hx hb dX7_leads_10 rfl (lv_at hl 0 rfl) ?_
    refine lv_iload_n hx hb dX7_leads_11 rfl (lv_at hl 1 rfl) ?_
    obtain ⟨r3, hr3, h⟩ := xk_some h
    refine vx_VJ (As := [.int x1]) (rest := []) hFx (k_X7_mayLead l D cI cZ cT q H.size v_size v_at v_begin v_token v_told v_undos v_changed v_felt v_wents v_wish v_trace v_town v_now x1 r3 hr3) (cwV 1 hts gX7_leads_X7_mayLead rfl rfl rfl (by decide +kernel) ⟨Nat.le_of_ble_eq_true rfl, Nat.le_of_ble_eq_true rfl⟩) hK hP hD hS hA [0, 1, 2] rfl rfl 7 0 rfl rfl rfl hl.1 rfl (Nat.le_of_ble_eq_true rfl) dX7_leads_12 ⟨Nat.zero_le _, Nat.zero_le _⟩ (fun H locs hP hS => ?_)
    refine lv_if_ne (tgt := 21) hx hb dX7_leads_15 (by decide) (fun c4 => ?_) (fun c4 => ?_)
    · have h := (if_neg c4).symm.trans h
      refine lv_aload_n hx hb dX7_leads_21 rfl (lv_at hl 0 rfl) ?_
      obtain ⟨r5, hr5, h⟩ := xk_some h
      refine vx_VV (As := []) (rest := []) (wr := [rA (q 8) cI 64 v_town]) (wn := [oX7 q v_size v_at v_begin v_token v_told r5.2 v_changed v_felt v_wents v_wish v_trace, rA (q 8) cI 64 v_town, rA (q 9) cI 4 v_now, rA (q 10) cI 40 r5.1]) hFx (k_X7_notes l D cI cZ cT q H.size v_size v_at v_begin v_token v_told v_undos v_changed v_felt v_wents v_wish v_trace v_now v_undone r5 fu hr5) (cwV 0 hts gX7_leads_X7_notes rfl rfl rfl (by decide +kernel) ⟨Nat.le_of_ble_eq_true rfl, Nat.le_of_ble_eq_true rfl⟩) hK hP hD hS hA [0, 2, 3] [1] [1, 0, 2, 3] rfl rfl rfl rfl (by decide) rfl rfl 7 0 rfl rfl rfl hl.1 rfl (Nat.le_of_ble_eq_true rfl) dX7_leads_22 ⟨Nat.zero_le _, Nat.zero_le _⟩ (fun H locs hP hD hS => ?_)
      refine lv_aload_n hx hb dX7_leads_25 rfl (lv_at hl 0 rfl) ?_
      refine lv_iload_n hx hb dX7_leads_26 rfl (lv_at hl 1 rfl) ?_
      obtain ⟨r6, hr6, h⟩ := xk_some h
      refine vx_VJ (As := [.int x1]) (rest := []) hFx (k_X7_length l D cI cZ cT q H.size v_size v_at v_begin v_token v_told r5.2 v_changed v_felt v_wents v_wish v_trace v_town x1 r6 hr6) (cwV 1 hts gX7_leads_X7_length rfl rfl rfl (by decide +kernel) ⟨Nat.le_of_ble_eq_true rfl, Nat.le_of_ble_eq_true rfl⟩) hK hP hD hS hA [0, 1] rfl rfl 7 0 rfl rfl rfl hl.1 rfl (Nat.le_of_ble_eq_true rfl) dX7_leads_27 ⟨Nat.zero_le _, Nat.zero_le _⟩ (fun H locs hP hS => ?_)
      refine lv_aload_n hx hb dX7_leads_30 rfl (lv_at hl 0 rfl) ?_
      refine lv_aload_n hx hb dX7_leads_31 rfl (lv_at hl 0 rfl) ?_
      refine va_get (C := RX7) (T := TX7) (N := 34) (v := .ref (q 9)) hx hb hts iw7 hown hK hP 0 rfl rfl 8 (Nat.le_of_ble_eq_true rfl) lk19 (fun _ h9 => h9) rfl dX7_leads_32 ?_
      refine lv_iconst (v := 3) hx hb dX7_leads_35 (by decide) ?_
      obtain ⟨hi7, h⟩ := xb_some h
      refine va_iald hx hb hK hP 2 0 rfl rfl hi7 dX7_leads_36 ?_
      obtain ⟨r8, hr8, h⟩ := xk_some h
      refine vx_VJ (As := [.int (v_now (3 : Int32).toNatClampNeg)]) (rest := [.int r6]) hFx (k_X7_pace l D cI cZ cT q H.size v_size v_at v_begin v_token v_told r5.2 v_changed v_felt v_wents v_wish v_trace v_town (v_now (3 : Int32).toNatClampNeg) r8 hr8) (cwV 1 hts gX7_leads_X7_pace rfl rfl rfl (by decide +kernel) ⟨Nat.le_of_ble_eq_true rfl, Nat.le_of_ble_eq_true rfl⟩) hK hP hD hS hA [0, 1] rfl rfl 7 0 rfl rfl rfl hl.1 rfl (Nat.le_of_ble_eq_true rfl) dX7_leads_37 ⟨Nat.zero_le _, Nat.zero_le _⟩ (fun H locs hP hS => ?_)
      refine lv_iadd hx hb dX7_leads_40 ?_
      refine lv_istore_n (lv' := [(2, .int (r6 + r8)), (0, .ref (q 0)), (1, .int x1)]) hx hb dX7_leads_41 rfl hl (by decide) rfl (fun ls hl => ?_)
      refine lv_aload_n hx hb dX7_leads_42 rfl (lv_at hl 1 rfl) ?_
      refine va_get (C := RX7) (T := TX7) (N := 34) (v := .ref (q 9)) hx hb hts iw7 hown hK hP 0 rfl rfl 8 (Nat.le_of_ble_eq_true rfl) lk19 (fun _ h9 => h9) rfl dX7_leads_43 ?_
      refine lv_iconst (v := 0) hx hb dX7_leads_46 (by decide) ?_
      refine lv_aload_n hx hb dX7_leads_47 rfl (lv_at hl 1 rfl) ?_
      refine lv_iload_n hx hb dX7_leads_48 rfl (lv_at hl 2 rfl) ?_
      refine lv_aload_n hx hb dX7_leads_49 rfl (lv_at hl 1 rfl) ?_
      refine va_get (C := RX7) (T := TX7) (N := 34) (v := .ref (q 9)) hx hb hts iw7 hown hK hP 0 rfl rfl 8 (Nat.le_of_ble_eq_true rfl) lk19 (fun _ h9 => h9) rfl dX7_leads_50 ?_
      refine lv_iconst (v := 0) hx hb dX7_leads_53 (by decide) ?_
      obtain ⟨hi9, h⟩ := xb_some h
      refine va_iald hx hb hK hP 2 0 rfl rfl hi9 dX7_leads_54 ?_
      obtain ⟨r10, hr10, h⟩ := xk_some h
      refine vx_VJ (As := [.int x1, .int (v_now (0 : Int32).toNatClampNeg)]) (rest := [.int (0 : Int32), .ref (q 9)]) hFx (k_X7_over l D cI cZ cT q H.size v_size v_at v_begin v_token v_told r5.2 v_changed v_felt v_wents v_wish v_trace v_town x1 (v_now (0 : Int32).toNatClampNeg) r10 hr10) (cwV 2 hts gX7_leads_X7_over rfl rfl rfl (by decide +kernel) ⟨Nat.le_of_ble_eq_true rfl, Nat.le_of_ble_eq_true rfl⟩) hK hP hD hS hA [0, 1] rfl rfl 7 0 rfl rfl rfl hl.1 rfl (Nat.le_of_ble_eq_true rfl) dX7_leads_55 ⟨Nat.zero_le _, Nat.zero_le _⟩ (fun H locs hP hS => ?_)
      obtain ⟨hi11, h⟩ := xb_some h
      refine va_iast hx hb hK hP hD hS 2 0 rfl rfl hi11 dX7_leads_58 (fun H locs hP hD hS => ?_)
      have hP : va_P D vwCl [oX7 q v_size v_at v_begin v_token v_told r5.2 v_changed v_felt v_wents v_wish v_trace, rA (q 8) cI 64 v_town, rA (q 9) cI 4 (upd v_now (0 : Int32).toNatClampNeg r10), rA (q 10) cI 40 r5.1] H := hP
      have hD : va_D A [oX7 q v_size v_at v_begin v_token v_told r5.2 v_changed v_felt v_wents v_wish v_trace, rA (q 8) cI 64 v_town, rA (q 9) cI 4 (upd v_now (0 : Int32).toNatClampNeg r10), rA (q 10) cI 40 r5.1] := hD
      refine lv_aload_n hx hb dX7_leads_59 rfl (lv_at hl 1 rfl) ?_
      refine va_get (C := RX7) (T := TX7) (N := 34) (v := .ref (q 9)) hx hb hts iw7 hown hK hP 0 rfl rfl 8 (Nat.le_of_ble_eq_true rfl) lk19 (fun _ h9 => h9) rfl dX7_leads_60 ?_
      refine lv_iconst (v := 1) hx hb dX7_leads_63 (by decide) ?_
      refine lv_dup2_11 hx hb dX7_leads_64 rfl rfl ?_
      obtain ⟨hi12, h⟩ := xb_some h
      refine va_iald hx hb hK hP 2 0 rfl rfl hi12 dX7_leads_65 ?_
      refine lv_iload_n hx hb dX7_leads_66 rfl (lv_at hl 0 rfl) ?_
      refine lv_iadd hx hb dX7_leads_67 ?_
      obtain ⟨hi13, h⟩ := xb_some h
      refine va_iast hx hb hK hP hD hS 2 0 rfl rfl hi13 dX7_leads_68 (fun H locs hP hD hS => ?_)
      have hP : va_P D vwCl [oX7 q v_size v_at v_begin v_token v_told r5.2 v_changed v_felt v_wents v_wish v_trace, rA (q 8) cI 64 v_town, rA (q 9) cI 4 (upd (upd v_now (0 : Int32).toNatClampNeg r10) (1 : Int32).toNatClampNeg (((upd v_now (0 : Int32).toNatClampNeg r10) (1 : Int32).toNatClampNeg) + (r6 + r8))), rA (q 10) cI 40 r5.1] H := hP
      have hD : va_D A [oX7 q v_size v_at v_begin v_token v_told r5.2 v_changed v_felt v_wents v_wish v_trace, rA (q 8) cI 64 v_town, rA (q 9) cI 4 (upd (upd v_now (0 : Int32).toNatClampNeg r10) (1 : Int32).toNatClampNeg (((upd v_now (0 : Int32).toNatClampNeg r10) (1 : Int32).toNatClampNeg) + (r6 + r8))), rA (q 10) cI 40 r5.1] := hD
      refine lv_aload_n hx hb dX7_leads_69 rfl (lv_at hl 1 rfl) ?_
      refine va_get (C := RX7) (T := TX7) (N := 34) (v := .ref (q 9)) hx hb hts iw7 hown hK hP 0 rfl rfl 8 (Nat.le_of_ble_eq_true rfl) lk19 (fun _ h9 => h9) rfl dX7_leads_70 ?_
      refine lv_iconst (v := 2) hx hb dX7_leads_73 (by decide) ?_
      refine lv_dup2_11 hx hb dX7_leads_74 rfl rfl ?_
      obtain ⟨hi14, h⟩ := xb_some h
      refine va_iald hx hb hK hP 2 0 rfl rfl hi14 dX7_leads_75 ?_
      refine lv_aload_n hx hb dX7_leads_76 rfl (lv_at hl 1 rfl) ?_
      refine lv_aload_n hx hb dX7_leads_77 rfl (lv_at hl 1 rfl) ?_
      refine va_get (C := RX7) (T := TX7) (N := 34) (v := .ref (q 9)) hx hb hts iw7 hown hK hP 0 rfl rfl 8 (Nat.le_of_ble_eq_true rfl) lk19 (fun _ h9 => h9) rfl dX7_leads_78 ?_
      refine lv_iconst (v := 3) hx hb dX7_leads_81 (by decide) ?_
      obtain ⟨hi15, h⟩ := xb_some h
      refine va_iald hx hb hK hP 2 0 rfl rfl hi15 dX7_leads_82 ?_
      obtain ⟨r16, hr16, h⟩ := xk_some h
      refine vx_VJ (As := [.int ((upd (upd v_now (0 : Int32).toNatClampNeg r10) (1 : Int32).toNatClampNeg (((upd v_now (0 : Int32).toNatClampNeg r10) (1 : Int32).toNatClampNeg) + (r6 + r8))) (3 : Int32).toNatClampNeg)]) (rest := [.int ((upd (upd v_now (0 : Int32).toNatClampNeg r10) (1 : Int32).toNatClampNeg (((upd v_now (0 : Int32).toNatClampNeg r10) (1 : Int32).toNatClampNeg) + (r6 + r8))) (2 : Int32).toNatClampNeg), .int (2 : Int32), .ref (q 9)]) hFx (k_X7_fee l D cI cZ cT q H.size v_size v_at v_begin v_token v_told r5.2 v_changed v_felt v_wents v_wish v_trace v_town ((upd (upd v_now (0 : Int32).toNatClampNeg r10) (1 : Int32).toNatClampNeg (((upd v_now (0 : Int32).toNatClampNeg r10) (1 : Int32).toNatClampNeg) + (r6 + r8))) (3 : Int32).toNatClampNeg) r16 hr16) (cwV 1 hts gX7_leads_X7_fee rfl rfl rfl (by decide +kernel) ⟨Nat.le_of_ble_eq_true rfl, Nat.le_of_ble_eq_true rfl⟩) hK hP hD hS hA [0, 1] rfl rfl 7 0 rfl rfl rfl hl.1 rfl (Nat.le_of_ble_eq_true rfl) dX7_leads_83 ⟨Nat.zero_le _, Nat.zero_le _⟩ (fun H locs hP hS => ?_)
      refine lv_iload_n hx hb dX7_leads_86 rfl (lv_at hl 0 rfl) ?_
      refine lv_imul hx hb dX7_leads_87 ?_
      refine lv_iadd hx hb dX7_leads_88 ?_
      obtain ⟨hi17, h⟩ := xb_some h
      refine va_iast hx hb hK hP hD hS 2 0 rfl rfl hi17 dX7_leads_89 (fun H locs hP hD hS => ?_)
      have hP : va_P D vwCl [oX7 q v_size v_at v_begin v_token v_told r5.2 v_changed v_felt v_wents v_wish v_trace, rA (q 8) cI 64 v_town, rA (q 9) cI 4 (upd (upd (upd v_now (0 : Int32).toNatClampNeg r10) (1 : Int32).toNatClampNeg (((upd v_now (0 : Int32).toNatClampNeg r10) (1 : Int32).toNatClampNeg) + (r6 + r8))) (2 : Int32).toNatClampNeg (((upd (upd v_now (0 : Int32).toNatClampNeg r10) (1 : Int32).toNatClampNeg (((upd v_now (0 : Int32).toNatClampNeg r10) (1 : Int32).toNatClampNeg) + (r6 + r8))) (2 : Int32).toNatClampNeg) + (r16 * (r6 + r8)))), rA (q 10) cI 40 r5.1] H := hP
      have hD : va_D A [oX7 q v_size v_at v_begin v_token v_told r5.2 v_changed v_felt v_wents v_wish v_trace, rA (q 8) cI 64 v_town, rA (q 9) cI 4 (upd (upd (upd v_now (0 : Int32).toNatClampNeg r10) (1 : Int32).toNatClampNeg (((upd v_now (0 : Int32).toNatClampNeg r10) (1 : Int32).toNatClampNeg) + (r6 + r8))) (2 : Int32).toNatClampNeg (((upd (upd v_now (0 : Int32).toNatClampNeg r10) (1 : Int32).toNatClampNeg (((upd v_now (0 : Int32).toNatClampNeg r10) (1 : Int32).toNatClampNeg) + (r6 + r8))) (2 : Int32).toNatClampNeg) + (r16 * (r6 + r8)))), rA (q 10) cI 40 r5.1] := hD
      refine lv_aload_n hx hb dX7_leads_90 rfl (lv_at hl 1 rfl) ?_
      refine va_get (C := RX7) (T := TX7) (N := 34) (v := .ref (q 9)) hx hb hts iw7 hown hK hP 0 rfl rfl 8 (Nat.le_of_ble_eq_true rfl) lk19 (fun _ h9 => h9) rfl dX7_leads_91 ?_
      refine lv_iconst (v := 0) hx hb dX7_leads_94 (by decide) ?_
      obtain ⟨hi18, h⟩ := xb_some h
      refine va_iald hx hb hK hP 2 0 rfl rfl hi18 dX7_leads_95 ?_
      exact hret ((upd (upd (upd v_now (0 : Int32).toNatClampNeg r10) (1 : Int32).toNatClampNeg (((upd v_now (0 : Int32).toNatClampNeg r10) (1 : Int32).toNatClampNeg) + (r6 + r8))) (2 : Int32).toNatClampNeg (((upd (upd v_now (0 : Int32).toNatClampNeg r10) (1 : Int32).toNatClampNeg (((upd v_now (0 : Int32).toNatClampNeg r10) (1 : Int32).toNatClampNeg) + (r6 + r8))) (2 : Int32).toNatClampNeg) + (r16 * (r6 + r8)))) (0 : Int32).toNatClampNeg) ((upd (upd (upd v_now (0 : Int32).toNatClampNeg r10) (1 : Int32).toNatClampNeg (((upd v_now (0 : Int32).toNatClampNeg r10) (1 : Int32).toNatClampNeg) + (r6 + r8))) (2 : Int32).toNatClampNeg (((upd (upd v_now (0 : Int32).toNatClampNeg r10) (1 : Int32).toNatClampNeg (((upd v_now (0 : Int32).toNatClampNeg r10) (1 : Int32).toNatClampNeg) + (r6 + r8))) (2 : Int32).toNatClampNeg) + (r16 * (r6 + r8))), r5.1, r5.2)) H locs _ ls (Option.some.inj h) hP hD hS dX7_leads_96
    · have h := (if_pos c4).symm.trans h
      refine lv_bipush (v := (-2)) hx hb dX7_leads_18 (by decide) ?_
      exact hret (-2 : Int32) (v_now, v_undone, v_undos) H locs _ ls (Option.some.inj h) hP hD hS dX7_leads_20
  · have h := (if_pos c2).symm.trans h
    refine lv_iconst (v := (-1)) hx hb dX7_leads_8 (by decide) ?_
    exact hret (-1 : Int32) (v_now, v_undone, v_undos) H locs _ ls (Option.some.inj h) hP hD hS dX7_leads_9
abbrev rm_X7_mayGo : Room := { frames := 2, cells := 0, slots := 0, locals := 45 }
set_option maxHeartbeats 4000000 in
set_option maxRecDepth 100000 in
theorem k_X7_mayGo (l : Launch) (D : va_G) (cI cZ cT : ClassId) (q : Nat → Nat) (sz : Nat) (v_size : Int32) (v_at : Int32) (v_begin : Int32) (v_token : Int32) (v_told : Int32) (v_undos : Int32) (v_changed : Int32) (v_felt : Int32) (v_wents : Int32) (v_wish : Int32) (v_trace : Int64) (v_town : Nat → Int32) (v_now : Nat → Int32) (x1 : Int32) (res : R_X7_mayGo) (fu : Nat) (hf : f_X7_mayGo fu v_town v_now x1 = some res) : Met l yX7_mayGo wsX7_mayGo rm_X7_mayGo (cPre D (tyz cI cZ cT) [.ref (q 0), .int x1] sz [oX7 q v_size v_at v_begin v_token v_told v_undos v_changed v_felt v_wents v_wish v_trace, rA (q 8) cI 64 v_town, rA (q 9) cI 4 v_now]) (cPi D (tyz cI cZ cT) (fun (r : Int32) (_ : Unit) => r = res) (fun _ => [oX7 q v_size v_at v_begin v_token v_told v_undos v_changed v_felt v_wents v_wish v_trace, rA (q 8) cI 64 v_town, rA (q 9) cI 4 v_now]) [oX7 q v_size v_at v_begin v_token v_told v_undos v_changed v_felt v_wents v_wish v_trace, rA (q 8) cI 64 v_town, rA (q 9) cI 4 v_now] sz) 0 0 (va_A [oX7 q v_size v_at v_begin v_token v_told v_undos v_changed v_felt v_wents v_wish v_trace, rA (q 8) cI 64 v_town, rA (q 9) cI 4 v_now] sz) := by
  refine vx_meth_z (by decide) rfl (Nat.le_of_ble_eq_true rfl) ?_
  intro p e s m args below meth c A Q hx hb hml hown hts hK hP hD hA hS hret ls hl
  have hown : s.vm.findClass RX7 = some m.cls := hown
  have hl : lv_has ls 2 [(0, .ref (q 0)), (1, .int x1)] := hl
  have hFx : CallFix p m c cX7_mayGo 2 s args wsX7_mayGo RX7 := ⟨hx, hb, hml, hown, hts⟩
  have lk19 := hts (.fieldLink RX7 19 "FogGuidesModel" "now" "[I") (by decide +kernel)
  have iw7 : ∀ w ∈ u_ws RX7 TX7 34, w ∈ wsX7_mayGo := by decide +kernel
  have h := hf
  unfold f_X7_mayGo at h
  obtain ⟨H, eH⟩ : ∃ H, H = s.heap := ⟨_, rfl⟩
  rw [← eH] at hP ⊢
  obtain ⟨locs, el⟩ : ∃ locs : List Loc, locs = [] := ⟨_, rfl⟩
  rw [← el] at hS ⊢
  have hS : va_S A s.heap H locs := by rw [eH]; exact hS
  refine lv_aload_n hx hb dX7_mayGo_0 rfl (lv_at hl 0 rfl) ?_
  refine va_get (C := RX7) (T := TX7) (N := 34) (v := .ref (q 9)) hx hb hts iw7 hown hK hP 0 rfl rfl 8 (Nat.le_of_ble_eq_true rfl) lk19 (fun _ h9 => h9) rfl dX7_mayGo_1 ?_
  refine lv_iconst (v := 3) hx hb dX7_mayGo_4 (by decide) ?_
  obtain ⟨hi1, h⟩ := xb_some h
  refine va_iald hx hb hK hP 2 0 rfl rfl hi1 dX7_mayGo_5 ?_
  refine lv_bipush (v := (-9)) hx hb dX7_mayGo_6 (by decide) ?_
  refine lv_icmp_ne (tgt := 67) hx hb dX7_mayGo_8 (by decide) (fun c2 => ?_) (fun c2 => ?_)
  · have h := (if_neg c2).symm.trans h
    refine lv_iconst (v := 0) hx hb dX7_mayGo_67 (by decide) ?_
    exact hret (0 : Int32) () H locs _ ls (Or.inl rfl) (Option.some.inj h) hP hD hS dX7_mayGo_68
  · have h := (if_pos c2).symm.trans h
    refine lv_aload_n hx hb dX7_mayGo_11 rfl (lv_at hl 0 rfl) ?_
    refine lv_iload_n hx hb dX7_mayGo_12 rfl (lv_at hl 1 rfl) ?_
    refine lv_aload_n hx hb dX7_mayGo_13 rfl (lv_at hl 0 rfl) ?_
    refine va_get (C := RX7) (T := TX7) (N := 34) (v := .ref (q 9)) hx hb hts iw7 hown hK hP 0 rfl rfl 8 (Nat.le_of_ble_eq_true rfl) lk19 (fun _ h9 => h9) rfl dX7_mayGo_14 ?_
    refine lv_iconst (v := 0) hx hb dX7_mayGo_17 (by decide) ?_
    obtain ⟨hi3, h⟩ := xb_some h
    refine va_iald hx hb hK hP 2 0 rfl rfl hi3 dX7_mayGo_18 ?_
    obtain ⟨r4, hr4, h⟩ := xk_some h
    refine vx_VJ (As := [.int x1, .int (v_now (0 : Int32).toNatClampNeg)]) (rest := []) hFx (k_X7_over l D cI cZ cT q H.size v_size v_at v_begin v_token v_told v_undos v_changed v_felt v_wents v_wish v_trace v_town x1 (v_now (0 : Int32).toNatClampNeg) r4 hr4) (cwV 2 hts gX7_mayGo_X7_over rfl rfl rfl (by decide +kernel) ⟨Nat.le_of_ble_eq_true rfl, Nat.le_of_ble_eq_true rfl⟩) hK hP hD hS hA [0, 1] rfl rfl 7 0 rfl rfl rfl hl.1 rfl (Nat.le_of_ble_eq_true rfl) dX7_mayGo_19 ⟨Nat.zero_le _, Nat.zero_le _⟩ (fun H locs hP hS => ?_)
    refine lv_bipush (v := (-9)) hx hb dX7_mayGo_22 (by decide) ?_
    refine lv_icmp_eq (tgt := 67) hx hb dX7_mayGo_24 (by decide) (fun c5 => ?_) (fun c5 => ?_)
    · have h := (if_pos c5).symm.trans h
      refine lv_iconst (v := 0) hx hb dX7_mayGo_67 (by decide) ?_
      exact hret (0 : Int32) () H locs _ ls (Or.inl rfl) (Option.some.inj h) hP hD hS dX7_mayGo_68
    · have h := (if_neg c5).symm.trans h
      refine lv_aload_n hx hb dX7_mayGo_27 rfl (lv_at hl 0 rfl) ?_
      refine lv_aload_n hx hb dX7_mayGo_28 rfl (lv_at hl 0 rfl) ?_
      refine va_get (C := RX7) (T := TX7) (N := 34) (v := .ref (q 9)) hx hb hts iw7 hown hK hP 0 rfl rfl 8 (Nat.le_of_ble_eq_true rfl) lk19 (fun _ h9 => h9) rfl dX7_mayGo_29 ?_
      refine lv_iconst (v := 1) hx hb dX7_mayGo_32 (by decide) ?_
      obtain ⟨hi6, h⟩ := xb_some h
      refine va_iald hx hb hK hP 2 0 rfl rfl hi6 dX7_mayGo_33 ?_
      refine lv_aload_n hx hb dX7_mayGo_34 rfl (lv_at hl 0 rfl) ?_
      refine lv_iload_n hx hb dX7_mayGo_35 rfl (lv_at hl 1 rfl) ?_
      obtain ⟨r7, hr7, h⟩ := xk_some h
      refine vx_VJ (As := [.int x1]) (rest := [.int (v_now (1 : Int32).toNatClampNeg), .ref (q 0)]) hFx (k_X7_length l D cI cZ cT q H.size v_size v_at v_begin v_token v_told v_undos v_changed v_felt v_wents v_wish v_trace v_town x1 r7 hr7) (cwV 1 hts gX7_mayGo_X7_length rfl rfl rfl (by decide +kernel) ⟨Nat.le_of_ble_eq_true rfl, Nat.le_of_ble_eq_true rfl⟩) hK hP hD hS hA [0, 1] rfl rfl 7 0 rfl rfl rfl hl.1 rfl (Nat.le_of_ble_eq_true rfl) dX7_mayGo_36 ⟨Nat.zero_le _, Nat.zero_le _⟩ (fun H locs hP hS => ?_)
      obtain ⟨r8, hr8, h⟩ := xk_some h
      refine vx_VJ (As := [.int (v_now (1 : Int32).toNatClampNeg), .int r7]) (rest := []) hFx (k_X7_isThin l D cI cZ cT q H.size v_size v_at v_begin v_token v_told v_undos v_changed v_felt v_wents v_wish v_trace v_town (v_now (1 : Int32).toNatClampNeg) r7 r8 fu hr8) (cwV 2 hts gX7_mayGo_X7_isThin rfl rfl rfl (by decide +kernel) ⟨Nat.le_of_ble_eq_true rfl, Nat.le_of_ble_eq_true rfl⟩) hK hP hD hS hA [0, 1] rfl rfl 7 0 rfl rfl rfl hl.1 rfl (Nat.le_of_ble_eq_true rfl) dX7_mayGo_39 ⟨Nat.zero_le _, Nat.zero_le _⟩ (fun H locs hP hS => ?_)
      refine lv_if_eq (tgt := 67) hx hb dX7_mayGo_42 (by decide) (fun c9 => ?_) (fun c9 => ?_)
      · have h := (if_pos c9).symm.trans h
        refine lv_iconst (v := 0) hx hb dX7_mayGo_67 (by decide) ?_
        exact hret (0 : Int32) () H locs _ ls (Or.inl rfl) (Option.some.inj h) hP hD hS dX7_mayGo_68
      · have h := (if_neg c9).symm.trans h
        refine lv_aload_n hx hb dX7_mayGo_45 rfl (lv_at hl 0 rfl) ?_
        refine va_get (C := RX7) (T := TX7) (N := 34) (v := .ref (q 9)) hx hb hts iw7 hown hK hP 0 rfl rfl 8 (Nat.le_of_ble_eq_true rfl) lk19 (fun _ h9 => h9) rfl dX7_mayGo_46 ?_
        refine lv_iconst (v := 1) hx hb dX7_mayGo_49 (by decide) ?_
        obtain ⟨hi10, h⟩ := xb_some h
        refine va_iald hx hb hK hP 2 0 rfl rfl hi10 dX7_mayGo_50 ?_
        refine lv_aload_n hx hb dX7_mayGo_51 rfl (lv_at hl 0 rfl) ?_
        refine lv_iload_n hx hb dX7_mayGo_52 rfl (lv_at hl 1 rfl) ?_
        obtain ⟨r11, hr11, h⟩ := xk_some h
        refine vx_VJ (As := [.int x1]) (rest := [.int (v_now (1 : Int32).toNatClampNeg)]) hFx (k_X7_length l D cI cZ cT q H.size v_size v_at v_begin v_token v_told v_undos v_changed v_felt v_wents v_wish v_trace v_town x1 r11 hr11) (cwV 1 hts gX7_mayGo_X7_length rfl rfl rfl (by decide +kernel) ⟨Nat.le_of_ble_eq_true rfl, Nat.le_of_ble_eq_true rfl⟩) hK hP hD hS hA [0, 1] rfl rfl 7 0 rfl rfl rfl hl.1 rfl (Nat.le_of_ble_eq_true rfl) dX7_mayGo_53 ⟨Nat.zero_le _, Nat.zero_le _⟩ (fun H locs hP hS => ?_)
        refine lv_iadd hx hb dX7_mayGo_56 ?_
        refine lv_sipush (v := 9999) hx hb dX7_mayGo_57 (by decide) ?_
        refine lv_icmp_gt (tgt := 67) hx hb dX7_mayGo_60 (by decide) (fun c12 => ?_) (fun c12 => ?_)
        · have h := (if_pos c12).symm.trans h
          refine lv_iconst (v := 0) hx hb dX7_mayGo_67 (by decide) ?_
          exact hret (0 : Int32) () H locs _ ls (Or.inl rfl) (Option.some.inj h) hP hD hS dX7_mayGo_68
        · have h := (if_neg c12).symm.trans h
          refine lv_iconst (v := 1) hx hb dX7_mayGo_63 (by decide) ?_
          refine lv_goto (tgt := 68) hx hb dX7_mayGo_64 (by decide) ?_
          exact hret (1 : Int32) () H locs _ ls (Or.inr rfl) (Option.some.inj h) hP hD hS dX7_mayGo_68
abbrev rm_X7_alone : Room := { frames := 3, cells := 0, slots := 0, locals := 66 }
set_option maxHeartbeats 4000000 in
set_option maxRecDepth 100000 in
theorem k_X7_alone (l : Launch) (D : va_G) (cI cZ cT : ClassId) (q : Nat → Nat) (sz : Nat) (v_size : Int32) (v_at : Int32) (v_begin : Int32) (v_token : Int32) (v_told : Int32) (v_undos : Int32) (v_changed : Int32) (v_felt : Int32) (v_wents : Int32) (v_wish : Int32) (v_trace : Int64) (v_town : Nat → Int32) (v_now : Nat → Int32) (v_undone : Nat → Int32) (x1 : Int32) (res : R_X7_alone) (fu : Nat) (hf : f_X7_alone fu v_town v_now v_undone v_undos x1 = some res) : Met l yX7_alone wsX7_alone rm_X7_alone (cPre D (tyz cI cZ cT) [.ref (q 0), .int x1] sz [oX7 q v_size v_at v_begin v_token v_told v_undos v_changed v_felt v_wents v_wish v_trace, rA (q 8) cI 64 v_town, rA (q 9) cI 4 v_now, rA (q 10) cI 40 v_undone]) (cPi D (tyz cI cZ cT) (fun (r : Int32) (u : (Nat → Int32) × (Nat → Int32) × Int32) => (r, u) = res) (fun u => [oX7 q v_size v_at v_begin v_token v_told u.2.2 v_changed v_felt v_wents v_wish v_trace, rA (q 8) cI 64 v_town, rA (q 9) cI 4 u.1, rA (q 10) cI 40 u.2.1]) [oX7 q v_size v_at v_begin v_token v_told v_undos v_changed v_felt v_wents v_wish v_trace, rA (q 8) cI 64 v_town, rA (q 9) cI 4 v_now, rA (q 10) cI 40 v_undone] sz) 0 0 (va_A [oX7 q v_size v_at v_begin v_token v_told v_undos v_changed v_felt v_wents v_wish v_trace, rA (q 8) cI 64 v_town, rA (q 9) cI 4 v_now, rA (q 10) cI 40 v_undone] sz) := by
  refine vx_meth_i (by decide) rfl (Nat.le_of_ble_eq_true rfl) ?_
  intro p e s m args below meth c A Q hx hb hml hown hts hK hP hD hA hS hret ls hl
  have hown : s.vm.findClass RX7 = some m.cls := hown
  have hl : lv_has ls 2 [(0, .ref (q 0)), (1, .int x1)] := hl
  have hFx : CallFix p m c cX7_alone 2 s args wsX7_alone RX7 := ⟨hx, hb, hml, hown, hts⟩
  have lk19 := hts (.fieldLink RX7 19 "FogGuidesModel" "now" "[I") (by decide +kernel)
  have iw7 : ∀ w ∈ u_ws RX7 TX7 34, w ∈ wsX7_alone := by decide +kernel
  have h := hf
  unfold f_X7_alone at h
  obtain ⟨H, eH⟩ : ∃ H, H = s.heap := ⟨_, rfl⟩
  rw [← eH] at hP ⊢
  obtain ⟨locs, el⟩ : ∃ locs : List Loc, locs = [] := ⟨_, rfl⟩
  rw [← el] at hS ⊢
  have hS : va_S A s.heap H locs := by rw [eH]; exact hS
  refine lv_aload_n hx hb dX7_alone_0 rfl (lv_at hl 0 rfl) ?_
  refine lv_iload_n hx hb dX7_alone_1 rfl (lv_at hl 1 rfl) ?_
  obtain ⟨r1, hr1, h⟩ := xk_some h
  refine vx_VJ (As := [.int x1]) (rest := []) hFx (k_X7_isStreet l D cI cZ cT q H.size v_size v_at v_begin v_token v_told v_undos v_changed v_felt v_wents v_wish v_trace v_town x1 r1 hr1) (cwV 1 hts gX7_alone_X7_isStreet rfl rfl rfl (by decide +kernel) ⟨Nat.le_of_ble_eq_true rfl, Nat.le_of_ble_eq_true rfl⟩) hK hP hD hS hA [0, 1] rfl rfl 7 0 rfl rfl rfl hl.1 rfl (Nat.le_of_ble_eq_true rfl) dX7_alone_2 ⟨Nat.zero_le _, Nat.zero_le _⟩ (fun H locs hP hS => ?_)
  refine lv_if_ne (tgt := 10) hx hb dX7_alone_5 (by decide) (fun c2 => ?_) (fun c2 => ?_)
  · have h := (if_neg c2).symm.trans h
    refine lv_aload_n hx hb dX7_alone_10 rfl (lv_at hl 0 rfl) ?_
    refine lv_iload_n hx hb dX7_alone_11 rfl (lv_at hl 1 rfl) ?_
    obtain ⟨r3, hr3, h⟩ := xk_some h
    refine vx_VJ (As := [.int x1]) (rest := []) hFx (k_X7_mayGo l D cI cZ cT q H.size v_size v_at v_begin v_token v_told v_undos v_changed v_felt v_wents v_wish v_trace v_town v_now x1 r3 fu hr3) (cwV 1 hts gX7_alone_X7_mayGo rfl rfl rfl (by decide +kernel) ⟨Nat.le_of_ble_eq_true rfl, Nat.le_of_ble_eq_true rfl⟩) hK hP hD hS hA [0, 1, 2] rfl rfl 7 0 rfl rfl rfl hl.1 rfl (Nat.le_of_ble_eq_true rfl) dX7_alone_12 ⟨Nat.zero_le _, Nat.zero_le _⟩ (fun H locs hP hS => ?_)
    refine lv_if_ne (tgt := 21) hx hb dX7_alone_15 (by decide) (fun c4 => ?_) (fun c4 => ?_)
    · have h := (if_neg c4).symm.trans h
      refine lv_aload_n hx hb dX7_alone_21 rfl (lv_at hl 0 rfl) ?_
      obtain ⟨r5, hr5, h⟩ := xk_some h
      refine vx_VV (As := []) (rest := []) (wr := [rA (q 8) cI 64 v_town]) (wn := [oX7 q v_size v_at v_begin v_token v_told r5.2 v_changed v_felt v_wents v_wish v_trace, rA (q 8) cI 64 v_town, rA (q 9) cI 4 v_now, rA (q 10) cI 40 r5.1]) hFx (k_X7_notes l D cI cZ cT q H.size v_size v_at v_begin v_token v_told v_undos v_changed v_felt v_wents v_wish v_trace v_now v_undone r5 fu hr5) (cwV 0 hts gX7_alone_X7_notes rfl rfl rfl (by decide +kernel) ⟨Nat.le_of_ble_eq_true rfl, Nat.le_of_ble_eq_true rfl⟩) hK hP hD hS hA [0, 2, 3] [1] [1, 0, 2, 3] rfl rfl rfl rfl (by decide) rfl rfl 7 0 rfl rfl rfl hl.1 rfl (Nat.le_of_ble_eq_true rfl) dX7_alone_22 ⟨Nat.zero_le _, Nat.zero_le _⟩ (fun H locs hP hD hS => ?_)
      refine lv_aload_n hx hb dX7_alone_25 rfl (lv_at hl 0 rfl) ?_
      refine va_get (C := RX7) (T := TX7) (N := 34) (v := .ref (q 9)) hx hb hts iw7 hown hK hP 0 rfl rfl 8 (Nat.le_of_ble_eq_true rfl) lk19 (fun _ h9 => h9) rfl dX7_alone_26 ?_
      refine lv_iconst (v := 0) hx hb dX7_alone_29 (by decide) ?_
      refine lv_aload_n hx hb dX7_alone_30 rfl (lv_at hl 0 rfl) ?_
      refine lv_iload_n hx hb dX7_alone_31 rfl (lv_at hl 1 rfl) ?_
      refine lv_aload_n hx hb dX7_alone_32 rfl (lv_at hl 0 rfl) ?_
      refine va_get (C := RX7) (T := TX7) (N := 34) (v := .ref (q 9)) hx hb hts iw7 hown hK hP 0 rfl rfl 8 (Nat.le_of_ble_eq_true rfl) lk19 (fun _ h9 => h9) rfl dX7_alone_33 ?_
      refine lv_iconst (v := 0) hx hb dX7_alone_36 (by decide) ?_
      obtain ⟨hi6, h⟩ := xb_some h
      refine va_iald hx hb hK hP 2 0 rfl rfl hi6 dX7_alone_37 ?_
      obtain ⟨r7, hr7, h⟩ := xk_some h
      refine vx_VJ (As := [.int x1, .int (v_now (0 : Int32).toNatClampNeg)]) (rest := [.int (0 : Int32), .ref (q 9)]) hFx (k_X7_over l D cI cZ cT q H.size v_size v_at v_begin v_token v_told r5.2 v_changed v_felt v_wents v_wish v_trace v_town x1 (v_now (0 : Int32).toNatClampNeg) r7 hr7) (cwV 2 hts gX7_alone_X7_over rfl rfl rfl (by decide +kernel) ⟨Nat.le_of_ble_eq_true rfl, Nat.le_of_ble_eq_true rfl⟩) hK hP hD hS hA [0, 1] rfl rfl 7 0 rfl rfl rfl hl.1 rfl (Nat.le_of_ble_eq_true rfl) dX7_alone_38 ⟨Nat.zero_le _, Nat.zero_le _⟩ (fun H locs hP hS => ?_)
      obtain ⟨hi8, h⟩ := xb_some h
      refine va_iast hx hb hK hP hD hS 2 0 rfl rfl hi8 dX7_alone_41 (fun H locs hP hD hS => ?_)
      have hP : va_P D vwCl [oX7 q v_size v_at v_begin v_token v_told r5.2 v_changed v_felt v_wents v_wish v_trace, rA (q 8) cI 64 v_town, rA (q 9) cI 4 (upd v_now (0 : Int32).toNatClampNeg r7), rA (q 10) cI 40 r5.1] H := hP
      have hD : va_D A [oX7 q v_size v_at v_begin v_token v_told r5.2 v_changed v_felt v_wents v_wish v_trace, rA (q 8) cI 64 v_town, rA (q 9) cI 4 (upd v_now (0 : Int32).toNatClampNeg r7), rA (q 10) cI 40 r5.1] := hD
      refine lv_aload_n hx hb dX7_alone_42 rfl (lv_at hl 0 rfl) ?_
      refine va_get (C := RX7) (T := TX7) (N := 34) (v := .ref (q 9)) hx hb hts iw7 hown hK hP 0 rfl rfl 8 (Nat.le_of_ble_eq_true rfl) lk19 (fun _ h9 => h9) rfl dX7_alone_43 ?_
      refine lv_iconst (v := 1) hx hb dX7_alone_46 (by decide) ?_
      refine lv_dup2_11 hx hb dX7_alone_47 rfl rfl ?_
      obtain ⟨hi9, h⟩ := xb_some h
      refine va_iald hx hb hK hP 2 0 rfl rfl hi9 dX7_alone_48 ?_
      refine lv_aload_n hx hb dX7_alone_49 rfl (lv_at hl 0 rfl) ?_
      refine lv_iload_n hx hb dX7_alone_50 rfl (lv_at hl 1 rfl) ?_
      obtain ⟨r10, hr10, h⟩ := xk_some h
      refine vx_VJ (As := [.int x1]) (rest := [.int ((upd v_now (0 : Int32).toNatClampNeg r7) (1 : Int32).toNatClampNeg), .int (1 : Int32), .ref (q 9)]) hFx (k_X7_length l D cI cZ cT q H.size v_size v_at v_begin v_token v_told r5.2 v_changed v_felt v_wents v_wish v_trace v_town x1 r10 hr10) (cwV 1 hts gX7_alone_X7_length rfl rfl rfl (by decide +kernel) ⟨Nat.le_of_ble_eq_true rfl, Nat.le_of_ble_eq_true rfl⟩) hK hP hD hS hA [0, 1] rfl rfl 7 0 rfl rfl rfl hl.1 rfl (Nat.le_of_ble_eq_true rfl) dX7_alone_51 ⟨Nat.zero_le _, Nat.zero_le _⟩ (fun H locs hP hS => ?_)
      refine lv_iadd hx hb dX7_alone_54 ?_
      obtain ⟨hi11, h⟩ := xb_some h
      refine va_iast hx hb hK hP hD hS 2 0 rfl rfl hi11 dX7_alone_55 (fun H locs hP hD hS => ?_)
      have hP : va_P D vwCl [oX7 q v_size v_at v_begin v_token v_told r5.2 v_changed v_felt v_wents v_wish v_trace, rA (q 8) cI 64 v_town, rA (q 9) cI 4 (upd (upd v_now (0 : Int32).toNatClampNeg r7) (1 : Int32).toNatClampNeg (((upd v_now (0 : Int32).toNatClampNeg r7) (1 : Int32).toNatClampNeg) + r10)), rA (q 10) cI 40 r5.1] H := hP
      have hD : va_D A [oX7 q v_size v_at v_begin v_token v_told r5.2 v_changed v_felt v_wents v_wish v_trace, rA (q 8) cI 64 v_town, rA (q 9) cI 4 (upd (upd v_now (0 : Int32).toNatClampNeg r7) (1 : Int32).toNatClampNeg (((upd v_now (0 : Int32).toNatClampNeg r7) (1 : Int32).toNatClampNeg) + r10)), rA (q 10) cI 40 r5.1] := hD
      refine lv_aload_n hx hb dX7_alone_56 rfl (lv_at hl 0 rfl) ?_
      refine va_get (C := RX7) (T := TX7) (N := 34) (v := .ref (q 9)) hx hb hts iw7 hown hK hP 0 rfl rfl 8 (Nat.le_of_ble_eq_true rfl) lk19 (fun _ h9 => h9) rfl dX7_alone_57 ?_
      refine lv_iconst (v := 0) hx hb dX7_alone_60 (by decide) ?_
      obtain ⟨hi12, h⟩ := xb_some h
      refine va_iald hx hb hK hP 2 0 rfl rfl hi12 dX7_alone_61 ?_
      exact hret ((upd (upd v_now (0 : Int32).toNatClampNeg r7) (1 : Int32).toNatClampNeg (((upd v_now (0 : Int32).toNatClampNeg r7) (1 : Int32).toNatClampNeg) + r10)) (0 : Int32).toNatClampNeg) ((upd (upd v_now (0 : Int32).toNatClampNeg r7) (1 : Int32).toNatClampNeg (((upd v_now (0 : Int32).toNatClampNeg r7) (1 : Int32).toNatClampNeg) + r10), r5.1, r5.2)) H locs _ ls (Option.some.inj h) hP hD hS dX7_alone_62
    · have h := (if_pos c4).symm.trans h
      refine lv_bipush (v := (-2)) hx hb dX7_alone_18 (by decide) ?_
      exact hret (-2 : Int32) (v_now, v_undone, v_undos) H locs _ ls (Option.some.inj h) hP hD hS dX7_alone_20
  · have h := (if_pos c2).symm.trans h
    refine lv_iconst (v := (-1)) hx hb dX7_alone_8 (by decide) ?_
    exact hret (-1 : Int32) (v_now, v_undone, v_undos) H locs _ ls (Option.some.inj h) hP hD hS dX7_alone_9
