abbrev rm_X7_readGuide : Room := { frames := 6, cells := 0, slots := 0, locals := 130 }
set_option maxHeartbeats 4000000 in
set_option maxRecDepth 100000 in
theorem k_X7_readGuide (l : Launch) (D : va_G) (cI cZ cT : ClassId) (q : Nat → Nat) (sz : Nat) (v_size : Int32) (v_at : Int32) (v_begin : Int32) (v_token : Int32) (v_told : Int32) (v_undos : Int32) (v_changed : Int32) (v_felt : Int32) (v_wents : Int32) (v_wish : Int32) (v_trace : Int64) (v_text : Nat → Int32) (v_read : Nat → Int32) (res : R_X7_readGuide) (fu : Nat) (hf : f_X7_readGuide fu v_text v_size v_at v_begin v_token v_told v_read = some res) : Met l yX7_readGuide wsX7_readGuide rm_X7_readGuide (cPre D (tyz cI cZ cT) [.ref (q 0)] sz [oX7 q v_size v_at v_begin v_token v_told v_undos v_changed v_felt v_wents v_wish v_trace, rA (q 1) cI 200 v_text, rA (q 7) cI 64 v_read]) (cPi D (tyz cI cZ cT) (fun (r : Int32) (u : Int32 × Int32 × Int32 × Int32 × (Nat → Int32)) => (r, u) = res) (fun u => [oX7 q v_size u.1 u.2.1 u.2.2.1 u.2.2.2.1 v_undos v_changed v_felt v_wents v_wish v_trace, rA (q 1) cI 200 v_text, rA (q 7) cI 64 u.2.2.2.2]) [oX7 q v_size v_at v_begin v_token v_told v_undos v_changed v_felt v_wents v_wish v_trace, rA (q 1) cI 200 v_text, rA (q 7) cI 64 v_read] sz) 0 0 (va_A [oX7 q v_size v_at v_begin v_token v_told v_undos v_changed v_felt v_wents v_wish v_trace, rA (q 1) cI 200 v_text, rA (q 7) cI 64 v_read] sz) := by
  refine vx_meth_z (by decide) rfl (Nat.le_of_ble_eq_true rfl) ?_
  intro p e s m args below meth c A Q hx hb hml hown hts hK hP hD hA hS hret ls hl
  have hown : s.vm.findClass RX7 = some m.cls := hown
  have hl : lv_has ls 2 [(0, .ref (q 0))] := hl
  have hFx : CallFix p m c cX7_readGuide 2 s args wsX7_readGuide RX7 := ⟨hx, hb, hml, hown, hts⟩
  have lk13 := hts (.fieldLink RX7 13 "FogGuidesModel" "read" "[I") (by decide +kernel)
  have iw7 : ∀ w ∈ u_ws RX7 TX7 34, w ∈ wsX7_readGuide := by decide +kernel
  have lk106 := hts (.fieldLink RX7 106 "FogGuidesModel" "told" "I") (by decide +kernel)
  have h := hf
  unfold f_X7_readGuide at h
  obtain ⟨H, eH⟩ : ∃ H, H = s.heap := ⟨_, rfl⟩
  rw [← eH] at hP ⊢
  obtain ⟨locs, el⟩ : ∃ locs : List Loc, locs = [] := ⟨_, rfl⟩
  rw [← el] at hS ⊢
  have hS : va_S A s.heap H locs := by rw [eH]; exact hS
  refine lv_bipush (v := 40) hx hb dX7_readGuide_0 (by decide) ?_
  refine lv_iconst (v := 4) hx hb dX7_readGuide_2 (by decide) ?_
  refine lv_aload_n hx hb dX7_readGuide_3 rfl (lv_at hl 0 rfl) ?_
  refine va_get (C := RX7) (T := TX7) (N := 34) (v := .ref (q 7)) hx hb hts iw7 hown hK hP 0 rfl rfl 6 (Nat.le_of_ble_eq_true rfl) lk13 (fun _ h9 => h9) rfl dX7_readGuide_4 ?_
  refine lv_iconst (v := 2) hx hb dX7_readGuide_7 (by decide) ?_
  obtain ⟨hi1, h⟩ := xb_some h
  refine va_iald hx hb hK hP 2 0 rfl rfl hi1 dX7_readGuide_8 ?_
  refine lv_imul hx hb dX7_readGuide_9 ?_
  refine lv_iadd hx hb dX7_readGuide_10 ?_
  refine lv_istore_n (lv' := [(1, .int ((40 : Int32) + ((4 : Int32) * (v_read (2 : Int32).toNatClampNeg)))), (0, .ref (q 0))]) hx hb dX7_readGuide_11 rfl hl (by decide) rfl (fun ls hl => ?_)
  refine lv_aload_n hx hb dX7_readGuide_12 rfl (lv_at hl 1 rfl) ?_
  refine va_get (C := RX7) (T := TX7) (N := 34) (v := .ref (q 7)) hx hb hts iw7 hown hK hP 0 rfl rfl 6 (Nat.le_of_ble_eq_true rfl) lk13 (fun _ h9 => h9) rfl dX7_readGuide_13 ?_
  refine lv_iconst (v := 2) hx hb dX7_readGuide_16 (by decide) ?_
  obtain ⟨hi2, h⟩ := xb_some h
  refine va_iald hx hb hK hP 2 0 rfl rfl hi2 dX7_readGuide_17 ?_
  refine lv_iconst (v := 4) hx hb dX7_readGuide_18 (by decide) ?_
  refine lv_icmp_eq (tgt := 31) hx hb dX7_readGuide_19 (by decide) (fun c3 => ?_) (fun c3 => ?_)
  · have h := (if_pos c3).symm.trans h
    refine lv_iconst (v := 0) hx hb dX7_readGuide_31 (by decide) ?_
    exact hret (0 : Int32) (v_at, v_begin, v_token, v_told, v_read) H locs _ ls (Or.inl rfl) (Option.some.inj h) hP hD hS dX7_readGuide_32
  · have h := (if_neg c3).symm.trans h
    refine lv_aload_n hx hb dX7_readGuide_22 rfl (lv_at hl 1 rfl) ?_
    refine lv_iconst (v := 0) hx hb dX7_readGuide_23 (by decide) ?_
    refine lv_iconst (v := 5) hx hb dX7_readGuide_24 (by decide) ?_
    obtain ⟨r4, hr4, h⟩ := xk_some h
    refine vx_VI (As := [.int (0 : Int32), .int (5 : Int32)]) (rest := []) (wr := [rA (q 7) cI 64 v_read]) (wn := [oX7 q v_size r4.2.1 r4.2.2.1 r4.2.2.2.1 r4.2.2.2.2 v_undos v_changed v_felt v_wents v_wish v_trace, rA (q 1) cI 200 v_text, rA (q 7) cI 64 v_read]) hFx (k_X7_number l D cI cZ cT q H.size v_size v_at v_begin v_token v_told v_undos v_changed v_felt v_wents v_wish v_trace v_text (0 : Int32) (5 : Int32) r4 fu hr4) (cwV 2 hts gX7_readGuide_X7_number rfl rfl rfl (by decide +kernel) ⟨Nat.le_of_ble_eq_true rfl, Nat.le_of_ble_eq_true rfl⟩) hK hP hD hS hA [0, 1] [2] [1, 2, 0] rfl rfl rfl rfl (by decide) rfl rfl 7 0 rfl rfl rfl hl.1 rfl (Nat.le_of_ble_eq_true rfl) dX7_readGuide_25 ⟨Nat.zero_le _, Nat.zero_le _⟩ (fun H locs hP hD hS => ?_)
    refine lv_if_ne (tgt := 33) hx hb dX7_readGuide_28 (by decide) (fun c5 => ?_) (fun c5 => ?_)
    · have h := (if_neg c5).symm.trans h
      refine lv_aload_n hx hb dX7_readGuide_33 rfl (lv_at hl 1 rfl) ?_
      refine va_get (C := RX7) (T := TX7) (N := 34) (v := .ref (q 7)) hx hb hts iw7 hown hK hP 0 rfl rfl 6 (Nat.le_of_ble_eq_true rfl) lk13 (fun _ h9 => h9) rfl dX7_readGuide_34 ?_
      refine lv_iload_n hx hb dX7_readGuide_37 rfl (lv_at hl 0 rfl) ?_
      refine lv_aload_n hx hb dX7_readGuide_38 rfl (lv_at hl 1 rfl) ?_
      refine va_get (C := RX7) (T := TX7) (N := 34) (v := .int r4.2.2.2.2) hx hb hts iw7 hown hK hP 0 rfl rfl 5 (Nat.le_of_ble_eq_true rfl) lk106 (fun _ h9 => h9) rfl dX7_readGuide_39 ?_
      obtain ⟨hi6, h⟩ := xb_some h
      refine va_iast hx hb hK hP hD hS 2 0 rfl rfl hi6 dX7_readGuide_42 (fun H locs hP hD hS => ?_)
      have hP : va_P D vwCl [oX7 q v_size r4.2.1 r4.2.2.1 r4.2.2.2.1 r4.2.2.2.2 v_undos v_changed v_felt v_wents v_wish v_trace, rA (q 1) cI 200 v_text, rA (q 7) cI 64 (upd v_read ((40 : Int32) + ((4 : Int32) * (v_read (2 : Int32).toNatClampNeg))).toNatClampNeg r4.2.2.2.2)] H := hP
      have hD : va_D A [oX7 q v_size r4.2.1 r4.2.2.1 r4.2.2.2.1 r4.2.2.2.2 v_undos v_changed v_felt v_wents v_wish v_trace, rA (q 1) cI 200 v_text, rA (q 7) cI 64 (upd v_read ((40 : Int32) + ((4 : Int32) * (v_read (2 : Int32).toNatClampNeg))).toNatClampNeg r4.2.2.2.2)] := hD
      refine lv_aload_n hx hb dX7_readGuide_43 rfl (lv_at hl 1 rfl) ?_
      refine lv_iconst (v := 0) hx hb dX7_readGuide_44 (by decide) ?_
      refine lv_bipush (v := 9) hx hb dX7_readGuide_45 (by decide) ?_
      obtain ⟨r7, hr7, h⟩ := xk_some h
      refine vx_VI (As := [.int (0 : Int32), .int (9 : Int32)]) (rest := []) (wr := [rA (q 7) cI 64 (upd v_read ((40 : Int32) + ((4 : Int32) * (v_read (2 : Int32).toNatClampNeg))).toNatClampNeg r4.2.2.2.2)]) (wn := [oX7 q v_size r7.2.1 r7.2.2.1 r7.2.2.2.1 r7.2.2.2.2 v_undos v_changed v_felt v_wents v_wish v_trace, rA (q 1) cI 200 v_text, rA (q 7) cI 64 (upd v_read ((40 : Int32) + ((4 : Int32) * (v_read (2 : Int32).toNatClampNeg))).toNatClampNeg r4.2.2.2.2)]) hFx (k_X7_number l D cI cZ cT q H.size v_size r4.2.1 r4.2.2.1 r4.2.2.2.1 r4.2.2.2.2 v_undos v_changed v_felt v_wents v_wish v_trace v_text (0 : Int32) (9 : Int32) r7 fu hr7) (cwV 2 hts gX7_readGuide_X7_number rfl rfl rfl (by decide +kernel) ⟨Nat.le_of_ble_eq_true rfl, Nat.le_of_ble_eq_true rfl⟩) hK hP hD hS hA [0, 1] [2] [1, 2, 0] rfl rfl rfl rfl (by decide) rfl rfl 7 0 rfl rfl rfl hl.1 rfl (Nat.le_of_ble_eq_true rfl) dX7_readGuide_47 ⟨Nat.zero_le _, Nat.zero_le _⟩ (fun H locs hP hD hS => ?_)
      refine lv_if_ne (tgt := 55) hx hb dX7_readGuide_50 (by decide) (fun c8 => ?_) (fun c8 => ?_)
      · have h := (if_neg c8).symm.trans h
        refine lv_aload_n hx hb dX7_readGuide_55 rfl (lv_at hl 1 rfl) ?_
        refine va_get (C := RX7) (T := TX7) (N := 34) (v := .ref (q 7)) hx hb hts iw7 hown hK hP 0 rfl rfl 6 (Nat.le_of_ble_eq_true rfl) lk13 (fun _ h9 => h9) rfl dX7_readGuide_56 ?_
        refine lv_iload_n hx hb dX7_readGuide_59 rfl (lv_at hl 0 rfl) ?_
        refine lv_iconst (v := 1) hx hb dX7_readGuide_60 (by decide) ?_
        refine lv_iadd hx hb dX7_readGuide_61 ?_
        refine lv_aload_n hx hb dX7_readGuide_62 rfl (lv_at hl 1 rfl) ?_
        refine va_get (C := RX7) (T := TX7) (N := 34) (v := .int r7.2.2.2.2) hx hb hts iw7 hown hK hP 0 rfl rfl 5 (Nat.le_of_ble_eq_true rfl) lk106 (fun _ h9 => h9) rfl dX7_readGuide_63 ?_
        obtain ⟨hi9, h⟩ := xb_some h
        refine va_iast hx hb hK hP hD hS 2 0 rfl rfl hi9 dX7_readGuide_66 (fun H locs hP hD hS => ?_)
        have hP : va_P D vwCl [oX7 q v_size r7.2.1 r7.2.2.1 r7.2.2.2.1 r7.2.2.2.2 v_undos v_changed v_felt v_wents v_wish v_trace, rA (q 1) cI 200 v_text, rA (q 7) cI 64 (upd (upd v_read ((40 : Int32) + ((4 : Int32) * (v_read (2 : Int32).toNatClampNeg))).toNatClampNeg r4.2.2.2.2) (((40 : Int32) + ((4 : Int32) * (v_read (2 : Int32).toNatClampNeg))) + (1 : Int32)).toNatClampNeg r7.2.2.2.2)] H := hP
        have hD : va_D A [oX7 q v_size r7.2.1 r7.2.2.1 r7.2.2.2.1 r7.2.2.2.2 v_undos v_changed v_felt v_wents v_wish v_trace, rA (q 1) cI 200 v_text, rA (q 7) cI 64 (upd (upd v_read ((40 : Int32) + ((4 : Int32) * (v_read (2 : Int32).toNatClampNeg))).toNatClampNeg r4.2.2.2.2) (((40 : Int32) + ((4 : Int32) * (v_read (2 : Int32).toNatClampNeg))) + (1 : Int32)).toNatClampNeg r7.2.2.2.2)] := hD
        refine lv_aload_n hx hb dX7_readGuide_67 rfl (lv_at hl 1 rfl) ?_
        refine lv_iload_n hx hb dX7_readGuide_68 rfl (lv_at hl 0 rfl) ?_
        refine lv_iconst (v := 2) hx hb dX7_readGuide_69 (by decide) ?_
        refine lv_iadd hx hb dX7_readGuide_70 ?_
        refine lv_bipush (v := 15) hx hb dX7_readGuide_71 (by decide) ?_
        obtain ⟨r10, hr10, h⟩ := xk_some h
        refine vx_VI (As := [.int (((40 : Int32) + ((4 : Int32) * (v_read (2 : Int32).toNatClampNeg))) + (2 : Int32)), .int (15 : Int32)]) (rest := []) (wr := []) (wn := [oX7 q v_size r10.2.1 r10.2.2.1 r10.2.2.2.1 r10.2.2.2.2.1 v_undos v_changed v_felt v_wents v_wish v_trace, rA (q 1) cI 200 v_text, rA (q 7) cI 64 r10.2.2.2.2.2]) hFx (k_X7_bits l D cI cZ cT q H.size v_size r7.2.1 r7.2.2.1 r7.2.2.2.1 r7.2.2.2.2 v_undos v_changed v_felt v_wents v_wish v_trace v_text (upd (upd v_read ((40 : Int32) + ((4 : Int32) * (v_read (2 : Int32).toNatClampNeg))).toNatClampNeg r4.2.2.2.2) (((40 : Int32) + ((4 : Int32) * (v_read (2 : Int32).toNatClampNeg))) + (1 : Int32)).toNatClampNeg r7.2.2.2.2) (((40 : Int32) + ((4 : Int32) * (v_read (2 : Int32).toNatClampNeg))) + (2 : Int32)) (15 : Int32) r10 fu hr10) (cwV 2 hts gX7_readGuide_X7_bits rfl rfl rfl (by decide +kernel) ⟨Nat.le_of_ble_eq_true rfl, Nat.le_of_ble_eq_true rfl⟩) hK hP hD hS hA [0, 1, 2] [] [0, 1, 2] rfl rfl rfl rfl (by decide) rfl rfl 7 0 rfl rfl rfl hl.1 rfl (Nat.le_of_ble_eq_true rfl) dX7_readGuide_73 ⟨Nat.zero_le _, Nat.zero_le _⟩ (fun H locs hP hD hS => ?_)
        refine lv_if_eq (tgt := 90) hx hb dX7_readGuide_76 (by decide) (fun c11 => ?_) (fun c11 => ?_)
        · have h := (if_pos c11).symm.trans h
          refine lv_iconst (v := 0) hx hb dX7_readGuide_90 (by decide) ?_
          exact hret (0 : Int32) (r10.2.1, r10.2.2.1, r10.2.2.2.1, r10.2.2.2.2.1, r10.2.2.2.2.2) H locs _ ls (Or.inl rfl) (Option.some.inj h) hP hD hS dX7_readGuide_91
        · have h := (if_neg c11).symm.trans h
          refine lv_aload_n hx hb dX7_readGuide_79 rfl (lv_at hl 1 rfl) ?_
          refine lv_iload_n hx hb dX7_readGuide_80 rfl (lv_at hl 0 rfl) ?_
          refine lv_iconst (v := 3) hx hb dX7_readGuide_81 (by decide) ?_
          refine lv_iadd hx hb dX7_readGuide_82 ?_
          refine lv_iconst (v := 3) hx hb dX7_readGuide_83 (by decide) ?_
          obtain ⟨r12, hr12, h⟩ := xk_some h
          refine vx_VI (As := [.int (((40 : Int32) + ((4 : Int32) * (v_read (2 : Int32).toNatClampNeg))) + (3 : Int32)), .int (3 : Int32)]) (rest := []) (wr := []) (wn := [oX7 q v_size r12.2.1 r12.2.2.1 r12.2.2.2.1 r12.2.2.2.2.1 v_undos v_changed v_felt v_wents v_wish v_trace, rA (q 1) cI 200 v_text, rA (q 7) cI 64 r12.2.2.2.2.2]) hFx (k_X7_bits l D cI cZ cT q H.size v_size r10.2.1 r10.2.2.1 r10.2.2.2.1 r10.2.2.2.2.1 v_undos v_changed v_felt v_wents v_wish v_trace v_text r10.2.2.2.2.2 (((40 : Int32) + ((4 : Int32) * (v_read (2 : Int32).toNatClampNeg))) + (3 : Int32)) (3 : Int32) r12 fu hr12) (cwV 2 hts gX7_readGuide_X7_bits rfl rfl rfl (by decide +kernel) ⟨Nat.le_of_ble_eq_true rfl, Nat.le_of_ble_eq_true rfl⟩) hK hP hD hS hA [0, 1, 2] [] [0, 1, 2] rfl rfl rfl rfl (by decide) rfl rfl 7 0 rfl rfl rfl hl.1 rfl (Nat.le_of_ble_eq_true rfl) dX7_readGuide_84 ⟨Nat.zero_le _, Nat.zero_le _⟩ (fun H locs hP hD hS => ?_)
          refine lv_if_ne (tgt := 92) hx hb dX7_readGuide_87 (by decide) (fun c13 => ?_) (fun c13 => ?_)
          · have h := (if_neg c13).symm.trans h
            refine lv_aload_n hx hb dX7_readGuide_92 rfl (lv_at hl 1 rfl) ?_
            refine va_get (C := RX7) (T := TX7) (N := 34) (v := .ref (q 7)) hx hb hts iw7 hown hK hP 0 rfl rfl 6 (Nat.le_of_ble_eq_true rfl) lk13 (fun _ h9 => h9) rfl dX7_readGuide_93 ?_
            refine lv_iconst (v := 2) hx hb dX7_readGuide_96 (by decide) ?_
            refine lv_dup2_11 hx hb dX7_readGuide_97 rfl rfl ?_
            obtain ⟨hi14, h⟩ := xb_some h
            refine va_iald hx hb hK hP 2 0 rfl rfl hi14 dX7_readGuide_98 ?_
            refine lv_iconst (v := 1) hx hb dX7_readGuide_99 (by decide) ?_
            refine lv_iadd hx hb dX7_readGuide_100 ?_
            obtain ⟨hi15, h⟩ := xb_some h
            refine va_iast hx hb hK hP hD hS 2 0 rfl rfl hi15 dX7_readGuide_101 (fun H locs hP hD hS => ?_)
            have hP : va_P D vwCl [oX7 q v_size r12.2.1 r12.2.2.1 r12.2.2.2.1 r12.2.2.2.2.1 v_undos v_changed v_felt v_wents v_wish v_trace, rA (q 1) cI 200 v_text, rA (q 7) cI 64 (upd r12.2.2.2.2.2 (2 : Int32).toNatClampNeg ((r12.2.2.2.2.2 (2 : Int32).toNatClampNeg) + (1 : Int32)))] H := hP
            have hD : va_D A [oX7 q v_size r12.2.1 r12.2.2.1 r12.2.2.2.1 r12.2.2.2.2.1 v_undos v_changed v_felt v_wents v_wish v_trace, rA (q 1) cI 200 v_text, rA (q 7) cI 64 (upd r12.2.2.2.2.2 (2 : Int32).toNatClampNeg ((r12.2.2.2.2.2 (2 : Int32).toNatClampNeg) + (1 : Int32)))] := hD
            refine lv_aload_n hx hb dX7_readGuide_102 rfl (lv_at hl 1 rfl) ?_
            obtain ⟨r16, hr16, h⟩ := xk_some h
            refine vx_VI (As := []) (rest := []) (wr := [rA (q 7) cI 64 (upd r12.2.2.2.2.2 (2 : Int32).toNatClampNeg ((r12.2.2.2.2.2 (2 : Int32).toNatClampNeg) + (1 : Int32)))]) (wn := [oX7 q v_size r16.2.1 r16.2.2.1 r16.2.2.2.1 r16.2.2.2.2 v_undos v_changed v_felt v_wents v_wish v_trace, rA (q 1) cI 200 v_text, rA (q 7) cI 64 (upd r12.2.2.2.2.2 (2 : Int32).toNatClampNeg ((r12.2.2.2.2.2 (2 : Int32).toNatClampNeg) + (1 : Int32)))]) hFx (k_X7_ends l D cI cZ cT q H.size v_size r12.2.1 r12.2.2.1 r12.2.2.2.1 r12.2.2.2.2.1 v_undos v_changed v_felt v_wents v_wish v_trace v_text r16 fu hr16) (cwV 0 hts gX7_readGuide_X7_ends rfl rfl rfl (by decide +kernel) ⟨Nat.le_of_ble_eq_true rfl, Nat.le_of_ble_eq_true rfl⟩) hK hP hD hS hA [0, 1] [2] [1, 2, 0] rfl rfl rfl rfl (by decide) rfl rfl 7 0 rfl rfl rfl hl.1 rfl (Nat.le_of_ble_eq_true rfl) dX7_readGuide_103 ⟨Nat.zero_le _, Nat.zero_le _⟩ (fun H locs hP hD hS => ?_)
            obtain ⟨hz17, h⟩ := xz_some h
            exact hret r16.1 ((r16.2.1, r16.2.2.1, r16.2.2.2.1, r16.2.2.2.2, upd r12.2.2.2.2.2 (2 : Int32).toNatClampNeg ((r12.2.2.2.2.2 (2 : Int32).toNatClampNeg) + (1 : Int32)))) H locs _ ls hz17 (Option.some.inj h) hP hD hS dX7_readGuide_106
          · have h := (if_pos c13).symm.trans h
            refine lv_iconst (v := 0) hx hb dX7_readGuide_90 (by decide) ?_
            exact hret (0 : Int32) (r12.2.1, r12.2.2.1, r12.2.2.2.1, r12.2.2.2.2.1, r12.2.2.2.2.2) H locs _ ls (Or.inl rfl) (Option.some.inj h) hP hD hS dX7_readGuide_91
      · have h := (if_pos c8).symm.trans h
        refine lv_iconst (v := 0) hx hb dX7_readGuide_53 (by decide) ?_
        exact hret (0 : Int32) ((r7.2.1, r7.2.2.1, r7.2.2.2.1, r7.2.2.2.2, upd v_read ((40 : Int32) + ((4 : Int32) * (v_read (2 : Int32).toNatClampNeg))).toNatClampNeg r4.2.2.2.2)) H locs _ ls (Or.inl rfl) (Option.some.inj h) hP hD hS dX7_readGuide_54
    · have h := (if_pos c5).symm.trans h
      refine lv_iconst (v := 0) hx hb dX7_readGuide_31 (by decide) ?_
      exact hret (0 : Int32) (r4.2.1, r4.2.2.1, r4.2.2.2.1, r4.2.2.2.2, v_read) H locs _ ls (Or.inl rfl) (Option.some.inj h) hP hD hS dX7_readGuide_32
abbrev rm_X7_readFog : Room := { frames := 5, cells := 0, slots := 0, locals := 108 }
set_option maxHeartbeats 4000000 in
set_option maxRecDepth 100000 in
theorem k_X7_readFog (l : Launch) (D : va_G) (cI cZ cT : ClassId) (q : Nat → Nat) (sz : Nat) (v_size : Int32) (v_at : Int32) (v_begin : Int32) (v_token : Int32) (v_told : Int32) (v_undos : Int32) (v_changed : Int32) (v_felt : Int32) (v_wents : Int32) (v_wish : Int32) (v_trace : Int64) (v_text : Nat → Int32) (v_read : Nat → Int32) (res : R_X7_readFog) (fu : Nat) (hf : f_X7_readFog fu v_text v_size v_at v_begin v_token v_told v_read = some res) : Met l yX7_readFog wsX7_readFog rm_X7_readFog (cPre D (tyz cI cZ cT) [.ref (q 0)] sz [oX7 q v_size v_at v_begin v_token v_told v_undos v_changed v_felt v_wents v_wish v_trace, rA (q 1) cI 200 v_text, rA (q 7) cI 64 v_read]) (cPi D (tyz cI cZ cT) (fun (r : Int32) (u : Int32 × Int32 × Int32 × Int32 × (Nat → Int32)) => (r, u) = res) (fun u => [oX7 q v_size u.1 u.2.1 u.2.2.1 u.2.2.2.1 v_undos v_changed v_felt v_wents v_wish v_trace, rA (q 1) cI 200 v_text, rA (q 7) cI 64 u.2.2.2.2]) [oX7 q v_size v_at v_begin v_token v_told v_undos v_changed v_felt v_wents v_wish v_trace, rA (q 1) cI 200 v_text, rA (q 7) cI 64 v_read] sz) 0 0 (va_A [oX7 q v_size v_at v_begin v_token v_told v_undos v_changed v_felt v_wents v_wish v_trace, rA (q 1) cI 200 v_text, rA (q 7) cI 64 v_read] sz) := by
  refine vx_meth_z (by decide) rfl (Nat.le_of_ble_eq_true rfl) ?_
  intro p e s m args below meth c A Q hx hb hml hown hts hK hP hD hA hS hret ls hl
  have hown : s.vm.findClass RX7 = some m.cls := hown
  have hl : lv_has ls 1 [(0, .ref (q 0))] := hl
  have hFx : CallFix p m c cX7_readFog 1 s args wsX7_readFog RX7 := ⟨hx, hb, hml, hown, hts⟩
  have lk116 := hts (.fieldLink RX7 116 "FogGuidesModel" "token" "I") (by decide +kernel)
  have iw7 : ∀ w ∈ u_ws RX7 TX7 34, w ∈ wsX7_readFog := by decide +kernel
  have lk13 := hts (.fieldLink RX7 13 "FogGuidesModel" "read" "[I") (by decide +kernel)
  have lk106 := hts (.fieldLink RX7 106 "FogGuidesModel" "told" "I") (by decide +kernel)
  have hL20 : ∀ (n20 : Nat), ∀ (v_at : Int32) (v_begin : Int32) (v_token : Int32) (v_told : Int32) (v_read : (Nat → Int32)) (H : Heap) (locs : List Loc) (ls : Array Slot), f_X7_readFog_L20 fu n20 v_text v_size v_at v_begin v_token v_told v_read = some res → va_P D vwCl [oX7 q v_size v_at v_begin v_token v_told v_undos v_changed v_felt v_wents v_wish v_trace, rA (q 1) cI 200 v_text, rA (q 7) cI 64 v_read] H → va_D A [oX7 q v_size v_at v_begin v_token v_told v_undos v_changed v_felt v_wents v_wish v_trace, rA (q 1) cI 200 v_text, rA (q 7) cI 64 v_read] → va_S A s.heap H locs → lv_has ls 1 [(0, .ref (q 0))] → W p l e rm_X7_readFog s m args below meth c H locs 0 0 Q (F0 m 20 ls []) := by
    intro n20
    induction n20 with
    | zero =>
      intro v_at v_begin v_token v_told v_read H locs ls h hP hD hS hl
      cases (show (none : Option R_X7_readFog) = some res from h)
    | succ n20 ih20 =>
      intro v_at v_begin v_token v_told v_read H locs ls h hP hD hS hl
      have h : f_X7_readFog_L20b fu (f_X7_readFog_L20 fu n20) v_text v_size v_at v_begin v_token v_told v_read = some res := h
      unfold f_X7_readFog_L20b at h
      refine lv_aload_n hx hb dX7_readFog_20 rfl (lv_at hl 0 rfl) ?_
      refine va_get (C := RX7) (T := TX7) (N := 34) (v := .int v_token) hx hb hts iw7 hown hK hP 0 rfl rfl 4 (Nat.le_of_ble_eq_true rfl) lk116 (fun _ h9 => h9) rfl dX7_readFog_21 ?_
      refine lv_iconst (v := 2) hx hb dX7_readFog_24 (by decide) ?_
      refine lv_icmp_ne (tgt := 84) hx hb dX7_readFog_25 (by decide) (fun c1 => ?_) (fun c1 => ?_)
      · have h := (if_neg c1).symm.trans h
        refine lv_aload_n hx hb dX7_readFog_84 rfl (lv_at hl 0 rfl) ?_
        refine va_get (C := RX7) (T := TX7) (N := 34) (v := .int v_token) hx hb hts iw7 hown hK hP 0 rfl rfl 4 (Nat.le_of_ble_eq_true rfl) lk116 (fun _ h9 => h9) rfl dX7_readFog_85 ?_
        refine lv_iconst (v := 3) hx hb dX7_readFog_88 (by decide) ?_
        refine lv_icmp_ne (tgt := 96) hx hb dX7_readFog_89 (by decide) (fun c2 => ?_) (fun c2 => ?_)
        · have h := (if_neg c2).symm.trans h
          refine lv_iconst (v := 0) hx hb dX7_readFog_96 (by decide) ?_
          exact hret (0 : Int32) (v_at, v_begin, v_token, v_told, v_read) H locs _ ls (Or.inl rfl) (Option.some.inj h) hP hD hS dX7_readFog_97
        · have h := (if_pos c2).symm.trans h
          refine lv_iconst (v := 1) hx hb dX7_readFog_92 (by decide) ?_
          refine lv_goto (tgt := 97) hx hb dX7_readFog_93 (by decide) ?_
          exact hret (1 : Int32) (v_at, v_begin, v_token, v_told, v_read) H locs _ ls (Or.inr rfl) (Option.some.inj h) hP hD hS dX7_readFog_97
      · have h := (if_pos c1).symm.trans h
        refine lv_aload_n hx hb dX7_readFog_28 rfl (lv_at hl 0 rfl) ?_
        refine va_get (C := RX7) (T := TX7) (N := 34) (v := .ref (q 7)) hx hb hts iw7 hown hK hP 0 rfl rfl 6 (Nat.le_of_ble_eq_true rfl) lk13 (fun _ h9 => h9) rfl dX7_readFog_29 ?_
        refine lv_iconst (v := 4) hx hb dX7_readFog_32 (by decide) ?_
        obtain ⟨hi3, h⟩ := xb_some h
        refine va_iald hx hb hK hP 2 0 rfl rfl hi3 dX7_readFog_33 ?_
        refine lv_bipush (v := 8) hx hb dX7_readFog_34 (by decide) ?_
        refine lv_icmp_eq (tgt := 47) hx hb dX7_readFog_36 (by decide) (fun c4 => ?_) (fun c4 => ?_)
        · have h := (if_pos c4).symm.trans h
          refine lv_iconst (v := 0) hx hb dX7_readFog_47 (by decide) ?_
          exact hret (0 : Int32) (v_at, v_begin, v_token, v_told, v_read) H locs _ ls (Or.inl rfl) (Option.some.inj h) hP hD hS dX7_readFog_48
        · have h := (if_neg c4).symm.trans h
          refine lv_aload_n hx hb dX7_readFog_39 rfl (lv_at hl 0 rfl) ?_
          refine va_get (C := RX7) (T := TX7) (N := 34) (v := .int v_told) hx hb hts iw7 hown hK hP 0 rfl rfl 5 (Nat.le_of_ble_eq_true rfl) lk106 (fun _ h9 => h9) rfl dX7_readFog_40 ?_
          refine lv_iconst (v := 1) hx hb dX7_readFog_43 (by decide) ?_
          refine lv_icmp_le (tgt := 49) hx hb dX7_readFog_44 (by decide) (fun c5 => ?_) (fun c5 => ?_)
          · have h := (if_pos c5).symm.trans h
            refine lv_aload_n hx hb dX7_readFog_49 rfl (lv_at hl 0 rfl) ?_
            refine va_get (C := RX7) (T := TX7) (N := 34) (v := .ref (q 7)) hx hb hts iw7 hown hK hP 0 rfl rfl 6 (Nat.le_of_ble_eq_true rfl) lk13 (fun _ h9 => h9) rfl dX7_readFog_50 ?_
            refine lv_bipush (v := 56) hx hb dX7_readFog_53 (by decide) ?_
            refine lv_aload_n hx hb dX7_readFog_55 rfl (lv_at hl 0 rfl) ?_
            refine va_get (C := RX7) (T := TX7) (N := 34) (v := .ref (q 7)) hx hb hts iw7 hown hK hP 0 rfl rfl 6 (Nat.le_of_ble_eq_true rfl) lk13 (fun _ h9 => h9) rfl dX7_readFog_56 ?_
            refine lv_iconst (v := 4) hx hb dX7_readFog_59 (by decide) ?_
            obtain ⟨hi6, h⟩ := xb_some h
            refine va_iald hx hb hK hP 2 0 rfl rfl hi6 dX7_readFog_60 ?_
            refine lv_iadd hx hb dX7_readFog_61 ?_
            refine lv_aload_n hx hb dX7_readFog_62 rfl (lv_at hl 0 rfl) ?_
            refine va_get (C := RX7) (T := TX7) (N := 34) (v := .int v_told) hx hb hts iw7 hown hK hP 0 rfl rfl 5 (Nat.le_of_ble_eq_true rfl) lk106 (fun _ h9 => h9) rfl dX7_readFog_63 ?_
            obtain ⟨hi7, h⟩ := xb_some h
            refine va_iast hx hb hK hP hD hS 2 0 rfl rfl hi7 dX7_readFog_66 (fun H locs hP hD hS => ?_)
            have hP : va_P D vwCl [oX7 q v_size v_at v_begin v_token v_told v_undos v_changed v_felt v_wents v_wish v_trace, rA (q 1) cI 200 v_text, rA (q 7) cI 64 (upd v_read ((56 : Int32) + (v_read (4 : Int32).toNatClampNeg)).toNatClampNeg v_told)] H := hP
            have hD : va_D A [oX7 q v_size v_at v_begin v_token v_told v_undos v_changed v_felt v_wents v_wish v_trace, rA (q 1) cI 200 v_text, rA (q 7) cI 64 (upd v_read ((56 : Int32) + (v_read (4 : Int32).toNatClampNeg)).toNatClampNeg v_told)] := hD
            refine lv_aload_n hx hb dX7_readFog_67 rfl (lv_at hl 0 rfl) ?_
            refine va_get (C := RX7) (T := TX7) (N := 34) (v := .ref (q 7)) hx hb hts iw7 hown hK hP 0 rfl rfl 6 (Nat.le_of_ble_eq_true rfl) lk13 (fun _ h9 => h9) rfl dX7_readFog_68 ?_
            refine lv_iconst (v := 4) hx hb dX7_readFog_71 (by decide) ?_
            refine lv_dup2_11 hx hb dX7_readFog_72 rfl rfl ?_
            obtain ⟨hi8, h⟩ := xb_some h
            refine va_iald hx hb hK hP 2 0 rfl rfl hi8 dX7_readFog_73 ?_
            refine lv_iconst (v := 1) hx hb dX7_readFog_74 (by decide) ?_
            refine lv_iadd hx hb dX7_readFog_75 ?_
            obtain ⟨hi9, h⟩ := xb_some h
            refine va_iast hx hb hK hP hD hS 2 0 rfl rfl hi9 dX7_readFog_76 (fun H locs hP hD hS => ?_)
            have hP : va_P D vwCl [oX7 q v_size v_at v_begin v_token v_told v_undos v_changed v_felt v_wents v_wish v_trace, rA (q 1) cI 200 v_text, rA (q 7) cI 64 (upd (upd v_read ((56 : Int32) + (v_read (4 : Int32).toNatClampNeg)).toNatClampNeg v_told) (4 : Int32).toNatClampNeg (((upd v_read ((56 : Int32) + (v_read (4 : Int32).toNatClampNeg)).toNatClampNeg v_told) (4 : Int32).toNatClampNeg) + (1 : Int32)))] H := hP
            have hD : va_D A [oX7 q v_size v_at v_begin v_token v_told v_undos v_changed v_felt v_wents v_wish v_trace, rA (q 1) cI 200 v_text, rA (q 7) cI 64 (upd (upd v_read ((56 : Int32) + (v_read (4 : Int32).toNatClampNeg)).toNatClampNeg v_told) (4 : Int32).toNatClampNeg (((upd v_read ((56 : Int32) + (v_read (4 : Int32).toNatClampNeg)).toNatClampNeg v_told) (4 : Int32).toNatClampNeg) + (1 : Int32)))] := hD
            refine lv_aload_n hx hb dX7_readFog_77 rfl (lv_at hl 0 rfl) ?_
            obtain ⟨r10, hr10, h⟩ := xk_some h
            refine vx_VV (As := []) (rest := []) (wr := [rA (q 7) cI 64 (upd (upd v_read ((56 : Int32) + (v_read (4 : Int32).toNatClampNeg)).toNatClampNeg v_told) (4 : Int32).toNatClampNeg (((upd v_read ((56 : Int32) + (v_read (4 : Int32).toNatClampNeg)).toNatClampNeg v_told) (4 : Int32).toNatClampNeg) + (1 : Int32)))]) (wn := [oX7 q v_size r10.1 r10.2.1 r10.2.2.1 r10.2.2.2 v_undos v_changed v_felt v_wents v_wish v_trace, rA (q 1) cI 200 v_text, rA (q 7) cI 64 (upd (upd v_read ((56 : Int32) + (v_read (4 : Int32).toNatClampNeg)).toNatClampNeg v_told) (4 : Int32).toNatClampNeg (((upd v_read ((56 : Int32) + (v_read (4 : Int32).toNatClampNeg)).toNatClampNeg v_told) (4 : Int32).toNatClampNeg) + (1 : Int32)))]) hFx (k_X7_reads l D cI cZ cT q H.size v_size v_at v_begin v_token v_told v_undos v_changed v_felt v_wents v_wish v_trace v_text r10 fu hr10) (cwV 0 hts gX7_readFog_X7_reads rfl rfl rfl (by decide +kernel) ⟨Nat.le_of_ble_eq_true rfl, Nat.le_of_ble_eq_true rfl⟩) hK hP hD hS hA [0, 1] [2] [1, 2, 0] rfl rfl rfl rfl (by decide) rfl rfl 7 0 rfl rfl rfl hl.1 rfl (Nat.le_of_ble_eq_true rfl) dX7_readFog_78 ⟨Nat.zero_le _, Nat.zero_le _⟩ (fun H locs hP hD hS => ?_)
            refine lv_goto (tgt := 20) hx hb dX7_readFog_81 (by decide) ?_
            exact ih20 r10.1 r10.2.1 r10.2.2.1 r10.2.2.2 (upd (upd v_read ((56 : Int32) + (v_read (4 : Int32).toNatClampNeg)).toNatClampNeg v_told) (4 : Int32).toNatClampNeg (((upd v_read ((56 : Int32) + (v_read (4 : Int32).toNatClampNeg)).toNatClampNeg v_told) (4 : Int32).toNatClampNeg) + (1 : Int32))) H locs ls h hP hD hS (lv_sub hl [0] rfl)
          · have h := (if_neg c5).symm.trans h
            refine lv_iconst (v := 0) hx hb dX7_readFog_47 (by decide) ?_
            exact hret (0 : Int32) (v_at, v_begin, v_token, v_told, v_read) H locs _ ls (Or.inl rfl) (Option.some.inj h) hP hD hS dX7_readFog_48
  have h := hf
  unfold f_X7_readFog at h
  obtain ⟨H, eH⟩ : ∃ H, H = s.heap := ⟨_, rfl⟩
  rw [← eH] at hP ⊢
  obtain ⟨locs, el⟩ : ∃ locs : List Loc, locs = [] := ⟨_, rfl⟩
  rw [← el] at hS ⊢
  have hS : va_S A s.heap H locs := by rw [eH]; exact hS
  refine lv_aload_n hx hb dX7_readFog_0 rfl (lv_at hl 0 rfl) ?_
  refine va_get (C := RX7) (T := TX7) (N := 34) (v := .ref (q 7)) hx hb hts iw7 hown hK hP 0 rfl rfl 6 (Nat.le_of_ble_eq_true rfl) lk13 (fun _ h9 => h9) rfl dX7_readFog_1 ?_
  refine lv_iconst (v := 4) hx hb dX7_readFog_4 (by decide) ?_
  obtain ⟨hi11, h⟩ := xb_some h
  refine va_iald hx hb hK hP 2 0 rfl rfl hi11 dX7_readFog_5 ?_
  refine lv_if_gt (tgt := 18) hx hb dX7_readFog_6 (by decide) (fun c12 => ?_) (fun c12 => ?_)
  · have h := (if_pos c12).symm.trans h
    refine lv_iconst (v := 0) hx hb dX7_readFog_18 (by decide) ?_
    exact hret (0 : Int32) (v_at, v_begin, v_token, v_told, v_read) H locs _ ls (Or.inl rfl) (Option.some.inj h) hP hD hS dX7_readFog_19
  · have h := (if_neg c12).symm.trans h
    refine lv_aload_n hx hb dX7_readFog_9 rfl (lv_at hl 0 rfl) ?_
    refine lv_iconst (v := 0) hx hb dX7_readFog_10 (by decide) ?_
    refine lv_iconst (v := 1) hx hb dX7_readFog_11 (by decide) ?_
    obtain ⟨r13, hr13, h⟩ := xk_some h
    refine vx_VI (As := [.int (0 : Int32), .int (1 : Int32)]) (rest := []) (wr := [rA (q 7) cI 64 v_read]) (wn := [oX7 q v_size r13.2.1 r13.2.2.1 r13.2.2.2.1 r13.2.2.2.2 v_undos v_changed v_felt v_wents v_wish v_trace, rA (q 1) cI 200 v_text, rA (q 7) cI 64 v_read]) hFx (k_X7_number l D cI cZ cT q H.size v_size v_at v_begin v_token v_told v_undos v_changed v_felt v_wents v_wish v_trace v_text (0 : Int32) (1 : Int32) r13 fu hr13) (cwV 2 hts gX7_readFog_X7_number rfl rfl rfl (by decide +kernel) ⟨Nat.le_of_ble_eq_true rfl, Nat.le_of_ble_eq_true rfl⟩) hK hP hD hS hA [0, 1] [2] [1, 2, 0] rfl rfl rfl rfl (by decide) rfl rfl 7 0 rfl rfl rfl hl.1 rfl (Nat.le_of_ble_eq_true rfl) dX7_readFog_12 ⟨Nat.zero_le _, Nat.zero_le _⟩ (fun H locs hP hD hS => ?_)
    refine lv_if_ne (tgt := 20) hx hb dX7_readFog_15 (by decide) (fun c14 => ?_) (fun c14 => ?_)
    · have h := (if_neg c14).symm.trans h
      exact hL20 fu r13.2.1 r13.2.2.1 r13.2.2.2.1 r13.2.2.2.2 v_read H locs ls h hP hD hS (lv_sub hl [0] rfl)
    · have h := (if_pos c14).symm.trans h
      refine lv_iconst (v := 0) hx hb dX7_readFog_18 (by decide) ?_
      exact hret (0 : Int32) (r13.2.1, r13.2.2.1, r13.2.2.2.1, r13.2.2.2.2, v_read) H locs _ ls (Or.inl rfl) (Option.some.inj h) hP hD hS dX7_readFog_19
abbrev rm_X7_readItem : Room := { frames := 7, cells := 0, slots := 0, locals := 151 }
set_option maxHeartbeats 4000000 in
set_option maxRecDepth 100000 in
theorem k_X7_readItem (l : Launch) (D : va_G) (cI cZ cT : ClassId) (q : Nat → Nat) (sz : Nat) (v_size : Int32) (v_at : Int32) (v_begin : Int32) (v_token : Int32) (v_told : Int32) (v_undos : Int32) (v_changed : Int32) (v_felt : Int32) (v_wents : Int32) (v_wish : Int32) (v_trace : Int64) (v_text : Nat → Int32) (v_read : Nat → Int32) (res : R_X7_readItem) (fu : Nat) (hf : f_X7_readItem fu v_text v_size v_at v_begin v_token v_told v_read = some res) : Met l yX7_readItem wsX7_readItem rm_X7_readItem (cPre D (tyz cI cZ cT) [.ref (q 0)] sz [oX7 q v_size v_at v_begin v_token v_told v_undos v_changed v_felt v_wents v_wish v_trace, rA (q 1) cI 200 v_text, rA (q 7) cI 64 v_read]) (cPi D (tyz cI cZ cT) (fun (r : Int32) (u : Int32 × Int32 × Int32 × Int32 × (Nat → Int32)) => (r, u) = res) (fun u => [oX7 q v_size u.1 u.2.1 u.2.2.1 u.2.2.2.1 v_undos v_changed v_felt v_wents v_wish v_trace, rA (q 1) cI 200 v_text, rA (q 7) cI 64 u.2.2.2.2]) [oX7 q v_size v_at v_begin v_token v_told v_undos v_changed v_felt v_wents v_wish v_trace, rA (q 1) cI 200 v_text, rA (q 7) cI 64 v_read] sz) 0 0 (va_A [oX7 q v_size v_at v_begin v_token v_told v_undos v_changed v_felt v_wents v_wish v_trace, rA (q 1) cI 200 v_text, rA (q 7) cI 64 v_read] sz) := by
  refine vx_meth_z (by decide) rfl (Nat.le_of_ble_eq_true rfl) ?_
  intro p e s m args below meth c A Q hx hb hml hown hts hK hP hD hA hS hret ls hl
  have hown : s.vm.findClass RX7 = some m.cls := hown
  have hl : lv_has ls 1 [(0, .ref (q 0))] := hl
  have hFx : CallFix p m c cX7_readItem 1 s args wsX7_readItem RX7 := ⟨hx, hb, hml, hown, hts⟩
  have lk116 := hts (.fieldLink RX7 116 "FogGuidesModel" "token" "I") (by decide +kernel)
  have iw7 : ∀ w ∈ u_ws RX7 TX7 34, w ∈ wsX7_readItem := by decide +kernel
  have lk106 := hts (.fieldLink RX7 106 "FogGuidesModel" "told" "I") (by decide +kernel)
  have lk13 := hts (.fieldLink RX7 13 "FogGuidesModel" "read" "[I") (by decide +kernel)
  have h := hf
  unfold f_X7_readItem at h
  obtain ⟨H, eH⟩ : ∃ H, H = s.heap := ⟨_, rfl⟩
  rw [← eH] at hP ⊢
  obtain ⟨locs, el⟩ : ∃ locs : List Loc, locs = [] := ⟨_, rfl⟩
  rw [← el] at hS ⊢
  have hS : va_S A s.heap H locs := by rw [eH]; exact hS
  refine lv_aload_n hx hb dX7_readItem_0 rfl (lv_at hl 0 rfl) ?_
  refine va_get (C := RX7) (T := TX7) (N := 34) (v := .int v_token) hx hb hts iw7 hown hK hP 0 rfl rfl 4 (Nat.le_of_ble_eq_true rfl) lk116 (fun _ h9 => h9) rfl dX7_readItem_1 ?_
  refine lv_iconst (v := 1) hx hb dX7_readItem_4 (by decide) ?_
  refine lv_icmp_eq (tgt := 10) hx hb dX7_readItem_5 (by decide) (fun c1 => ?_) (fun c1 => ?_)
  · have h := (if_pos c1).symm.trans h
    refine lv_aload_n hx hb dX7_readItem_10 rfl (lv_at hl 0 rfl) ?_
    refine va_get (C := RX7) (T := TX7) (N := 34) (v := .int v_told) hx hb hts iw7 hown hK hP 0 rfl rfl 5 (Nat.le_of_ble_eq_true rfl) lk106 (fun _ h9 => h9) rfl dX7_readItem_11 ?_
    by_cases c2 : v_told = (99 : Int32)
    · refine lv_lookup (off := 42) (tgt := 56) hx hb dX7_readItem_14 (by decide) (by rw [c2]; decide) (by decide) ?_
      have h := (if_pos c2).symm.trans h
      refine lv_aload_n hx hb dX7_readItem_56 rfl (lv_at hl 0 rfl) ?_
      obtain ⟨r3, hr3, h⟩ := xk_some h
      refine vx_VI (As := []) (rest := []) (wr := []) (wn := [oX7 q v_size r3.2.1 r3.2.2.1 r3.2.2.2.1 r3.2.2.2.2.1 v_undos v_changed v_felt v_wents v_wish v_trace, rA (q 1) cI 200 v_text, rA (q 7) cI 64 r3.2.2.2.2.2]) hFx (k_X7_readCorner l D cI cZ cT q H.size v_size v_at v_begin v_token v_told v_undos v_changed v_felt v_wents v_wish v_trace v_text v_read r3 fu hr3) (cwV 0 hts gX7_readItem_X7_readCorner rfl rfl rfl (by decide +kernel) ⟨Nat.le_of_ble_eq_true rfl, Nat.le_of_ble_eq_true rfl⟩) hK hP hD hS hA [0, 1, 2] [] [0, 1, 2] rfl rfl rfl rfl (by decide) rfl rfl 7 0 rfl rfl rfl hl.1 rfl (Nat.le_of_ble_eq_true rfl) dX7_readItem_57 ⟨Nat.zero_le _, Nat.zero_le _⟩ (fun H locs hP hD hS => ?_)
      obtain ⟨hz4, h⟩ := xz_some h
      exact hret r3.1 (r3.2.1, r3.2.2.1, r3.2.2.2.1, r3.2.2.2.2.1, r3.2.2.2.2.2) H locs _ ls hz4 (Option.some.inj h) hP hD hS dX7_readItem_60
    have h := (if_neg c2).symm.trans h
    by_cases c5 : v_told = (102 : Int32)
    · refine lv_lookup (off := 57) (tgt := 71) hx hb dX7_readItem_14 (by decide) (by rw [c5]; decide) (by decide) ?_
      have h := (if_pos c5).symm.trans h
      refine lv_aload_n hx hb dX7_readItem_71 rfl (lv_at hl 0 rfl) ?_
      obtain ⟨r6, hr6, h⟩ := xk_some h
      refine vx_VI (As := []) (rest := []) (wr := []) (wn := [oX7 q v_size r6.2.1 r6.2.2.1 r6.2.2.2.1 r6.2.2.2.2.1 v_undos v_changed v_felt v_wents v_wish v_trace, rA (q 1) cI 200 v_text, rA (q 7) cI 64 r6.2.2.2.2.2]) hFx (k_X7_readFog l D cI cZ cT q H.size v_size v_at v_begin v_token v_told v_undos v_changed v_felt v_wents v_wish v_trace v_text v_read r6 fu hr6) (cwV 0 hts gX7_readItem_X7_readFog rfl rfl rfl (by decide +kernel) ⟨Nat.le_of_ble_eq_true rfl, Nat.le_of_ble_eq_true rfl⟩) hK hP hD hS hA [0, 1, 2] [] [0, 1, 2] rfl rfl rfl rfl (by decide) rfl rfl 7 0 rfl rfl rfl hl.1 rfl (Nat.le_of_ble_eq_true rfl) dX7_readItem_72 ⟨Nat.zero_le _, Nat.zero_le _⟩ (fun H locs hP hD hS => ?_)
      obtain ⟨hz7, h⟩ := xz_some h
      exact hret r6.1 (r6.2.1, r6.2.2.1, r6.2.2.2.1, r6.2.2.2.2.1, r6.2.2.2.2.2) H locs _ ls hz7 (Option.some.inj h) hP hD hS dX7_readItem_75
    have h := (if_neg c5).symm.trans h
    by_cases c8 : v_told = (103 : Int32)
    · refine lv_lookup (off := 52) (tgt := 66) hx hb dX7_readItem_14 (by decide) (by rw [c8]; decide) (by decide) ?_
      have h := (if_pos c8).symm.trans h
      refine lv_aload_n hx hb dX7_readItem_66 rfl (lv_at hl 0 rfl) ?_
      obtain ⟨r9, hr9, h⟩ := xk_some h
      refine vx_VI (As := []) (rest := []) (wr := []) (wn := [oX7 q v_size r9.2.1 r9.2.2.1 r9.2.2.2.1 r9.2.2.2.2.1 v_undos v_changed v_felt v_wents v_wish v_trace, rA (q 1) cI 200 v_text, rA (q 7) cI 64 r9.2.2.2.2.2]) hFx (k_X7_readGuide l D cI cZ cT q H.size v_size v_at v_begin v_token v_told v_undos v_changed v_felt v_wents v_wish v_trace v_text v_read r9 fu hr9) (cwV 0 hts gX7_readItem_X7_readGuide rfl rfl rfl (by decide +kernel) ⟨Nat.le_of_ble_eq_true rfl, Nat.le_of_ble_eq_true rfl⟩) hK hP hD hS hA [0, 1, 2] [] [0, 1, 2] rfl rfl rfl rfl (by decide) rfl rfl 7 0 rfl rfl rfl hl.1 rfl (Nat.le_of_ble_eq_true rfl) dX7_readItem_67 ⟨Nat.zero_le _, Nat.zero_le _⟩ (fun H locs hP hD hS => ?_)
      obtain ⟨hz10, h⟩ := xz_some h
      exact hret r9.1 (r9.2.1, r9.2.2.1, r9.2.2.2.1, r9.2.2.2.2.1, r9.2.2.2.2.2) H locs _ ls hz10 (Option.some.inj h) hP hD hS dX7_readItem_70
    have h := (if_neg c8).symm.trans h
    by_cases c11 : v_told = (115 : Int32)
    · refine lv_lookup (off := 47) (tgt := 61) hx hb dX7_readItem_14 (by decide) (by rw [c11]; decide) (by decide) ?_
      have h := (if_pos c11).symm.trans h
      refine lv_aload_n hx hb dX7_readItem_61 rfl (lv_at hl 0 rfl) ?_
      obtain ⟨r12, hr12, h⟩ := xk_some h
      refine vx_VI (As := []) (rest := []) (wr := []) (wn := [oX7 q v_size r12.2.1 r12.2.2.1 r12.2.2.2.1 r12.2.2.2.2.1 v_undos v_changed v_felt v_wents v_wish v_trace, rA (q 1) cI 200 v_text, rA (q 7) cI 64 r12.2.2.2.2.2]) hFx (k_X7_readStreet l D cI cZ cT q H.size v_size v_at v_begin v_token v_told v_undos v_changed v_felt v_wents v_wish v_trace v_text v_read r12 fu hr12) (cwV 0 hts gX7_readItem_X7_readStreet rfl rfl rfl (by decide +kernel) ⟨Nat.le_of_ble_eq_true rfl, Nat.le_of_ble_eq_true rfl⟩) hK hP hD hS hA [0, 1, 2] [] [0, 1, 2] rfl rfl rfl rfl (by decide) rfl rfl 7 0 rfl rfl rfl hl.1 rfl (Nat.le_of_ble_eq_true rfl) dX7_readItem_62 ⟨Nat.zero_le _, Nat.zero_le _⟩ (fun H locs hP hD hS => ?_)
      obtain ⟨hz13, h⟩ := xz_some h
      exact hret r12.1 (r12.2.1, r12.2.2.1, r12.2.2.2.1, r12.2.2.2.2.1, r12.2.2.2.2.2) H locs _ ls hz13 (Option.some.inj h) hP hD hS dX7_readItem_65
    have h := (if_neg c11).symm.trans h
    refine lv_lookup (off := 62) (tgt := 76) hx hb dX7_readItem_14 (by decide) (sw_look _ (fun q hq => ?_)) (by decide) ?_
    · have hq : q ∈ ([(99, 42), (102, 57), (103, 52), (115, 47)] : List (Int × Int)) := hq
      simp only [List.mem_cons, List.not_mem_nil, or_false] at hq
      rcases hq with rfl | rfl | rfl | rfl
      · exact c2
      · exact c5
      · exact c8
      · exact c11
    · refine lv_aload_n hx hb dX7_readItem_76 rfl (lv_at hl 0 rfl) ?_
      refine va_get (C := RX7) (T := TX7) (N := 34) (v := .ref (q 7)) hx hb hts iw7 hown hK hP 0 rfl rfl 6 (Nat.le_of_ble_eq_true rfl) lk13 (fun _ h9 => h9) rfl dX7_readItem_77 ?_
      refine lv_iconst (v := 5) hx hb dX7_readItem_80 (by decide) ?_
      obtain ⟨hi14, h⟩ := xb_some h
      refine va_iald hx hb hK hP 2 0 rfl rfl hi14 dX7_readItem_81 ?_
      refine lv_iconst (v := 1) hx hb dX7_readItem_82 (by decide) ?_
      refine lv_icmp_eq (tgt := 96) hx hb dX7_readItem_83 (by decide) (fun c15 => ?_) (fun c15 => ?_)
      · have h := (if_pos c15).symm.trans h
        refine lv_iconst (v := 0) hx hb dX7_readItem_96 (by decide) ?_
        exact hret (0 : Int32) (v_at, v_begin, v_token, v_told, v_read) H locs _ ls (Or.inl rfl) (Option.some.inj h) hP hD hS dX7_readItem_97
      · have h := (if_neg c15).symm.trans h
        refine lv_aload_n hx hb dX7_readItem_86 rfl (lv_at hl 0 rfl) ?_
        refine lv_iconst (v := 0) hx hb dX7_readItem_87 (by decide) ?_
        refine lv_bipush (v := 9) hx hb dX7_readItem_88 (by decide) ?_
        obtain ⟨r16, hr16, h⟩ := xk_some h
        refine vx_VI (As := [.int (0 : Int32), .int (9 : Int32)]) (rest := []) (wr := [rA (q 7) cI 64 v_read]) (wn := [oX7 q v_size r16.2.1 r16.2.2.1 r16.2.2.2.1 r16.2.2.2.2 v_undos v_changed v_felt v_wents v_wish v_trace, rA (q 1) cI 200 v_text, rA (q 7) cI 64 v_read]) hFx (k_X7_number l D cI cZ cT q H.size v_size v_at v_begin v_token v_told v_undos v_changed v_felt v_wents v_wish v_trace v_text (0 : Int32) (9 : Int32) r16 fu hr16) (cwV 2 hts gX7_readItem_X7_number rfl rfl rfl (by decide +kernel) ⟨Nat.le_of_ble_eq_true rfl, Nat.le_of_ble_eq_true rfl⟩) hK hP hD hS hA [0, 1] [2] [1, 2, 0] rfl rfl rfl rfl (by decide) rfl rfl 7 0 rfl rfl rfl hl.1 rfl (Nat.le_of_ble_eq_true rfl) dX7_readItem_90 ⟨Nat.zero_le _, Nat.zero_le _⟩ (fun H locs hP hD hS => ?_)
        refine lv_if_ne (tgt := 98) hx hb dX7_readItem_93 (by decide) (fun c17 => ?_) (fun c17 => ?_)
        · have h := (if_neg c17).symm.trans h
          refine lv_aload_n hx hb dX7_readItem_98 rfl (lv_at hl 0 rfl) ?_
          refine va_get (C := RX7) (T := TX7) (N := 34) (v := .ref (q 7)) hx hb hts iw7 hown hK hP 0 rfl rfl 6 (Nat.le_of_ble_eq_true rfl) lk13 (fun _ h9 => h9) rfl dX7_readItem_99 ?_
          refine lv_iconst (v := 5) hx hb dX7_readItem_102 (by decide) ?_
          refine lv_iconst (v := 1) hx hb dX7_readItem_103 (by decide) ?_
          obtain ⟨hi18, h⟩ := xb_some h
          refine va_iast hx hb hK hP hD hS 2 0 rfl rfl hi18 dX7_readItem_104 (fun H locs hP hD hS => ?_)
          have hP : va_P D vwCl [oX7 q v_size r16.2.1 r16.2.2.1 r16.2.2.2.1 r16.2.2.2.2 v_undos v_changed v_felt v_wents v_wish v_trace, rA (q 1) cI 200 v_text, rA (q 7) cI 64 (upd v_read (5 : Int32).toNatClampNeg (1 : Int32))] H := hP
          have hD : va_D A [oX7 q v_size r16.2.1 r16.2.2.1 r16.2.2.2.1 r16.2.2.2.2 v_undos v_changed v_felt v_wents v_wish v_trace, rA (q 1) cI 200 v_text, rA (q 7) cI 64 (upd v_read (5 : Int32).toNatClampNeg (1 : Int32))] := hD
          refine lv_aload_n hx hb dX7_readItem_105 rfl (lv_at hl 0 rfl) ?_
          refine va_get (C := RX7) (T := TX7) (N := 34) (v := .ref (q 7)) hx hb hts iw7 hown hK hP 0 rfl rfl 6 (Nat.le_of_ble_eq_true rfl) lk13 (fun _ h9 => h9) rfl dX7_readItem_106 ?_
          refine lv_iconst (v := 3) hx hb dX7_readItem_109 (by decide) ?_
          refine lv_aload_n hx hb dX7_readItem_110 rfl (lv_at hl 0 rfl) ?_
          refine va_get (C := RX7) (T := TX7) (N := 34) (v := .int r16.2.2.2.2) hx hb hts iw7 hown hK hP 0 rfl rfl 5 (Nat.le_of_ble_eq_true rfl) lk106 (fun _ h9 => h9) rfl dX7_readItem_111 ?_
          obtain ⟨hi19, h⟩ := xb_some h
          refine va_iast hx hb hK hP hD hS 2 0 rfl rfl hi19 dX7_readItem_114 (fun H locs hP hD hS => ?_)
          have hP : va_P D vwCl [oX7 q v_size r16.2.1 r16.2.2.1 r16.2.2.2.1 r16.2.2.2.2 v_undos v_changed v_felt v_wents v_wish v_trace, rA (q 1) cI 200 v_text, rA (q 7) cI 64 (upd (upd v_read (5 : Int32).toNatClampNeg (1 : Int32)) (3 : Int32).toNatClampNeg r16.2.2.2.2)] H := hP
          have hD : va_D A [oX7 q v_size r16.2.1 r16.2.2.1 r16.2.2.2.1 r16.2.2.2.2 v_undos v_changed v_felt v_wents v_wish v_trace, rA (q 1) cI 200 v_text, rA (q 7) cI 64 (upd (upd v_read (5 : Int32).toNatClampNeg (1 : Int32)) (3 : Int32).toNatClampNeg r16.2.2.2.2)] := hD
          refine lv_aload_n hx hb dX7_readItem_115 rfl (lv_at hl 0 rfl) ?_
          obtain ⟨r20, hr20, h⟩ := xk_some h
          refine vx_VI (As := []) (rest := []) (wr := [rA (q 7) cI 64 (upd (upd v_read (5 : Int32).toNatClampNeg (1 : Int32)) (3 : Int32).toNatClampNeg r16.2.2.2.2)]) (wn := [oX7 q v_size r20.2.1 r20.2.2.1 r20.2.2.2.1 r20.2.2.2.2 v_undos v_changed v_felt v_wents v_wish v_trace, rA (q 1) cI 200 v_text, rA (q 7) cI 64 (upd (upd v_read (5 : Int32).toNatClampNeg (1 : Int32)) (3 : Int32).toNatClampNeg r16.2.2.2.2)]) hFx (k_X7_ends l D cI cZ cT q H.size v_size r16.2.1 r16.2.2.1 r16.2.2.2.1 r16.2.2.2.2 v_undos v_changed v_felt v_wents v_wish v_trace v_text r20 fu hr20) (cwV 0 hts gX7_readItem_X7_ends rfl rfl rfl (by decide +kernel) ⟨Nat.le_of_ble_eq_true rfl, Nat.le_of_ble_eq_true rfl⟩) hK hP hD hS hA [0, 1] [2] [1, 2, 0] rfl rfl rfl rfl (by decide) rfl rfl 7 0 rfl rfl rfl hl.1 rfl (Nat.le_of_ble_eq_true rfl) dX7_readItem_116 ⟨Nat.zero_le _, Nat.zero_le _⟩ (fun H locs hP hD hS => ?_)
          obtain ⟨hz21, h⟩ := xz_some h
          exact hret r20.1 ((r20.2.1, r20.2.2.1, r20.2.2.2.1, r20.2.2.2.2, upd (upd v_read (5 : Int32).toNatClampNeg (1 : Int32)) (3 : Int32).toNatClampNeg r16.2.2.2.2)) H locs _ ls hz21 (Option.some.inj h) hP hD hS dX7_readItem_119
        · have h := (if_pos c17).symm.trans h
          refine lv_iconst (v := 0) hx hb dX7_readItem_96 (by decide) ?_
          exact hret (0 : Int32) (r16.2.1, r16.2.2.1, r16.2.2.2.1, r16.2.2.2.2, v_read) H locs _ ls (Or.inl rfl) (Option.some.inj h) hP hD hS dX7_readItem_97
  · have h := (if_neg c1).symm.trans h
    refine lv_iconst (v := 0) hx hb dX7_readItem_8 (by decide) ?_
    exact hret (0 : Int32) (v_at, v_begin, v_token, v_told, v_read) H locs _ ls (Or.inl rfl) (Option.some.inj h) hP hD hS dX7_readItem_9
abbrev rm_X7_takes : Room := { frames := 0, cells := 0, slots := 0, locals := 0 }
set_option maxHeartbeats 4000000 in
set_option maxRecDepth 100000 in
theorem k_X7_takes (l : Launch) (D : va_G) (cI cZ cT : ClassId) (q : Nat → Nat) (sz : Nat) (v_size : Int32) (v_at : Int32) (v_begin : Int32) (v_token : Int32) (v_told : Int32) (v_undos : Int32) (v_changed : Int32) (v_felt : Int32) (v_wents : Int32) (v_wish : Int32) (v_trace : Int64) (v_read : Nat → Int32) (v_town : Nat → Int32) (v_now : Nat → Int32) (v_kept : Nat → Int32) (res : R_X7_takes) (fu : Nat) (hf : f_X7_takes fu v_read v_town v_now v_undos v_felt v_wents v_wish v_kept = some res) : Met l yX7_takes wsX7_takes rm_X7_takes (cPre D (tyz cI cZ cT) [.ref (q 0)] sz [oX7 q v_size v_at v_begin v_token v_told v_undos v_changed v_felt v_wents v_wish v_trace, rA (q 7) cI 64 v_read, rA (q 8) cI 64 v_town, rA (q 9) cI 4 v_now, rA (q 34) cI 92 v_kept]) (cPv D (tyz cI cZ cT) (fun (u : (Nat → Int32) × (Nat → Int32) × Int32 × Int32 × Int32 × Int32 × (Nat → Int32)) => u = res) (fun u => [oX7 q v_size v_at v_begin v_token v_told u.2.2.1 v_changed u.2.2.2.1 u.2.2.2.2.1 u.2.2.2.2.2.1 v_trace, rA (q 7) cI 64 v_read, rA (q 8) cI 64 u.1, rA (q 9) cI 4 u.2.1, rA (q 34) cI 92 u.2.2.2.2.2.2]) [oX7 q v_size v_at v_begin v_token v_told v_undos v_changed v_felt v_wents v_wish v_trace, rA (q 7) cI 64 v_read, rA (q 8) cI 64 v_town, rA (q 9) cI 4 v_now, rA (q 34) cI 92 v_kept] sz) 0 0 (va_A [oX7 q v_size v_at v_begin v_token v_told v_undos v_changed v_felt v_wents v_wish v_trace, rA (q 7) cI 64 v_read, rA (q 8) cI 64 v_town, rA (q 9) cI 4 v_now, rA (q 34) cI 92 v_kept] sz) := by
  refine vx_meth_v (by decide) rfl (Nat.le_of_ble_eq_true rfl) ?_
  intro p e s m args below meth c A Q hx hb hml hown hts hK hP hD hA hS hret ls hl
  have hown : s.vm.findClass RX7 = some m.cls := hown
  have hl : lv_has ls 2 [(0, .ref (q 0))] := hl
  have hFx : CallFix p m c cX7_takes 2 s args wsX7_takes RX7 := ⟨hx, hb, hml, hown, hts⟩
  have lk19 := hts (.fieldLink RX7 19 "FogGuidesModel" "now" "[I") (by decide +kernel)
  have iw7 : ∀ w ∈ u_ws RX7 TX7 34, w ∈ wsX7_takes := by decide +kernel
  have lk157 := hts (.fieldLink RX7 157 "FogGuidesModel" "felt" "I") (by decide +kernel)
  have lk160 := hts (.fieldLink RX7 160 "FogGuidesModel" "wents" "I") (by decide +kernel)
  have lk163 := hts (.fieldLink RX7 163 "FogGuidesModel" "wish" "I") (by decide +kernel)
  have lk166 := hts (.fieldLink RX7 166 "FogGuidesModel" "undos" "I") (by decide +kernel)
  have lk76 := hts (.fieldLink RX7 76 "FogGuidesModel" "kept" "[I") (by decide +kernel)
  have lk16 := hts (.fieldLink RX7 16 "FogGuidesModel" "town" "[I") (by decide +kernel)
  have lk13 := hts (.fieldLink RX7 13 "FogGuidesModel" "read" "[I") (by decide +kernel)
  have hJ46 : ∀ (v_town : (Nat → Int32)) (v_now : (Nat → Int32)) (v_undos : Int32) (v_felt : Int32) (v_wents : Int32) (v_wish : Int32) (v_kept : (Nat → Int32)) (z1 : Int32) (z2 : Int32) (H : Heap) (locs : List Loc) (ls : Array Slot), f_X7_takes_J46 fu v_read v_town v_now v_undos v_felt v_wents v_wish v_kept z1 z2 = some res → va_P D vwCl [oX7 q v_size v_at v_begin v_token v_told v_undos v_changed v_felt v_wents v_wish v_trace, rA (q 7) cI 64 v_read, rA (q 8) cI 64 v_town, rA (q 9) cI 4 v_now, rA (q 34) cI 92 v_kept] H → va_D A [oX7 q v_size v_at v_begin v_token v_told v_undos v_changed v_felt v_wents v_wish v_trace, rA (q 7) cI 64 v_read, rA (q 8) cI 64 v_town, rA (q 9) cI 4 v_now, rA (q 34) cI 92 v_kept] → va_S A s.heap H locs → lv_has ls 2 [(0, .ref (q 0))] → W p l e rm_X7_takes s m args below meth c H locs 0 0 Q (F0 m 46 ls [.int z2, .int z1, .ref (q 9)]) := by
    intro v_town v_now v_undos v_felt v_wents v_wish v_kept z1 z2 H locs ls h hP hD hS hl
    unfold f_X7_takes_J46 at h
    obtain ⟨hi1, h⟩ := xb_some h
    refine va_iast hx hb hK hP hD hS 3 0 rfl rfl hi1 dX7_takes_46 (fun H locs hP hD hS => ?_)
    have hP : va_P D vwCl [oX7 q v_size v_at v_begin v_token v_told v_undos v_changed v_felt v_wents v_wish v_trace, rA (q 7) cI 64 v_read, rA (q 8) cI 64 v_town, rA (q 9) cI 4 (upd v_now z1.toNatClampNeg z2), rA (q 34) cI 92 v_kept] H := hP
    have hD : va_D A [oX7 q v_size v_at v_begin v_token v_told v_undos v_changed v_felt v_wents v_wish v_trace, rA (q 7) cI 64 v_read, rA (q 8) cI 64 v_town, rA (q 9) cI 4 (upd v_now z1.toNatClampNeg z2), rA (q 34) cI 92 v_kept] := hD
    refine lv_aload_n hx hb dX7_takes_47 rfl (lv_at hl 0 rfl) ?_
    refine va_get (C := RX7) (T := TX7) (N := 34) (v := .ref (q 9)) hx hb hts iw7 hown hK hP 0 rfl rfl 8 (Nat.le_of_ble_eq_true rfl) lk19 (fun _ h9 => h9) rfl dX7_takes_48 ?_
    refine lv_iconst (v := 1) hx hb dX7_takes_51 (by decide) ?_
    refine lv_iconst (v := 0) hx hb dX7_takes_52 (by decide) ?_
    obtain ⟨hi2, h⟩ := xb_some h
    refine va_iast hx hb hK hP hD hS 3 0 rfl rfl hi2 dX7_takes_53 (fun H locs hP hD hS => ?_)
    have hP : va_P D vwCl [oX7 q v_size v_at v_begin v_token v_told v_undos v_changed v_felt v_wents v_wish v_trace, rA (q 7) cI 64 v_read, rA (q 8) cI 64 v_town, rA (q 9) cI 4 (upd (upd v_now z1.toNatClampNeg z2) (1 : Int32).toNatClampNeg (0 : Int32)), rA (q 34) cI 92 v_kept] H := hP
    have hD : va_D A [oX7 q v_size v_at v_begin v_token v_told v_undos v_changed v_felt v_wents v_wish v_trace, rA (q 7) cI 64 v_read, rA (q 8) cI 64 v_town, rA (q 9) cI 4 (upd (upd v_now z1.toNatClampNeg z2) (1 : Int32).toNatClampNeg (0 : Int32)), rA (q 34) cI 92 v_kept] := hD
    refine lv_aload_n hx hb dX7_takes_54 rfl (lv_at hl 0 rfl) ?_
    refine va_get (C := RX7) (T := TX7) (N := 34) (v := .ref (q 9)) hx hb hts iw7 hown hK hP 0 rfl rfl 8 (Nat.le_of_ble_eq_true rfl) lk19 (fun _ h9 => h9) rfl dX7_takes_55 ?_
    refine lv_iconst (v := 2) hx hb dX7_takes_58 (by decide) ?_
    refine lv_iconst (v := 0) hx hb dX7_takes_59 (by decide) ?_
    obtain ⟨hi3, h⟩ := xb_some h
    refine va_iast hx hb hK hP hD hS 3 0 rfl rfl hi3 dX7_takes_60 (fun H locs hP hD hS => ?_)
    have hP : va_P D vwCl [oX7 q v_size v_at v_begin v_token v_told v_undos v_changed v_felt v_wents v_wish v_trace, rA (q 7) cI 64 v_read, rA (q 8) cI 64 v_town, rA (q 9) cI 4 (upd (upd (upd v_now z1.toNatClampNeg z2) (1 : Int32).toNatClampNeg (0 : Int32)) (2 : Int32).toNatClampNeg (0 : Int32)), rA (q 34) cI 92 v_kept] H := hP
    have hD : va_D A [oX7 q v_size v_at v_begin v_token v_told v_undos v_changed v_felt v_wents v_wish v_trace, rA (q 7) cI 64 v_read, rA (q 8) cI 64 v_town, rA (q 9) cI 4 (upd (upd (upd v_now z1.toNatClampNeg z2) (1 : Int32).toNatClampNeg (0 : Int32)) (2 : Int32).toNatClampNeg (0 : Int32)), rA (q 34) cI 92 v_kept] := hD
    refine lv_aload_n hx hb dX7_takes_61 rfl (lv_at hl 0 rfl) ?_
    refine va_get (C := RX7) (T := TX7) (N := 34) (v := .ref (q 9)) hx hb hts iw7 hown hK hP 0 rfl rfl 8 (Nat.le_of_ble_eq_true rfl) lk19 (fun _ h9 => h9) rfl dX7_takes_62 ?_
    refine lv_iconst (v := 3) hx hb dX7_takes_65 (by decide) ?_
    refine lv_bipush (v := (-9)) hx hb dX7_takes_66 (by decide) ?_
    obtain ⟨hi4, h⟩ := xb_some h
    refine va_iast hx hb hK hP hD hS 3 0 rfl rfl hi4 dX7_takes_68 (fun H locs hP hD hS => ?_)
    have hP : va_P D vwCl [oX7 q v_size v_at v_begin v_token v_told v_undos v_changed v_felt v_wents v_wish v_trace, rA (q 7) cI 64 v_read, rA (q 8) cI 64 v_town, rA (q 9) cI 4 (upd (upd (upd (upd v_now z1.toNatClampNeg z2) (1 : Int32).toNatClampNeg (0 : Int32)) (2 : Int32).toNatClampNeg (0 : Int32)) (3 : Int32).toNatClampNeg (-9 : Int32)), rA (q 34) cI 92 v_kept] H := hP
    have hD : va_D A [oX7 q v_size v_at v_begin v_token v_told v_undos v_changed v_felt v_wents v_wish v_trace, rA (q 7) cI 64 v_read, rA (q 8) cI 64 v_town, rA (q 9) cI 4 (upd (upd (upd (upd v_now z1.toNatClampNeg z2) (1 : Int32).toNatClampNeg (0 : Int32)) (2 : Int32).toNatClampNeg (0 : Int32)) (3 : Int32).toNatClampNeg (-9 : Int32)), rA (q 34) cI 92 v_kept] := hD
    refine lv_aload_n hx hb dX7_takes_69 rfl (lv_at hl 0 rfl) ?_
    refine lv_iconst (v := 0) hx hb dX7_takes_70 (by decide) ?_
    refine va_put (C := RX7) (T := TX7) (N := 34) (v := .int (0 : Int32)) (ty := .int) hx hb hts iw7 tyX7 tyX7_ok nmX7 hown hK hP hD hS 0 rfl rfl 19 (Nat.le_of_ble_eq_true rfl) lk157 (fun _ h9 => h9) rfl (by decide +kernel) rfl rfl (Nat.le_of_ble_eq_true rfl) dX7_takes_71 (fun H locs hP hD hS => ?_)
    have hP : va_P D vwCl [oX7 q v_size v_at v_begin v_token v_told v_undos v_changed (0 : Int32) v_wents v_wish v_trace, rA (q 7) cI 64 v_read, rA (q 8) cI 64 v_town, rA (q 9) cI 4 (upd (upd (upd (upd v_now z1.toNatClampNeg z2) (1 : Int32).toNatClampNeg (0 : Int32)) (2 : Int32).toNatClampNeg (0 : Int32)) (3 : Int32).toNatClampNeg (-9 : Int32)), rA (q 34) cI 92 v_kept] H := hP
    have hD : va_D A [oX7 q v_size v_at v_begin v_token v_told v_undos v_changed (0 : Int32) v_wents v_wish v_trace, rA (q 7) cI 64 v_read, rA (q 8) cI 64 v_town, rA (q 9) cI 4 (upd (upd (upd (upd v_now z1.toNatClampNeg z2) (1 : Int32).toNatClampNeg (0 : Int32)) (2 : Int32).toNatClampNeg (0 : Int32)) (3 : Int32).toNatClampNeg (-9 : Int32)), rA (q 34) cI 92 v_kept] := hD
    refine lv_aload_n hx hb dX7_takes_74 rfl (lv_at hl 0 rfl) ?_
    refine lv_iconst (v := 0) hx hb dX7_takes_75 (by decide) ?_
    refine va_put (C := RX7) (T := TX7) (N := 34) (v := .int (0 : Int32)) (ty := .int) hx hb hts iw7 tyX7 tyX7_ok nmX7 hown hK hP hD hS 0 rfl rfl 21 (Nat.le_of_ble_eq_true rfl) lk160 (fun _ h9 => h9) rfl (by decide +kernel) rfl rfl (Nat.le_of_ble_eq_true rfl) dX7_takes_76 (fun H locs hP hD hS => ?_)
    have hP : va_P D vwCl [oX7 q v_size v_at v_begin v_token v_told v_undos v_changed (0 : Int32) (0 : Int32) v_wish v_trace, rA (q 7) cI 64 v_read, rA (q 8) cI 64 v_town, rA (q 9) cI 4 (upd (upd (upd (upd v_now z1.toNatClampNeg z2) (1 : Int32).toNatClampNeg (0 : Int32)) (2 : Int32).toNatClampNeg (0 : Int32)) (3 : Int32).toNatClampNeg (-9 : Int32)), rA (q 34) cI 92 v_kept] H := hP
    have hD : va_D A [oX7 q v_size v_at v_begin v_token v_told v_undos v_changed (0 : Int32) (0 : Int32) v_wish v_trace, rA (q 7) cI 64 v_read, rA (q 8) cI 64 v_town, rA (q 9) cI 4 (upd (upd (upd (upd v_now z1.toNatClampNeg z2) (1 : Int32).toNatClampNeg (0 : Int32)) (2 : Int32).toNatClampNeg (0 : Int32)) (3 : Int32).toNatClampNeg (-9 : Int32)), rA (q 34) cI 92 v_kept] := hD
    refine lv_aload_n hx hb dX7_takes_79 rfl (lv_at hl 0 rfl) ?_
    refine lv_iconst (v := 0) hx hb dX7_takes_80 (by decide) ?_
    refine va_put (C := RX7) (T := TX7) (N := 34) (v := .int (0 : Int32)) (ty := .int) hx hb hts iw7 tyX7 tyX7_ok nmX7 hown hK hP hD hS 0 rfl rfl 27 (Nat.le_of_ble_eq_true rfl) lk163 (fun _ h9 => h9) rfl (by decide +kernel) rfl rfl (Nat.le_of_ble_eq_true rfl) dX7_takes_81 (fun H locs hP hD hS => ?_)
    have hP : va_P D vwCl [oX7 q v_size v_at v_begin v_token v_told v_undos v_changed (0 : Int32) (0 : Int32) (0 : Int32) v_trace, rA (q 7) cI 64 v_read, rA (q 8) cI 64 v_town, rA (q 9) cI 4 (upd (upd (upd (upd v_now z1.toNatClampNeg z2) (1 : Int32).toNatClampNeg (0 : Int32)) (2 : Int32).toNatClampNeg (0 : Int32)) (3 : Int32).toNatClampNeg (-9 : Int32)), rA (q 34) cI 92 v_kept] H := hP
    have hD : va_D A [oX7 q v_size v_at v_begin v_token v_told v_undos v_changed (0 : Int32) (0 : Int32) (0 : Int32) v_trace, rA (q 7) cI 64 v_read, rA (q 8) cI 64 v_town, rA (q 9) cI 4 (upd (upd (upd (upd v_now z1.toNatClampNeg z2) (1 : Int32).toNatClampNeg (0 : Int32)) (2 : Int32).toNatClampNeg (0 : Int32)) (3 : Int32).toNatClampNeg (-9 : Int32)), rA (q 34) cI 92 v_kept] := hD
    refine lv_aload_n hx hb dX7_takes_84 rfl (lv_at hl 0 rfl) ?_
    refine lv_iconst (v := 0) hx hb dX7_takes_85 (by decide) ?_
    refine va_put (C := RX7) (T := TX7) (N := 34) (v := .int (0 : Int32)) (ty := .int) hx hb hts iw7 tyX7 tyX7_ok nmX7 hown hK hP hD hS 0 rfl rfl 10 (Nat.le_of_ble_eq_true rfl) lk166 (fun _ h9 => h9) rfl (by decide +kernel) rfl rfl (Nat.le_of_ble_eq_true rfl) dX7_takes_86 (fun H locs hP hD hS => ?_)
    have hP : va_P D vwCl [oX7 q v_size v_at v_begin v_token v_told (0 : Int32) v_changed (0 : Int32) (0 : Int32) (0 : Int32) v_trace, rA (q 7) cI 64 v_read, rA (q 8) cI 64 v_town, rA (q 9) cI 4 (upd (upd (upd (upd v_now z1.toNatClampNeg z2) (1 : Int32).toNatClampNeg (0 : Int32)) (2 : Int32).toNatClampNeg (0 : Int32)) (3 : Int32).toNatClampNeg (-9 : Int32)), rA (q 34) cI 92 v_kept] H := hP
    have hD : va_D A [oX7 q v_size v_at v_begin v_token v_told (0 : Int32) v_changed (0 : Int32) (0 : Int32) (0 : Int32) v_trace, rA (q 7) cI 64 v_read, rA (q 8) cI 64 v_town, rA (q 9) cI 4 (upd (upd (upd (upd v_now z1.toNatClampNeg z2) (1 : Int32).toNatClampNeg (0 : Int32)) (2 : Int32).toNatClampNeg (0 : Int32)) (3 : Int32).toNatClampNeg (-9 : Int32)), rA (q 34) cI 92 v_kept] := hD
    refine lv_aload_n hx hb dX7_takes_89 rfl (lv_at hl 0 rfl) ?_
    refine va_get (C := RX7) (T := TX7) (N := 34) (v := .ref (q 34)) hx hb hts iw7 hown hK hP 0 rfl rfl 33 (Nat.le_of_ble_eq_true rfl) lk76 (fun _ h9 => h9) rfl dX7_takes_90 ?_
    refine lv_iconst (v := 0) hx hb dX7_takes_93 (by decide) ?_
    refine lv_iconst (v := 0) hx hb dX7_takes_94 (by decide) ?_
    obtain ⟨hi5, h⟩ := xb_some h
    refine va_iast hx hb hK hP hD hS 4 0 rfl rfl hi5 dX7_takes_95 (fun H locs hP hD hS => ?_)
    have hP : va_P D vwCl [oX7 q v_size v_at v_begin v_token v_told (0 : Int32) v_changed (0 : Int32) (0 : Int32) (0 : Int32) v_trace, rA (q 7) cI 64 v_read, rA (q 8) cI 64 v_town, rA (q 9) cI 4 (upd (upd (upd (upd v_now z1.toNatClampNeg z2) (1 : Int32).toNatClampNeg (0 : Int32)) (2 : Int32).toNatClampNeg (0 : Int32)) (3 : Int32).toNatClampNeg (-9 : Int32)), rA (q 34) cI 92 (upd v_kept (0 : Int32).toNatClampNeg (0 : Int32))] H := hP
    have hD : va_D A [oX7 q v_size v_at v_begin v_token v_told (0 : Int32) v_changed (0 : Int32) (0 : Int32) (0 : Int32) v_trace, rA (q 7) cI 64 v_read, rA (q 8) cI 64 v_town, rA (q 9) cI 4 (upd (upd (upd (upd v_now z1.toNatClampNeg z2) (1 : Int32).toNatClampNeg (0 : Int32)) (2 : Int32).toNatClampNeg (0 : Int32)) (3 : Int32).toNatClampNeg (-9 : Int32)), rA (q 34) cI 92 (upd v_kept (0 : Int32).toNatClampNeg (0 : Int32))] := hD
    refine lv_aload_n hx hb dX7_takes_96 rfl (lv_at hl 0 rfl) ?_
    refine va_get (C := RX7) (T := TX7) (N := 34) (v := .ref (q 34)) hx hb hts iw7 hown hK hP 0 rfl rfl 33 (Nat.le_of_ble_eq_true rfl) lk76 (fun _ h9 => h9) rfl dX7_takes_97 ?_
    refine lv_bipush (v := 46) hx hb dX7_takes_100 (by decide) ?_
    refine lv_iconst (v := 0) hx hb dX7_takes_102 (by decide) ?_
    obtain ⟨hi6, h⟩ := xb_some h
    refine va_iast hx hb hK hP hD hS 4 0 rfl rfl hi6 dX7_takes_103 (fun H locs hP hD hS => ?_)
    have hP : va_P D vwCl [oX7 q v_size v_at v_begin v_token v_told (0 : Int32) v_changed (0 : Int32) (0 : Int32) (0 : Int32) v_trace, rA (q 7) cI 64 v_read, rA (q 8) cI 64 v_town, rA (q 9) cI 4 (upd (upd (upd (upd v_now z1.toNatClampNeg z2) (1 : Int32).toNatClampNeg (0 : Int32)) (2 : Int32).toNatClampNeg (0 : Int32)) (3 : Int32).toNatClampNeg (-9 : Int32)), rA (q 34) cI 92 (upd (upd v_kept (0 : Int32).toNatClampNeg (0 : Int32)) (46 : Int32).toNatClampNeg (0 : Int32))] H := hP
    have hD : va_D A [oX7 q v_size v_at v_begin v_token v_told (0 : Int32) v_changed (0 : Int32) (0 : Int32) (0 : Int32) v_trace, rA (q 7) cI 64 v_read, rA (q 8) cI 64 v_town, rA (q 9) cI 4 (upd (upd (upd (upd v_now z1.toNatClampNeg z2) (1 : Int32).toNatClampNeg (0 : Int32)) (2 : Int32).toNatClampNeg (0 : Int32)) (3 : Int32).toNatClampNeg (-9 : Int32)), rA (q 34) cI 92 (upd (upd v_kept (0 : Int32).toNatClampNeg (0 : Int32)) (46 : Int32).toNatClampNeg (0 : Int32))] := hD
    exact hret ((v_town, upd (upd (upd (upd v_now z1.toNatClampNeg z2) (1 : Int32).toNatClampNeg (0 : Int32)) (2 : Int32).toNatClampNeg (0 : Int32)) (3 : Int32).toNatClampNeg (-9 : Int32), (0 : Int32), (0 : Int32), (0 : Int32), (0 : Int32), upd (upd v_kept (0 : Int32).toNatClampNeg (0 : Int32)) (46 : Int32).toNatClampNeg (0 : Int32))) H locs _ ls (Option.some.inj h) hP hD hS dX7_takes_104
  have hL2 : ∀ (n2 : Nat), ∀ (v_town : (Nat → Int32)) (v_now : (Nat → Int32)) (v_undos : Int32) (v_felt : Int32) (v_wents : Int32) (v_wish : Int32) (v_kept : (Nat → Int32)) (x1 : Int32) (H : Heap) (locs : List Loc) (ls : Array Slot), f_X7_takes_L2 fu n2 v_read v_town v_now v_undos v_felt v_wents v_wish v_kept x1 = some res → va_P D vwCl [oX7 q v_size v_at v_begin v_token v_told v_undos v_changed v_felt v_wents v_wish v_trace, rA (q 7) cI 64 v_read, rA (q 8) cI 64 v_town, rA (q 9) cI 4 v_now, rA (q 34) cI 92 v_kept] H → va_D A [oX7 q v_size v_at v_begin v_token v_told v_undos v_changed v_felt v_wents v_wish v_trace, rA (q 7) cI 64 v_read, rA (q 8) cI 64 v_town, rA (q 9) cI 4 v_now, rA (q 34) cI 92 v_kept] → va_S A s.heap H locs → lv_has ls 2 [(0, .ref (q 0)), (1, .int x1)] → W p l e rm_X7_takes s m args below meth c H locs 0 0 Q (F0 m 2 ls []) := by
    intro n2
    induction n2 with
    | zero =>
      intro v_town v_now v_undos v_felt v_wents v_wish v_kept x1 H locs ls h hP hD hS hl
      cases (show (none : Option R_X7_takes) = some res from h)
    | succ n2 ih2 =>
      intro v_town v_now v_undos v_felt v_wents v_wish v_kept x1 H locs ls h hP hD hS hl
      have h : f_X7_takes_L2b fu (f_X7_takes_L2 fu n2) v_read v_town v_now v_undos v_felt v_wents v_wish v_kept x1 = some res := h
      unfold f_X7_takes_L2b at h
      refine lv_iload_n hx hb dX7_takes_2 rfl (lv_at hl 1 rfl) ?_
      refine lv_bipush (v := 64) hx hb dX7_takes_3 (by decide) ?_
      refine lv_icmp_ge (tgt := 26) hx hb dX7_takes_5 (by decide) (fun c7 => ?_) (fun c7 => ?_)
      · have h := (if_pos c7).symm.trans h
        refine lv_aload_n hx hb dX7_takes_26 rfl (lv_at hl 0 rfl) ?_
        refine va_get (C := RX7) (T := TX7) (N := 34) (v := .ref (q 9)) hx hb hts iw7 hown hK hP 0 rfl rfl 8 (Nat.le_of_ble_eq_true rfl) lk19 (fun _ h9 => h9) rfl dX7_takes_27 ?_
        refine lv_iconst (v := 0) hx hb dX7_takes_30 (by decide) ?_
        refine lv_aload_n hx hb dX7_takes_31 rfl (lv_at hl 0 rfl) ?_
        refine va_get (C := RX7) (T := TX7) (N := 34) (v := .ref (q 8)) hx hb hts iw7 hown hK hP 0 rfl rfl 7 (Nat.le_of_ble_eq_true rfl) lk16 (fun _ h9 => h9) rfl dX7_takes_32 ?_
        refine lv_iconst (v := 0) hx hb dX7_takes_35 (by decide) ?_
        obtain ⟨hi8, h⟩ := xb_some h
        refine va_iald hx hb hK hP 2 0 rfl rfl hi8 dX7_takes_36 ?_
        refine lv_if_ne (tgt := 45) hx hb dX7_takes_37 (by decide) (fun c9 => ?_) (fun c9 => ?_)
        · have h := (if_neg c9).symm.trans h
          refine lv_iconst (v := 0) hx hb dX7_takes_45 (by decide) ?_
          exact hJ46 v_town v_now v_undos v_felt v_wents v_wish v_kept (0 : Int32) (0 : Int32) H locs ls h hP hD hS (lv_sub hl [0] rfl)
        · have h := (if_pos c9).symm.trans h
          refine lv_bipush (v := (-9)) hx hb dX7_takes_40 (by decide) ?_
          refine lv_goto (tgt := 46) hx hb dX7_takes_42 (by decide) ?_
          exact hJ46 v_town v_now v_undos v_felt v_wents v_wish v_kept (0 : Int32) (-9 : Int32) H locs ls h hP hD hS (lv_sub hl [0] rfl)
      · have h := (if_neg c7).symm.trans h
        refine lv_aload_n hx hb dX7_takes_8 rfl (lv_at hl 0 rfl) ?_
        refine va_get (C := RX7) (T := TX7) (N := 34) (v := .ref (q 8)) hx hb hts iw7 hown hK hP 0 rfl rfl 7 (Nat.le_of_ble_eq_true rfl) lk16 (fun _ h9 => h9) rfl dX7_takes_9 ?_
        refine lv_iload_n hx hb dX7_takes_12 rfl (lv_at hl 1 rfl) ?_
        refine lv_aload_n hx hb dX7_takes_13 rfl (lv_at hl 0 rfl) ?_
        refine va_get (C := RX7) (T := TX7) (N := 34) (v := .ref (q 7)) hx hb hts iw7 hown hK hP 0 rfl rfl 6 (Nat.le_of_ble_eq_true rfl) lk13 (fun _ h9 => h9) rfl dX7_takes_14 ?_
        refine lv_iload_n hx hb dX7_takes_17 rfl (lv_at hl 1 rfl) ?_
        obtain ⟨hi10, h⟩ := xb_some h
        refine va_iald hx hb hK hP 1 0 rfl rfl hi10 dX7_takes_18 ?_
        obtain ⟨hi11, h⟩ := xb_some h
        refine va_iast hx hb hK hP hD hS 2 0 rfl rfl hi11 dX7_takes_19 (fun H locs hP hD hS => ?_)
        have hP : va_P D vwCl [oX7 q v_size v_at v_begin v_token v_told v_undos v_changed v_felt v_wents v_wish v_trace, rA (q 7) cI 64 v_read, rA (q 8) cI 64 (upd v_town x1.toNatClampNeg (v_read x1.toNatClampNeg)), rA (q 9) cI 4 v_now, rA (q 34) cI 92 v_kept] H := hP
        have hD : va_D A [oX7 q v_size v_at v_begin v_token v_told v_undos v_changed v_felt v_wents v_wish v_trace, rA (q 7) cI 64 v_read, rA (q 8) cI 64 (upd v_town x1.toNatClampNeg (v_read x1.toNatClampNeg)), rA (q 9) cI 4 v_now, rA (q 34) cI 92 v_kept] := hD
        refine lv_iinc (v := x1 + 1) (lv' := [(1, .int (x1 + 1)), (0, .ref (q 0))]) hx hb dX7_takes_20 hl (k := 1) rfl rfl (by decide) rfl (fun ls hl => ?_)
        refine lv_goto (tgt := 2) hx hb dX7_takes_23 (by decide) ?_
        exact ih2 (upd v_town x1.toNatClampNeg (v_read x1.toNatClampNeg)) v_now v_undos v_felt v_wents v_wish v_kept (x1 + 1) H locs ls h hP hD hS (lv_sub hl [1, 0] rfl)
  have h := hf
  unfold f_X7_takes at h
  obtain ⟨H, eH⟩ : ∃ H, H = s.heap := ⟨_, rfl⟩
  rw [← eH] at hP ⊢
  obtain ⟨locs, el⟩ : ∃ locs : List Loc, locs = [] := ⟨_, rfl⟩
  rw [← el] at hS ⊢
  have hS : va_S A s.heap H locs := by rw [eH]; exact hS
  refine lv_iconst (v := 0) hx hb dX7_takes_0 (by decide) ?_
  refine lv_istore_n (lv' := [(1, .int (0 : Int32)), (0, .ref (q 0))]) hx hb dX7_takes_1 rfl hl (by decide) rfl (fun ls hl => ?_)
  exact hL2 fu v_town v_now v_undos v_felt v_wents v_wish v_kept (0 : Int32) H locs ls h hP hD hS (lv_sub hl [1, 0] rfl)
abbrev rm_X7_town : Room := { frames := 8, cells := 0, slots := 0, locals := 171 }
set_option maxHeartbeats 4000000 in
set_option maxRecDepth 100000 in
theorem k_X7_town (l : Launch) (D : va_G) (cI cZ cT : ClassId) (q : Nat → Nat) (sz : Nat) (v_size : Int32) (v_at : Int32) (v_begin : Int32) (v_token : Int32) (v_told : Int32) (v_undos : Int32) (v_changed : Int32) (v_felt : Int32) (v_wents : Int32) (v_wish : Int32) (v_trace : Int64) (v_text : Nat → Int32) (v_read : Nat → Int32) (v_town : Nat → Int32) (v_now : Nat → Int32) (v_kept : Nat → Int32) (res : R_X7_town) (fu : Nat) (hf : f_X7_town fu v_text v_size v_at v_begin v_token v_told v_read v_town v_now v_undos v_felt v_wents v_wish v_kept = some res) : Met l yX7_town wsX7_town rm_X7_town (cPre D (tyz cI cZ cT) [.ref (q 0)] sz [oX7 q v_size v_at v_begin v_token v_told v_undos v_changed v_felt v_wents v_wish v_trace, rA (q 1) cI 200 v_text, rA (q 7) cI 64 v_read, rA (q 8) cI 64 v_town, rA (q 9) cI 4 v_now, rA (q 34) cI 92 v_kept]) (cPi D (tyz cI cZ cT) (fun (r : Int32) (u : Int32 × Int32 × Int32 × Int32 × Int32 × (Nat → Int32) × (Nat → Int32) × (Nat → Int32) × Int32 × Int32 × Int32 × Int32 × (Nat → Int32)) => (r, u) = res) (fun u => [oX7 q u.1 u.2.1 u.2.2.1 u.2.2.2.1 u.2.2.2.2.1 u.2.2.2.2.2.2.2.2.1 v_changed u.2.2.2.2.2.2.2.2.2.1 u.2.2.2.2.2.2.2.2.2.2.1 u.2.2.2.2.2.2.2.2.2.2.2.1 v_trace, rA (q 1) cI 200 v_text, rA (q 7) cI 64 u.2.2.2.2.2.1, rA (q 8) cI 64 u.2.2.2.2.2.2.1, rA (q 9) cI 4 u.2.2.2.2.2.2.2.1, rA (q 34) cI 92 u.2.2.2.2.2.2.2.2.2.2.2.2]) [oX7 q v_size v_at v_begin v_token v_told v_undos v_changed v_felt v_wents v_wish v_trace, rA (q 1) cI 200 v_text, rA (q 7) cI 64 v_read, rA (q 8) cI 64 v_town, rA (q 9) cI 4 v_now, rA (q 34) cI 92 v_kept] sz) 0 0 (va_A [oX7 q v_size v_at v_begin v_token v_told v_undos v_changed v_felt v_wents v_wish v_trace, rA (q 1) cI 200 v_text, rA (q 7) cI 64 v_read, rA (q 8) cI 64 v_town, rA (q 9) cI 4 v_now, rA (q 34) cI 92 v_kept] sz) := by
  refine vx_meth_i (by decide) rfl (Nat.le_of_ble_eq_true rfl) ?_
  intro p e s m args below meth c A Q hx hb hml hown hts hK hP hD hA hS hret ls hl
  have hown : s.vm.findClass RX7 = some m.cls := hown
  have hl : lv_has ls 2 [(0, .ref (q 0))] := hl
  have hFx : CallFix p m c cX7_town 2 s args wsX7_town RX7 := ⟨hx, hb, hml, hown, hts⟩
  have lk116 := hts (.fieldLink RX7 116 "FogGuidesModel" "token" "I") (by decide +kernel)
  have iw7 : ∀ w ∈ u_ws RX7 TX7 34, w ∈ wsX7_town := by decide +kernel
  have lk91 := hts (.fieldLink RX7 91 "FogGuidesModel" "size" "I") (by decide +kernel)
  have lk113 := hts (.fieldLink RX7 113 "FogGuidesModel" "begin" "I") (by decide +kernel)
  have lk103 := hts (.fieldLink RX7 103 "FogGuidesModel" "at" "I") (by decide +kernel)
  have hL15 : ∀ (n15 : Nat), ∀ (v_size : Int32) (v_at : Int32) (v_begin : Int32) (v_token : Int32) (v_told : Int32) (v_read : (Nat → Int32)) (v_town : (Nat → Int32)) (v_now : (Nat → Int32)) (v_undos : Int32) (v_felt : Int32) (v_wents : Int32) (v_wish : Int32) (v_kept : (Nat → Int32)) (x1 : Int32) (H : Heap) (locs : List Loc) (ls : Array Slot), f_X7_town_L15 fu n15 v_text v_size v_at v_begin v_token v_told v_read v_town v_now v_undos v_felt v_wents v_wish v_kept x1 = some res → va_P D vwCl [oX7 q v_size v_at v_begin v_token v_told v_undos v_changed v_felt v_wents v_wish v_trace, rA (q 1) cI 200 v_text, rA (q 7) cI 64 v_read, rA (q 8) cI 64 v_town, rA (q 9) cI 4 v_now, rA (q 34) cI 92 v_kept] H → va_D A [oX7 q v_size v_at v_begin v_token v_told v_undos v_changed v_felt v_wents v_wish v_trace, rA (q 1) cI 200 v_text, rA (q 7) cI 64 v_read, rA (q 8) cI 64 v_town, rA (q 9) cI 4 v_now, rA (q 34) cI 92 v_kept] → va_S A s.heap H locs → lv_has ls 2 [(0, .ref (q 0)), (1, .int x1)] → W p l e rm_X7_town s m args below meth c H locs 0 0 Q (F0 m 15 ls []) := by
    intro n15
    induction n15 with
    | zero =>
      intro v_size v_at v_begin v_token v_told v_read v_town v_now v_undos v_felt v_wents v_wish v_kept x1 H locs ls h hP hD hS hl
      cases (show (none : Option R_X7_town) = some res from h)
    | succ n15 ih15 =>
      intro v_size v_at v_begin v_token v_told v_read v_town v_now v_undos v_felt v_wents v_wish v_kept x1 H locs ls h hP hD hS hl
      have h : f_X7_town_L15b fu (f_X7_town_L15 fu n15) v_text v_size v_at v_begin v_token v_told v_read v_town v_now v_undos v_felt v_wents v_wish v_kept x1 = some res := h
      unfold f_X7_town_L15b at h
      refine lv_aload_n hx hb dX7_town_15 rfl (lv_at hl 0 rfl) ?_
      refine va_get (C := RX7) (T := TX7) (N := 34) (v := .int v_token) hx hb hts iw7 hown hK hP 0 rfl rfl 4 (Nat.le_of_ble_eq_true rfl) lk116 (fun _ h9 => h9) rfl dX7_town_16 ?_
      refine lv_if_eq (tgt := 47) hx hb dX7_town_19 (by decide) (fun c1 => ?_) (fun c1 => ?_)
      · have h := (if_pos c1).symm.trans h
        refine lv_aload_n hx hb dX7_town_47 rfl (lv_at hl 0 rfl) ?_
        refine lv_iconst (v := 0) hx hb dX7_town_48 (by decide) ?_
        refine va_put (C := RX7) (T := TX7) (N := 34) (v := .int (0 : Int32)) (ty := .int) hx hb hts iw7 tyX7 tyX7_ok nmX7 hown hK hP hD hS 0 rfl rfl 1 (Nat.le_of_ble_eq_true rfl) lk91 (fun _ h9 => h9) rfl (by decide +kernel) rfl rfl (Nat.le_of_ble_eq_true rfl) dX7_town_49 (fun H locs hP hD hS => ?_)
        have hP : va_P D vwCl [oX7 q (0 : Int32) v_at v_begin v_token v_told v_undos v_changed v_felt v_wents v_wish v_trace, rA (q 1) cI 200 v_text, rA (q 7) cI 64 v_read, rA (q 8) cI 64 v_town, rA (q 9) cI 4 v_now, rA (q 34) cI 92 v_kept] H := hP
        have hD : va_D A [oX7 q (0 : Int32) v_at v_begin v_token v_told v_undos v_changed v_felt v_wents v_wish v_trace, rA (q 1) cI 200 v_text, rA (q 7) cI 64 v_read, rA (q 8) cI 64 v_town, rA (q 9) cI 4 v_now, rA (q 34) cI 92 v_kept] := hD
        refine lv_aload_n hx hb dX7_town_52 rfl (lv_at hl 0 rfl) ?_
        obtain ⟨r2, hr2, h⟩ := xk_some h
        refine vx_VV (As := []) (rest := []) (wr := [rA (q 1) cI 200 v_text]) (wn := [oX7 q (0 : Int32) v_at v_begin v_token v_told r2.2.2.1 v_changed r2.2.2.2.1 r2.2.2.2.2.1 r2.2.2.2.2.2.1 v_trace, rA (q 1) cI 200 v_text, rA (q 7) cI 64 v_read, rA (q 8) cI 64 r2.1, rA (q 9) cI 4 r2.2.1, rA (q 34) cI 92 r2.2.2.2.2.2.2]) hFx (k_X7_takes l D cI cZ cT q H.size (0 : Int32) v_at v_begin v_token v_told v_undos v_changed v_felt v_wents v_wish v_trace v_read v_town v_now v_kept r2 fu hr2) (cwV 0 hts gX7_town_X7_takes rfl rfl rfl (by decide +kernel) ⟨Nat.le_of_ble_eq_true rfl, Nat.le_of_ble_eq_true rfl⟩) hK hP hD hS hA [0, 2, 3, 4, 5] [1] [1, 0, 2, 3, 4, 5] rfl rfl rfl rfl (by decide) rfl rfl 7 0 rfl rfl rfl hl.1 rfl (Nat.le_of_ble_eq_true rfl) dX7_town_53 ⟨Nat.zero_le _, Nat.zero_le _⟩ (fun H locs hP hD hS => ?_)
        refine lv_iload_n hx hb dX7_town_56 rfl (lv_at hl 1 rfl) ?_
        exact hret x1 (((0 : Int32), v_at, v_begin, v_token, v_told, v_read, r2.1, r2.2.1, r2.2.2.1, r2.2.2.2.1, r2.2.2.2.2.1, r2.2.2.2.2.2.1, r2.2.2.2.2.2.2)) H locs _ ls (Option.some.inj h) hP hD hS dX7_town_57
      · have h := (if_neg c1).symm.trans h
        refine lv_aload_n hx hb dX7_town_22 rfl (lv_at hl 0 rfl) ?_
        obtain ⟨r3, hr3, h⟩ := xk_some h
        refine vx_VI (As := []) (rest := []) (wr := [rA (q 8) cI 64 v_town, rA (q 9) cI 4 v_now, rA (q 34) cI 92 v_kept]) (wn := [oX7 q v_size r3.2.1 r3.2.2.1 r3.2.2.2.1 r3.2.2.2.2.1 v_undos v_changed v_felt v_wents v_wish v_trace, rA (q 1) cI 200 v_text, rA (q 7) cI 64 r3.2.2.2.2.2, rA (q 8) cI 64 v_town, rA (q 9) cI 4 v_now, rA (q 34) cI 92 v_kept]) hFx (k_X7_readItem l D cI cZ cT q H.size v_size v_at v_begin v_token v_told v_undos v_changed v_felt v_wents v_wish v_trace v_text v_read r3 fu hr3) (cwV 0 hts gX7_town_X7_readItem rfl rfl rfl (by decide +kernel) ⟨Nat.le_of_ble_eq_true rfl, Nat.le_of_ble_eq_true rfl⟩) hK hP hD hS hA [0, 1, 2] [3, 4, 5] [3, 4, 5, 0, 1, 2] rfl rfl rfl rfl (by decide) rfl rfl 7 0 rfl rfl rfl hl.1 rfl (Nat.le_of_ble_eq_true rfl) dX7_town_23 ⟨Nat.zero_le _, Nat.zero_le _⟩ (fun H locs hP hD hS => ?_)
        refine lv_if_ne (tgt := 37) hx hb dX7_town_26 (by decide) (fun c4 => ?_) (fun c4 => ?_)
        · have h := (if_neg c4).symm.trans h
          refine lv_iinc (v := x1 + 1) (lv' := [(1, .int (x1 + 1)), (0, .ref (q 0))]) hx hb dX7_town_37 hl (k := 1) rfl rfl (by decide) rfl (fun ls hl => ?_)
          refine lv_aload_n hx hb dX7_town_40 rfl (lv_at hl 1 rfl) ?_
          obtain ⟨r5, hr5, h⟩ := xk_some h
          refine vx_VV (As := []) (rest := []) (wr := [rA (q 7) cI 64 r3.2.2.2.2.2, rA (q 8) cI 64 v_town, rA (q 9) cI 4 v_now, rA (q 34) cI 92 v_kept]) (wn := [oX7 q v_size r5.1 r5.2.1 r5.2.2.1 r5.2.2.2 v_undos v_changed v_felt v_wents v_wish v_trace, rA (q 1) cI 200 v_text, rA (q 7) cI 64 r3.2.2.2.2.2, rA (q 8) cI 64 v_town, rA (q 9) cI 4 v_now, rA (q 34) cI 92 v_kept]) hFx (k_X7_reads l D cI cZ cT q H.size v_size r3.2.1 r3.2.2.1 r3.2.2.2.1 r3.2.2.2.2.1 v_undos v_changed v_felt v_wents v_wish v_trace v_text r5 fu hr5) (cwV 0 hts gX7_town_X7_reads rfl rfl rfl (by decide +kernel) ⟨Nat.le_of_ble_eq_true rfl, Nat.le_of_ble_eq_true rfl⟩) hK hP hD hS hA [0, 1] [2, 3, 4, 5] [4, 5, 0, 1, 2, 3] rfl rfl rfl rfl (by decide) rfl rfl 7 0 rfl rfl rfl hl.1 rfl (Nat.le_of_ble_eq_true rfl) dX7_town_41 ⟨Nat.zero_le _, Nat.zero_le _⟩ (fun H locs hP hD hS => ?_)
          refine lv_goto (tgt := 15) hx hb dX7_town_44 (by decide) ?_
          exact ih15 v_size r5.1 r5.2.1 r5.2.2.1 r5.2.2.2 r3.2.2.2.2.2 v_town v_now v_undos v_felt v_wents v_wish v_kept (x1 + 1) H locs ls h hP hD hS (lv_sub hl [1, 0] rfl)
        · have h := (if_pos c4).symm.trans h
          refine lv_bipush (v := (-10)) hx hb dX7_town_29 (by decide) ?_
          refine lv_aload_n hx hb dX7_town_31 rfl (lv_at hl 0 rfl) ?_
          refine va_get (C := RX7) (T := TX7) (N := 34) (v := .int r3.2.2.1) hx hb hts iw7 hown hK hP 0 rfl rfl 3 (Nat.le_of_ble_eq_true rfl) lk113 (fun _ h9 => h9) rfl dX7_town_32 ?_
          refine lv_isub hx hb dX7_town_35 ?_
          exact hret ((-10 : Int32) - r3.2.2.1) (v_size, r3.2.1, r3.2.2.1, r3.2.2.2.1, r3.2.2.2.2.1, r3.2.2.2.2.2, v_town, v_now, v_undos, v_felt, v_wents, v_wish, v_kept) H locs _ ls (Option.some.inj h) hP hD hS dX7_town_36
  have h := hf
  unfold f_X7_town at h
  obtain ⟨H, eH⟩ : ∃ H, H = s.heap := ⟨_, rfl⟩
  rw [← eH] at hP ⊢
  obtain ⟨locs, el⟩ : ∃ locs : List Loc, locs = [] := ⟨_, rfl⟩
  rw [← el] at hS ⊢
  have hS : va_S A s.heap H locs := by rw [eH]; exact hS
  refine lv_aload_n hx hb dX7_town_0 rfl (lv_at hl 0 rfl) ?_
  obtain ⟨r6, hr6, h⟩ := xk_some h
  refine vx_VV (As := []) (rest := []) (wr := [rA (q 1) cI 200 v_text, rA (q 8) cI 64 v_town, rA (q 9) cI 4 v_now, rA (q 34) cI 92 v_kept]) (wn := [oX7 q v_size v_at v_begin v_token v_told v_undos v_changed v_felt v_wents v_wish v_trace, rA (q 1) cI 200 v_text, rA (q 7) cI 64 r6, rA (q 8) cI 64 v_town, rA (q 9) cI 4 v_now, rA (q 34) cI 92 v_kept]) hFx (k_X7_plain l D cI cZ cT q H.size v_size v_at v_begin v_token v_told v_undos v_changed v_felt v_wents v_wish v_trace v_read r6 fu hr6) (cwV 0 hts gX7_town_X7_plain rfl rfl rfl (by decide +kernel) ⟨Nat.le_of_ble_eq_true rfl, Nat.le_of_ble_eq_true rfl⟩) hK hP hD hS hA [0, 2] [1, 3, 4, 5] [4, 0, 5, 1, 2, 3] rfl rfl rfl rfl (by decide) rfl rfl 7 0 rfl rfl rfl hl.1 rfl (Nat.le_of_ble_eq_true rfl) dX7_town_1 ⟨Nat.zero_le _, Nat.zero_le _⟩ (fun H locs hP hD hS => ?_)
  refine lv_aload_n hx hb dX7_town_4 rfl (lv_at hl 0 rfl) ?_
  refine lv_iconst (v := 0) hx hb dX7_town_5 (by decide) ?_
  refine va_put (C := RX7) (T := TX7) (N := 34) (v := .int (0 : Int32)) (ty := .int) hx hb hts iw7 tyX7 tyX7_ok nmX7 hown hK hP hD hS 0 rfl rfl 2 (Nat.le_of_ble_eq_true rfl) lk103 (fun _ h9 => h9) rfl (by decide +kernel) rfl rfl (Nat.le_of_ble_eq_true rfl) dX7_town_6 (fun H locs hP hD hS => ?_)
  have hP : va_P D vwCl [oX7 q v_size (0 : Int32) v_begin v_token v_told v_undos v_changed v_felt v_wents v_wish v_trace, rA (q 1) cI 200 v_text, rA (q 7) cI 64 r6, rA (q 8) cI 64 v_town, rA (q 9) cI 4 v_now, rA (q 34) cI 92 v_kept] H := hP
  have hD : va_D A [oX7 q v_size (0 : Int32) v_begin v_token v_told v_undos v_changed v_felt v_wents v_wish v_trace, rA (q 1) cI 200 v_text, rA (q 7) cI 64 r6, rA (q 8) cI 64 v_town, rA (q 9) cI 4 v_now, rA (q 34) cI 92 v_kept] := hD
  refine lv_iconst (v := 0) hx hb dX7_town_9 (by decide) ?_
  refine lv_istore_n (lv' := [(1, .int (0 : Int32)), (0, .ref (q 0))]) hx hb dX7_town_10 rfl hl (by decide) rfl (fun ls hl => ?_)
  refine lv_aload_n hx hb dX7_town_11 rfl (lv_at hl 1 rfl) ?_
  obtain ⟨r7, hr7, h⟩ := xk_some h
  refine vx_VV (As := []) (rest := []) (wr := [rA (q 7) cI 64 r6, rA (q 8) cI 64 v_town, rA (q 9) cI 4 v_now, rA (q 34) cI 92 v_kept]) (wn := [oX7 q v_size r7.1 r7.2.1 r7.2.2.1 r7.2.2.2 v_undos v_changed v_felt v_wents v_wish v_trace, rA (q 1) cI 200 v_text, rA (q 7) cI 64 r6, rA (q 8) cI 64 v_town, rA (q 9) cI 4 v_now, rA (q 34) cI 92 v_kept]) hFx (k_X7_reads l D cI cZ cT q H.size v_size (0 : Int32) v_begin v_token v_told v_undos v_changed v_felt v_wents v_wish v_trace v_text r7 fu hr7) (cwV 0 hts gX7_town_X7_reads rfl rfl rfl (by decide +kernel) ⟨Nat.le_of_ble_eq_true rfl, Nat.le_of_ble_eq_true rfl⟩) hK hP hD hS hA [0, 1] [2, 3, 4, 5] [4, 5, 0, 1, 2, 3] rfl rfl rfl rfl (by decide) rfl rfl 7 0 rfl rfl rfl hl.1 rfl (Nat.le_of_ble_eq_true rfl) dX7_town_12 ⟨Nat.zero_le _, Nat.zero_le _⟩ (fun H locs hP hD hS => ?_)
  exact hL15 fu v_size r7.1 r7.2.1 r7.2.2.1 r7.2.2.2 r6 v_town v_now v_undos v_felt v_wents v_wish v_kept (0 : Int32) H locs ls h hP hD hS (lv_sub hl [1, 0] rfl)
abbrev rm_X7_isCorner : Room := { frames := 1, cells := 0, slots := 0, locals := 25 }
set_option maxHeartbeats 4000000 in
set_option maxRecDepth 100000 in
theorem k_X7_isCorner (l : Launch) (D : va_G) (cI cZ cT : ClassId) (q : Nat → Nat) (sz : Nat) (v_size : Int32) (v_at : Int32) (v_begin : Int32) (v_token : Int32) (v_told : Int32) (v_undos : Int32) (v_changed : Int32) (v_felt : Int32) (v_wents : Int32) (v_wish : Int32) (v_trace : Int64) (v_town : Nat → Int32) (x1 : Int32) (res : R_X7_isCorner) (hf : f_X7_isCorner v_town x1 = some res) : Met l yX7_isCorner wsX7_isCorner rm_X7_isCorner (cPre D (tyz cI cZ cT) [.ref (q 0), .int x1] sz [oX7 q v_size v_at v_begin v_token v_told v_undos v_changed v_felt v_wents v_wish v_trace, rA (q 8) cI 64 v_town]) (cPi D (tyz cI cZ cT) (fun (r : Int32) (_ : Unit) => r = res) (fun _ => [oX7 q v_size v_at v_begin v_token v_told v_undos v_changed v_felt v_wents v_wish v_trace, rA (q 8) cI 64 v_town]) [oX7 q v_size v_at v_begin v_token v_told v_undos v_changed v_felt v_wents v_wish v_trace, rA (q 8) cI 64 v_town] sz) 0 0 (va_A [oX7 q v_size v_at v_begin v_token v_told v_undos v_changed v_felt v_wents v_wish v_trace, rA (q 8) cI 64 v_town] sz) := by
  refine vx_meth_z (by decide) rfl (Nat.le_of_ble_eq_true rfl) ?_
  intro p e s m args below meth c A Q hx hb hml hown hts hK hP hD hA hS hret ls hl
  have hown : s.vm.findClass RX7 = some m.cls := hown
  have hl : lv_has ls 2 [(0, .ref (q 0)), (1, .int x1)] := hl
  have hFx : CallFix p m c cX7_isCorner 2 s args wsX7_isCorner RX7 := ⟨hx, hb, hml, hown, hts⟩
  have lk16 := hts (.fieldLink RX7 16 "FogGuidesModel" "town" "[I") (by decide +kernel)
  have iw7 : ∀ w ∈ u_ws RX7 TX7 34, w ∈ wsX7_isCorner := by decide +kernel
  have h := hf
  unfold f_X7_isCorner at h
  obtain ⟨H, eH⟩ : ∃ H, H = s.heap := ⟨_, rfl⟩
  rw [← eH] at hP ⊢
  obtain ⟨locs, el⟩ : ∃ locs : List Loc, locs = [] := ⟨_, rfl⟩
  rw [← el] at hS ⊢
  have hS : va_S A s.heap H locs := by rw [eH]; exact hS
  refine lv_iload_n hx hb dX7_isCorner_0 rfl (lv_at hl 1 rfl) ?_
  refine lv_i2l hx hb dX7_isCorner_1 rfl ?_
  refine lv_lconst (v := 0) hx hb dX7_isCorner_2 (by decide) ?_
  refine lv_aload_n hx hb dX7_isCorner_3 rfl (lv_at hl 0 rfl) ?_
  refine va_get (C := RX7) (T := TX7) (N := 34) (v := .ref (q 8)) hx hb hts iw7 hown hK hP 0 rfl rfl 7 (Nat.le_of_ble_eq_true rfl) lk16 (fun _ h9 => h9) rfl dX7_isCorner_4 ?_
  refine lv_iconst (v := 0) hx hb dX7_isCorner_7 (by decide) ?_
  obtain ⟨hi1, h⟩ := xb_some h
  refine va_iald hx hb hK hP 1 0 rfl rfl hi1 dX7_isCorner_8 ?_
  refine lv_iconst (v := 1) hx hb dX7_isCorner_9 (by decide) ?_
  refine lv_isub hx hb dX7_isCorner_10 ?_
  refine lv_i2l hx hb dX7_isCorner_11 rfl ?_
  obtain ⟨r2, hr2, h⟩ := xk_some h
  refine vx_SJ (As := [.long x1.toInt64, .long (0 : Int64), .long (((v_town (0 : Int32).toNatClampNeg) - (1 : Int32)).toInt64)]) (rest := []) hFx (k_X7_in l D cI cZ cT H.size x1.toInt64 (0 : Int64) (((v_town (0 : Int32).toNatClampNeg) - (1 : Int32)).toInt64) r2 hr2) (vx_cwS 3 hts gX7_isCorner_X7_in rfl rfl rfl (by decide +kernel) ⟨Nat.le_of_ble_eq_true rfl, Nat.le_of_ble_eq_true rfl⟩) hK hP hD hS hA rfl hl.1 rfl (Nat.le_of_ble_eq_true rfl) dX7_isCorner_12 ⟨Nat.zero_le _, Nat.zero_le _⟩ (fun H locs hP hS => ?_)
  obtain ⟨hz3, h⟩ := xz_some h
  exact hret r2 () H locs _ ls hz3 (Option.some.inj h) hP hD hS dX7_isCorner_15
abbrev rm_X7_isStreet : Room := { frames := 1, cells := 0, slots := 0, locals := 25 }
set_option maxHeartbeats 4000000 in
set_option maxRecDepth 100000 in
theorem k_X7_isStreet (l : Launch) (D : va_G) (cI cZ cT : ClassId) (q : Nat → Nat) (sz : Nat) (v_size : Int32) (v_at : Int32) (v_begin : Int32) (v_token : Int32) (v_told : Int32) (v_undos : Int32) (v_changed : Int32) (v_felt : Int32) (v_wents : Int32) (v_wish : Int32) (v_trace : Int64) (v_town : Nat → Int32) (x1 : Int32) (res : R_X7_isStreet) (hf : f_X7_isStreet v_town x1 = some res) : Met l yX7_isStreet wsX7_isStreet rm_X7_isStreet (cPre D (tyz cI cZ cT) [.ref (q 0), .int x1] sz [oX7 q v_size v_at v_begin v_token v_told v_undos v_changed v_felt v_wents v_wish v_trace, rA (q 8) cI 64 v_town]) (cPi D (tyz cI cZ cT) (fun (r : Int32) (_ : Unit) => r = res) (fun _ => [oX7 q v_size v_at v_begin v_token v_told v_undos v_changed v_felt v_wents v_wish v_trace, rA (q 8) cI 64 v_town]) [oX7 q v_size v_at v_begin v_token v_told v_undos v_changed v_felt v_wents v_wish v_trace, rA (q 8) cI 64 v_town] sz) 0 0 (va_A [oX7 q v_size v_at v_begin v_token v_told v_undos v_changed v_felt v_wents v_wish v_trace, rA (q 8) cI 64 v_town] sz) := by
  refine vx_meth_z (by decide) rfl (Nat.le_of_ble_eq_true rfl) ?_
  intro p e s m args below meth c A Q hx hb hml hown hts hK hP hD hA hS hret ls hl
  have hown : s.vm.findClass RX7 = some m.cls := hown
  have hl : lv_has ls 2 [(0, .ref (q 0)), (1, .int x1)] := hl
  have hFx : CallFix p m c cX7_isStreet 2 s args wsX7_isStreet RX7 := ⟨hx, hb, hml, hown, hts⟩
  have lk16 := hts (.fieldLink RX7 16 "FogGuidesModel" "town" "[I") (by decide +kernel)
  have iw7 : ∀ w ∈ u_ws RX7 TX7 34, w ∈ wsX7_isStreet := by decide +kernel
  have h := hf
  unfold f_X7_isStreet at h
  obtain ⟨H, eH⟩ : ∃ H, H = s.heap := ⟨_, rfl⟩
  rw [← eH] at hP ⊢
  obtain ⟨locs, el⟩ : ∃ locs : List Loc, locs = [] := ⟨_, rfl⟩
  rw [← el] at hS ⊢
  have hS : va_S A s.heap H locs := by rw [eH]; exact hS
  refine lv_iload_n hx hb dX7_isStreet_0 rfl (lv_at hl 1 rfl) ?_
  refine lv_i2l hx hb dX7_isStreet_1 rfl ?_
  refine lv_lconst (v := 0) hx hb dX7_isStreet_2 (by decide) ?_
  refine lv_aload_n hx hb dX7_isStreet_3 rfl (lv_at hl 0 rfl) ?_
  refine va_get (C := RX7) (T := TX7) (N := 34) (v := .ref (q 8)) hx hb hts iw7 hown hK hP 0 rfl rfl 7 (Nat.le_of_ble_eq_true rfl) lk16 (fun _ h9 => h9) rfl dX7_isStreet_4 ?_
  refine lv_iconst (v := 1) hx hb dX7_isStreet_7 (by decide) ?_
  obtain ⟨hi1, h⟩ := xb_some h
  refine va_iald hx hb hK hP 1 0 rfl rfl hi1 dX7_isStreet_8 ?_
  refine lv_iconst (v := 1) hx hb dX7_isStreet_9 (by decide) ?_
  refine lv_isub hx hb dX7_isStreet_10 ?_
  refine lv_i2l hx hb dX7_isStreet_11 rfl ?_
  obtain ⟨r2, hr2, h⟩ := xk_some h
  refine vx_SJ (As := [.long x1.toInt64, .long (0 : Int64), .long (((v_town (1 : Int32).toNatClampNeg) - (1 : Int32)).toInt64)]) (rest := []) hFx (k_X7_in l D cI cZ cT H.size x1.toInt64 (0 : Int64) (((v_town (1 : Int32).toNatClampNeg) - (1 : Int32)).toInt64) r2 hr2) (vx_cwS 3 hts gX7_isStreet_X7_in rfl rfl rfl (by decide +kernel) ⟨Nat.le_of_ble_eq_true rfl, Nat.le_of_ble_eq_true rfl⟩) hK hP hD hS hA rfl hl.1 rfl (Nat.le_of_ble_eq_true rfl) dX7_isStreet_12 ⟨Nat.zero_le _, Nat.zero_le _⟩ (fun H locs hP hS => ?_)
  obtain ⟨hz3, h⟩ := xz_some h
  exact hret r2 () H locs _ ls hz3 (Option.some.inj h) hP hD hS dX7_isStreet_15
abbrev rm_X7_isGuide : Room := { frames := 1, cells := 0, slots := 0, locals := 25 }
set_option maxHeartbeats 4000000 in
set_option maxRecDepth 100000 in
theorem k_X7_isGuide (l : Launch) (D : va_G) (cI cZ cT : ClassId) (q : Nat → Nat) (sz : Nat) (v_size : Int32) (v_at : Int32) (v_begin : Int32) (v_token : Int32) (v_told : Int32) (v_undos : Int32) (v_changed : Int32) (v_felt : Int32) (v_wents : Int32) (v_wish : Int32) (v_trace : Int64) (v_town : Nat → Int32) (x1 : Int32) (res : R_X7_isGuide) (hf : f_X7_isGuide v_town x1 = some res) : Met l yX7_isGuide wsX7_isGuide rm_X7_isGuide (cPre D (tyz cI cZ cT) [.ref (q 0), .int x1] sz [oX7 q v_size v_at v_begin v_token v_told v_undos v_changed v_felt v_wents v_wish v_trace, rA (q 8) cI 64 v_town]) (cPi D (tyz cI cZ cT) (fun (r : Int32) (_ : Unit) => r = res) (fun _ => [oX7 q v_size v_at v_begin v_token v_told v_undos v_changed v_felt v_wents v_wish v_trace, rA (q 8) cI 64 v_town]) [oX7 q v_size v_at v_begin v_token v_told v_undos v_changed v_felt v_wents v_wish v_trace, rA (q 8) cI 64 v_town] sz) 0 0 (va_A [oX7 q v_size v_at v_begin v_token v_told v_undos v_changed v_felt v_wents v_wish v_trace, rA (q 8) cI 64 v_town] sz) := by
  refine vx_meth_z (by decide) rfl (Nat.le_of_ble_eq_true rfl) ?_
  intro p e s m args below meth c A Q hx hb hml hown hts hK hP hD hA hS hret ls hl
  have hown : s.vm.findClass RX7 = some m.cls := hown
  have hl : lv_has ls 2 [(0, .ref (q 0)), (1, .int x1)] := hl
  have hFx : CallFix p m c cX7_isGuide 2 s args wsX7_isGuide RX7 := ⟨hx, hb, hml, hown, hts⟩
  have lk16 := hts (.fieldLink RX7 16 "FogGuidesModel" "town" "[I") (by decide +kernel)
  have iw7 : ∀ w ∈ u_ws RX7 TX7 34, w ∈ wsX7_isGuide := by decide +kernel
  have h := hf
  unfold f_X7_isGuide at h
  obtain ⟨H, eH⟩ : ∃ H, H = s.heap := ⟨_, rfl⟩
  rw [← eH] at hP ⊢
  obtain ⟨locs, el⟩ : ∃ locs : List Loc, locs = [] := ⟨_, rfl⟩
  rw [← el] at hS ⊢
  have hS : va_S A s.heap H locs := by rw [eH]; exact hS
  refine lv_iload_n hx hb dX7_isGuide_0 rfl (lv_at hl 1 rfl) ?_
  refine lv_i2l hx hb dX7_isGuide_1 rfl ?_
  refine lv_lconst (v := 0) hx hb dX7_isGuide_2 (by decide) ?_
  refine lv_aload_n hx hb dX7_isGuide_3 rfl (lv_at hl 0 rfl) ?_
  refine va_get (C := RX7) (T := TX7) (N := 34) (v := .ref (q 8)) hx hb hts iw7 hown hK hP 0 rfl rfl 7 (Nat.le_of_ble_eq_true rfl) lk16 (fun _ h9 => h9) rfl dX7_isGuide_4 ?_
  refine lv_iconst (v := 2) hx hb dX7_isGuide_7 (by decide) ?_
  obtain ⟨hi1, h⟩ := xb_some h
  refine va_iald hx hb hK hP 1 0 rfl rfl hi1 dX7_isGuide_8 ?_
  refine lv_iconst (v := 1) hx hb dX7_isGuide_9 (by decide) ?_
  refine lv_isub hx hb dX7_isGuide_10 ?_
  refine lv_i2l hx hb dX7_isGuide_11 rfl ?_
  obtain ⟨r2, hr2, h⟩ := xk_some h
  refine vx_SJ (As := [.long x1.toInt64, .long (0 : Int64), .long (((v_town (2 : Int32).toNatClampNeg) - (1 : Int32)).toInt64)]) (rest := []) hFx (k_X7_in l D cI cZ cT H.size x1.toInt64 (0 : Int64) (((v_town (2 : Int32).toNatClampNeg) - (1 : Int32)).toInt64) r2 hr2) (vx_cwS 3 hts gX7_isGuide_X7_in rfl rfl rfl (by decide +kernel) ⟨Nat.le_of_ble_eq_true rfl, Nat.le_of_ble_eq_true rfl⟩) hK hP hD hS hA rfl hl.1 rfl (Nat.le_of_ble_eq_true rfl) dX7_isGuide_12 ⟨Nat.zero_le _, Nat.zero_le _⟩ (fun H locs hP hS => ?_)
  obtain ⟨hz3, h⟩ := xz_some h
  exact hret r2 () H locs _ ls hz3 (Option.some.inj h) hP hD hS dX7_isGuide_15
abbrev rm_X7_pace : Room := { frames := 0, cells := 0, slots := 0, locals := 0 }
set_option maxHeartbeats 4000000 in
set_option maxRecDepth 100000 in
theorem k_X7_pace (l : Launch) (D : va_G) (cI cZ cT : ClassId) (q : Nat → Nat) (sz : Nat) (v_size : Int32) (v_at : Int32) (v_begin : Int32) (v_token : Int32) (v_told : Int32) (v_undos : Int32) (v_changed : Int32) (v_felt : Int32) (v_wents : Int32) (v_wish : Int32) (v_trace : Int64) (v_town : Nat → Int32) (x1 : Int32) (res : R_X7_pace) (hf : f_X7_pace v_town x1 = some res) : Met l yX7_pace wsX7_pace rm_X7_pace (cPre D (tyz cI cZ cT) [.ref (q 0), .int x1] sz [oX7 q v_size v_at v_begin v_token v_told v_undos v_changed v_felt v_wents v_wish v_trace, rA (q 8) cI 64 v_town]) (cPi D (tyz cI cZ cT) (fun (r : Int32) (_ : Unit) => r = res) (fun _ => [oX7 q v_size v_at v_begin v_token v_told v_undos v_changed v_felt v_wents v_wish v_trace, rA (q 8) cI 64 v_town]) [oX7 q v_size v_at v_begin v_token v_told v_undos v_changed v_felt v_wents v_wish v_trace, rA (q 8) cI 64 v_town] sz) 0 0 (va_A [oX7 q v_size v_at v_begin v_token v_told v_undos v_changed v_felt v_wents v_wish v_trace, rA (q 8) cI 64 v_town] sz) := by
  refine vx_meth_i (by decide) rfl (Nat.le_of_ble_eq_true rfl) ?_
  intro p e s m args below meth c A Q hx hb hml hown hts hK hP hD hA hS hret ls hl
  have hown : s.vm.findClass RX7 = some m.cls := hown
  have hl : lv_has ls 2 [(0, .ref (q 0)), (1, .int x1)] := hl
  have hFx : CallFix p m c cX7_pace 2 s args wsX7_pace RX7 := ⟨hx, hb, hml, hown, hts⟩
  have lk16 := hts (.fieldLink RX7 16 "FogGuidesModel" "town" "[I") (by decide +kernel)
  have iw7 : ∀ w ∈ u_ws RX7 TX7 34, w ∈ wsX7_pace := by decide +kernel
  have h := hf
  unfold f_X7_pace at h
  obtain ⟨H, eH⟩ : ∃ H, H = s.heap := ⟨_, rfl⟩
  rw [← eH] at hP ⊢
  obtain ⟨locs, el⟩ : ∃ locs : List Loc, locs = [] := ⟨_, rfl⟩
  rw [← el] at hS ⊢
  have hS : va_S A s.heap H locs := by rw [eH]; exact hS
  refine lv_aload_n hx hb dX7_pace_0 rfl (lv_at hl 0 rfl) ?_
  refine va_get (C := RX7) (T := TX7) (N := 34) (v := .ref (q 8)) hx hb hts iw7 hown hK hP 0 rfl rfl 7 (Nat.le_of_ble_eq_true rfl) lk16 (fun _ h9 => h9) rfl dX7_pace_1 ?_
  refine lv_bipush (v := 40) hx hb dX7_pace_4 (by decide) ?_
  refine lv_iconst (v := 4) hx hb dX7_pace_6 (by decide) ?_
  refine lv_iload_n hx hb dX7_pace_7 rfl (lv_at hl 1 rfl) ?_
  refine lv_imul hx hb dX7_pace_8 ?_
  refine lv_iadd hx hb dX7_pace_9 ?_
  obtain ⟨hi1, h⟩ := xb_some h
  refine va_iald hx hb hK hP 1 0 rfl rfl hi1 dX7_pace_10 ?_
  exact hret (v_town ((40 : Int32) + ((4 : Int32) * x1)).toNatClampNeg) () H locs _ ls (Option.some.inj h) hP hD hS dX7_pace_11
abbrev rm_X7_fee : Room := { frames := 0, cells := 0, slots := 0, locals := 0 }
set_option maxHeartbeats 4000000 in
set_option maxRecDepth 100000 in
theorem k_X7_fee (l : Launch) (D : va_G) (cI cZ cT : ClassId) (q : Nat → Nat) (sz : Nat) (v_size : Int32) (v_at : Int32) (v_begin : Int32) (v_token : Int32) (v_told : Int32) (v_undos : Int32) (v_changed : Int32) (v_felt : Int32) (v_wents : Int32) (v_wish : Int32) (v_trace : Int64) (v_town : Nat → Int32) (x1 : Int32) (res : R_X7_fee) (hf : f_X7_fee v_town x1 = some res) : Met l yX7_fee wsX7_fee rm_X7_fee (cPre D (tyz cI cZ cT) [.ref (q 0), .int x1] sz [oX7 q v_size v_at v_begin v_token v_told v_undos v_changed v_felt v_wents v_wish v_trace, rA (q 8) cI 64 v_town]) (cPi D (tyz cI cZ cT) (fun (r : Int32) (_ : Unit) => r = res) (fun _ => [oX7 q v_size v_at v_begin v_token v_told v_undos v_changed v_felt v_wents v_wish v_trace, rA (q 8) cI 64 v_town]) [oX7 q v_size v_at v_begin v_token v_told v_undos v_changed v_felt v_wents v_wish v_trace, rA (q 8) cI 64 v_town] sz) 0 0 (va_A [oX7 q v_size v_at v_begin v_token v_told v_undos v_changed v_felt v_wents v_wish v_trace, rA (q 8) cI 64 v_town] sz) := by
  refine vx_meth_i (by decide) rfl (Nat.le_of_ble_eq_true rfl) ?_
  intro p e s m args below meth c A Q hx hb hml hown hts hK hP hD hA hS hret ls hl
  have hown : s.vm.findClass RX7 = some m.cls := hown
  have hl : lv_has ls 2 [(0, .ref (q 0)), (1, .int x1)] := hl
  have hFx : CallFix p m c cX7_fee 2 s args wsX7_fee RX7 := ⟨hx, hb, hml, hown, hts⟩
  have lk16 := hts (.fieldLink RX7 16 "FogGuidesModel" "town" "[I") (by decide +kernel)
  have iw7 : ∀ w ∈ u_ws RX7 TX7 34, w ∈ wsX7_fee := by decide +kernel
  have h := hf
  unfold f_X7_fee at h
  obtain ⟨H, eH⟩ : ∃ H, H = s.heap := ⟨_, rfl⟩
  rw [← eH] at hP ⊢
  obtain ⟨locs, el⟩ : ∃ locs : List Loc, locs = [] := ⟨_, rfl⟩
  rw [← el] at hS ⊢
  have hS : va_S A s.heap H locs := by rw [eH]; exact hS
  refine lv_aload_n hx hb dX7_fee_0 rfl (lv_at hl 0 rfl) ?_
  refine va_get (C := RX7) (T := TX7) (N := 34) (v := .ref (q 8)) hx hb hts iw7 hown hK hP 0 rfl rfl 7 (Nat.le_of_ble_eq_true rfl) lk16 (fun _ h9 => h9) rfl dX7_fee_1 ?_
  refine lv_bipush (v := 40) hx hb dX7_fee_4 (by decide) ?_
  refine lv_iconst (v := 4) hx hb dX7_fee_6 (by decide) ?_
  refine lv_iload_n hx hb dX7_fee_7 rfl (lv_at hl 1 rfl) ?_
  refine lv_imul hx hb dX7_fee_8 ?_
  refine lv_iadd hx hb dX7_fee_9 ?_
  refine lv_iconst (v := 1) hx hb dX7_fee_10 (by decide) ?_
  refine lv_iadd hx hb dX7_fee_11 ?_
  obtain ⟨hi1, h⟩ := xb_some h
  refine va_iald hx hb hK hP 1 0 rfl rfl hi1 dX7_fee_12 ?_
  exact hret (v_town (((40 : Int32) + ((4 : Int32) * x1)) + (1 : Int32)).toNatClampNeg) () H locs _ ls (Option.some.inj h) hP hD hS dX7_fee_13
abbrev rm_X7_known : Room := { frames := 0, cells := 0, slots := 0, locals := 0 }
set_option maxHeartbeats 4000000 in
set_option maxRecDepth 100000 in
theorem k_X7_known (l : Launch) (D : va_G) (cI cZ cT : ClassId) (q : Nat → Nat) (sz : Nat) (v_size : Int32) (v_at : Int32) (v_begin : Int32) (v_token : Int32) (v_told : Int32) (v_undos : Int32) (v_changed : Int32) (v_felt : Int32) (v_wents : Int32) (v_wish : Int32) (v_trace : Int64) (v_town : Nat → Int32) (x1 : Int32) (res : R_X7_known) (hf : f_X7_known v_town x1 = some res) : Met l yX7_known wsX7_known rm_X7_known (cPre D (tyz cI cZ cT) [.ref (q 0), .int x1] sz [oX7 q v_size v_at v_begin v_token v_told v_undos v_changed v_felt v_wents v_wish v_trace, rA (q 8) cI 64 v_town]) (cPi D (tyz cI cZ cT) (fun (r : Int32) (_ : Unit) => r = res) (fun _ => [oX7 q v_size v_at v_begin v_token v_told v_undos v_changed v_felt v_wents v_wish v_trace, rA (q 8) cI 64 v_town]) [oX7 q v_size v_at v_begin v_token v_told v_undos v_changed v_felt v_wents v_wish v_trace, rA (q 8) cI 64 v_town] sz) 0 0 (va_A [oX7 q v_size v_at v_begin v_token v_told v_undos v_changed v_felt v_wents v_wish v_trace, rA (q 8) cI 64 v_town] sz) := by
  refine vx_meth_i (by decide) rfl (Nat.le_of_ble_eq_true rfl) ?_
  intro p e s m args below meth c A Q hx hb hml hown hts hK hP hD hA hS hret ls hl
  have hown : s.vm.findClass RX7 = some m.cls := hown
  have hl : lv_has ls 2 [(0, .ref (q 0)), (1, .int x1)] := hl
  have hFx : CallFix p m c cX7_known 2 s args wsX7_known RX7 := ⟨hx, hb, hml, hown, hts⟩
  have lk16 := hts (.fieldLink RX7 16 "FogGuidesModel" "town" "[I") (by decide +kernel)
  have iw7 : ∀ w ∈ u_ws RX7 TX7 34, w ∈ wsX7_known := by decide +kernel
  have h := hf
  unfold f_X7_known at h
  obtain ⟨H, eH⟩ : ∃ H, H = s.heap := ⟨_, rfl⟩
  rw [← eH] at hP ⊢
  obtain ⟨locs, el⟩ : ∃ locs : List Loc, locs = [] := ⟨_, rfl⟩
  rw [← el] at hS ⊢
  have hS : va_S A s.heap H locs := by rw [eH]; exact hS
  refine lv_aload_n hx hb dX7_known_0 rfl (lv_at hl 0 rfl) ?_
  refine va_get (C := RX7) (T := TX7) (N := 34) (v := .ref (q 8)) hx hb hts iw7 hown hK hP 0 rfl rfl 7 (Nat.le_of_ble_eq_true rfl) lk16 (fun _ h9 => h9) rfl dX7_known_1 ?_
  refine lv_bipush (v := 40) hx hb dX7_known_4 (by decide) ?_
  refine lv_iconst (v := 4) hx hb dX7_known_6 (by decide) ?_
  refine lv_iload_n hx hb dX7_known_7 rfl (lv_at hl 1 rfl) ?_
  refine lv_imul hx hb dX7_known_8 ?_
  refine lv_iadd hx hb dX7_known_9 ?_
  refine lv_iconst (v := 2) hx hb dX7_known_10 (by decide) ?_
  refine lv_iadd hx hb dX7_known_11 ?_
  obtain ⟨hi1, h⟩ := xb_some h
  refine va_iald hx hb hK hP 1 0 rfl rfl hi1 dX7_known_12 ?_
  refine lv_iconst (v := 1) hx hb dX7_known_13 (by decide) ?_
  refine lv_aload_n hx hb dX7_known_14 rfl (lv_at hl 0 rfl) ?_
  refine va_get (C := RX7) (T := TX7) (N := 34) (v := .ref (q 8)) hx hb hts iw7 hown hK hP 0 rfl rfl 7 (Nat.le_of_ble_eq_true rfl) lk16 (fun _ h9 => h9) rfl dX7_known_15 ?_
  refine lv_iconst (v := 1) hx hb dX7_known_18 (by decide) ?_
  obtain ⟨hi2, h⟩ := xb_some h
  refine va_iald hx hb hK hP 1 0 rfl rfl hi2 dX7_known_19 ?_
  refine lv_ishl hx hb dX7_known_20 ?_
  refine lv_iconst (v := 1) hx hb dX7_known_21 (by decide) ?_
  refine lv_isub hx hb dX7_known_22 ?_
  refine lv_iand hx hb dX7_known_23 ?_
  exact hret ((v_town (((40 : Int32) + ((4 : Int32) * x1)) + (2 : Int32)).toNatClampNeg) &&& (((1 : Int32) <<< ((v_town (1 : Int32).toNatClampNeg) &&& 31)) - (1 : Int32))) () H locs _ ls (Option.some.inj h) hP hD hS dX7_known_24
abbrev rm_X7_his : Room := { frames := 0, cells := 0, slots := 0, locals := 0 }
set_option maxHeartbeats 4000000 in
set_option maxRecDepth 100000 in
theorem k_X7_his (l : Launch) (D : va_G) (cI cZ cT : ClassId) (q : Nat → Nat) (sz : Nat) (v_size : Int32) (v_at : Int32) (v_begin : Int32) (v_token : Int32) (v_told : Int32) (v_undos : Int32) (v_changed : Int32) (v_felt : Int32) (v_wents : Int32) (v_wish : Int32) (v_trace : Int64) (v_town : Nat → Int32) (x1 : Int32) (res : R_X7_his) (hf : f_X7_his v_town x1 = some res) : Met l yX7_his wsX7_his rm_X7_his (cPre D (tyz cI cZ cT) [.ref (q 0), .int x1] sz [oX7 q v_size v_at v_begin v_token v_told v_undos v_changed v_felt v_wents v_wish v_trace, rA (q 8) cI 64 v_town]) (cPi D (tyz cI cZ cT) (fun (r : Int32) (_ : Unit) => r = res) (fun _ => [oX7 q v_size v_at v_begin v_token v_told v_undos v_changed v_felt v_wents v_wish v_trace, rA (q 8) cI 64 v_town]) [oX7 q v_size v_at v_begin v_token v_told v_undos v_changed v_felt v_wents v_wish v_trace, rA (q 8) cI 64 v_town] sz) 0 0 (va_A [oX7 q v_size v_at v_begin v_token v_told v_undos v_changed v_felt v_wents v_wish v_trace, rA (q 8) cI 64 v_town] sz) := by
  refine vx_meth_i (by decide) rfl (Nat.le_of_ble_eq_true rfl) ?_
  intro p e s m args below meth c A Q hx hb hml hown hts hK hP hD hA hS hret ls hl
  have hown : s.vm.findClass RX7 = some m.cls := hown
  have hl : lv_has ls 2 [(0, .ref (q 0)), (1, .int x1)] := hl
  have hFx : CallFix p m c cX7_his 2 s args wsX7_his RX7 := ⟨hx, hb, hml, hown, hts⟩
  have lk16 := hts (.fieldLink RX7 16 "FogGuidesModel" "town" "[I") (by decide +kernel)
  have iw7 : ∀ w ∈ u_ws RX7 TX7 34, w ∈ wsX7_his := by decide +kernel
  have h := hf
  unfold f_X7_his at h
  obtain ⟨H, eH⟩ : ∃ H, H = s.heap := ⟨_, rfl⟩
  rw [← eH] at hP ⊢
  obtain ⟨locs, el⟩ : ∃ locs : List Loc, locs = [] := ⟨_, rfl⟩
  rw [← el] at hS ⊢
  have hS : va_S A s.heap H locs := by rw [eH]; exact hS
  refine lv_aload_n hx hb dX7_his_0 rfl (lv_at hl 0 rfl) ?_
  refine va_get (C := RX7) (T := TX7) (N := 34) (v := .ref (q 8)) hx hb hts iw7 hown hK hP 0 rfl rfl 7 (Nat.le_of_ble_eq_true rfl) lk16 (fun _ h9 => h9) rfl dX7_his_1 ?_
  refine lv_bipush (v := 40) hx hb dX7_his_4 (by decide) ?_
  refine lv_iconst (v := 4) hx hb dX7_his_6 (by decide) ?_
  refine lv_iload_n hx hb dX7_his_7 rfl (lv_at hl 1 rfl) ?_
  refine lv_imul hx hb dX7_his_8 ?_
  refine lv_iadd hx hb dX7_his_9 ?_
  refine lv_iconst (v := 3) hx hb dX7_his_10 (by decide) ?_
  refine lv_iadd hx hb dX7_his_11 ?_
  obtain ⟨hi1, h⟩ := xb_some h
  refine va_iald hx hb hK hP 1 0 rfl rfl hi1 dX7_his_12 ?_
  refine lv_iconst (v := 1) hx hb dX7_his_13 (by decide) ?_
  refine lv_aload_n hx hb dX7_his_14 rfl (lv_at hl 0 rfl) ?_
  refine va_get (C := RX7) (T := TX7) (N := 34) (v := .ref (q 8)) hx hb hts iw7 hown hK hP 0 rfl rfl 7 (Nat.le_of_ble_eq_true rfl) lk16 (fun _ h9 => h9) rfl dX7_his_15 ?_
  refine lv_iconst (v := 0) hx hb dX7_his_18 (by decide) ?_
  obtain ⟨hi2, h⟩ := xb_some h
  refine va_iald hx hb hK hP 1 0 rfl rfl hi2 dX7_his_19 ?_
  refine lv_ishl hx hb dX7_his_20 ?_
  refine lv_iconst (v := 1) hx hb dX7_his_21 (by decide) ?_
  refine lv_isub hx hb dX7_his_22 ?_
  refine lv_iand hx hb dX7_his_23 ?_
  exact hret ((v_town (((40 : Int32) + ((4 : Int32) * x1)) + (3 : Int32)).toNatClampNeg) &&& (((1 : Int32) <<< ((v_town (0 : Int32).toNatClampNeg) &&& 31)) - (1 : Int32))) () H locs _ ls (Option.some.inj h) hP hD hS dX7_his_24
abbrev rm_X7_isHis : Room := { frames := 1, cells := 0, slots := 0, locals := 21 }
set_option maxHeartbeats 4000000 in
set_option maxRecDepth 100000 in
theorem k_X7_isHis (l : Launch) (D : va_G) (cI cZ cT : ClassId) (q : Nat → Nat) (sz : Nat) (v_size : Int32) (v_at : Int32) (v_begin : Int32) (v_token : Int32) (v_told : Int32) (v_undos : Int32) (v_changed : Int32) (v_felt : Int32) (v_wents : Int32) (v_wish : Int32) (v_trace : Int64) (v_town : Nat → Int32) (x1 : Int32) (x2 : Int32) (res : R_X7_isHis) (hf : f_X7_isHis v_town x1 x2 = some res) : Met l yX7_isHis wsX7_isHis rm_X7_isHis (cPre D (tyz cI cZ cT) [.ref (q 0), .int x1, .int x2] sz [oX7 q v_size v_at v_begin v_token v_told v_undos v_changed v_felt v_wents v_wish v_trace, rA (q 8) cI 64 v_town]) (cPi D (tyz cI cZ cT) (fun (r : Int32) (_ : Unit) => r = res) (fun _ => [oX7 q v_size v_at v_begin v_token v_told v_undos v_changed v_felt v_wents v_wish v_trace, rA (q 8) cI 64 v_town]) [oX7 q v_size v_at v_begin v_token v_told v_undos v_changed v_felt v_wents v_wish v_trace, rA (q 8) cI 64 v_town] sz) 0 0 (va_A [oX7 q v_size v_at v_begin v_token v_told v_undos v_changed v_felt v_wents v_wish v_trace, rA (q 8) cI 64 v_town] sz) := by
  refine vx_meth_z (by decide) rfl (Nat.le_of_ble_eq_true rfl) ?_
  intro p e s m args below meth c A Q hx hb hml hown hts hK hP hD hA hS hret ls hl
  have hown : s.vm.findClass RX7 = some m.cls := hown
  have hl : lv_has ls 3 [(0, .ref (q 0)), (1, .int x1), (2, .int x2)] := hl
  have hFx : CallFix p m c cX7_isHis 3 s args wsX7_isHis RX7 := ⟨hx, hb, hml, hown, hts⟩
  have h := hf
  unfold f_X7_isHis at h
  obtain ⟨H, eH⟩ : ∃ H, H = s.heap := ⟨_, rfl⟩
  rw [← eH] at hP ⊢
  obtain ⟨locs, el⟩ : ∃ locs : List Loc, locs = [] := ⟨_, rfl⟩
  rw [← el] at hS ⊢
  have hS : va_S A s.heap H locs := by rw [eH]; exact hS
  refine lv_iload_n hx hb dX7_isHis_0 rfl (lv_at hl 2 rfl) ?_
  refine lv_if_lt (tgt := 21) hx hb dX7_isHis_1 (by decide) (fun c1 => ?_) (fun c1 => ?_)
  · have h := (if_pos c1).symm.trans h
    refine lv_iconst (v := 0) hx hb dX7_isHis_21 (by decide) ?_
    exact hret (0 : Int32) () H locs _ ls (Or.inl rfl) (Option.some.inj h) hP hD hS dX7_isHis_22
  · have h := (if_neg c1).symm.trans h
    refine lv_aload_n hx hb dX7_isHis_4 rfl (lv_at hl 0 rfl) ?_
    refine lv_iload_n hx hb dX7_isHis_5 rfl (lv_at hl 1 rfl) ?_
    obtain ⟨r2, hr2, h⟩ := xk_some h
    refine vx_VJ (As := [.int x1]) (rest := []) hFx (k_X7_his l D cI cZ cT q H.size v_size v_at v_begin v_token v_told v_undos v_changed v_felt v_wents v_wish v_trace v_town x1 r2 hr2) (cwV 1 hts gX7_isHis_X7_his rfl rfl rfl (by decide +kernel) ⟨Nat.le_of_ble_eq_true rfl, Nat.le_of_ble_eq_true rfl⟩) hK hP hD hS hA [0, 1] rfl rfl 7 0 rfl rfl rfl hl.1 rfl (Nat.le_of_ble_eq_true rfl) dX7_isHis_6 ⟨Nat.zero_le _, Nat.zero_le _⟩ (fun H locs hP hS => ?_)
    refine lv_iload_n hx hb dX7_isHis_9 rfl (lv_at hl 2 rfl) ?_
    refine lv_ishr hx hb dX7_isHis_10 ?_
    refine lv_iconst (v := 1) hx hb dX7_isHis_11 (by decide) ?_
    refine lv_iand hx hb dX7_isHis_12 ?_
    refine lv_iconst (v := 1) hx hb dX7_isHis_13 (by decide) ?_
    refine lv_icmp_ne (tgt := 21) hx hb dX7_isHis_14 (by decide) (fun c3 => ?_) (fun c3 => ?_)
    · have h := (if_neg c3).symm.trans h
      refine lv_iconst (v := 0) hx hb dX7_isHis_21 (by decide) ?_
      exact hret (0 : Int32) () H locs _ ls (Or.inl rfl) (Option.some.inj h) hP hD hS dX7_isHis_22
    · have h := (if_pos c3).symm.trans h
      refine lv_iconst (v := 1) hx hb dX7_isHis_17 (by decide) ?_
      refine lv_goto (tgt := 22) hx hb dX7_isHis_18 (by decide) ?_
      exact hret (1 : Int32) () H locs _ ls (Or.inr rfl) (Option.some.inj h) hP hD hS dX7_isHis_22
abbrev rm_X7_length : Room := { frames := 0, cells := 0, slots := 0, locals := 0 }
set_option maxHeartbeats 4000000 in
set_option maxRecDepth 100000 in
theorem k_X7_length (l : Launch) (D : va_G) (cI cZ cT : ClassId) (q : Nat → Nat) (sz : Nat) (v_size : Int32) (v_at : Int32) (v_begin : Int32) (v_token : Int32) (v_told : Int32) (v_undos : Int32) (v_changed : Int32) (v_felt : Int32) (v_wents : Int32) (v_wish : Int32) (v_trace : Int64) (v_town : Nat → Int32) (x1 : Int32) (res : R_X7_length) (hf : f_X7_length v_town x1 = some res) : Met l yX7_length wsX7_length rm_X7_length (cPre D (tyz cI cZ cT) [.ref (q 0), .int x1] sz [oX7 q v_size v_at v_begin v_token v_told v_undos v_changed v_felt v_wents v_wish v_trace, rA (q 8) cI 64 v_town]) (cPi D (tyz cI cZ cT) (fun (r : Int32) (_ : Unit) => r = res) (fun _ => [oX7 q v_size v_at v_begin v_token v_told v_undos v_changed v_felt v_wents v_wish v_trace, rA (q 8) cI 64 v_town]) [oX7 q v_size v_at v_begin v_token v_told v_undos v_changed v_felt v_wents v_wish v_trace, rA (q 8) cI 64 v_town] sz) 0 0 (va_A [oX7 q v_size v_at v_begin v_token v_told v_undos v_changed v_felt v_wents v_wish v_trace, rA (q 8) cI 64 v_town] sz) := by
  refine vx_meth_i (by decide) rfl (Nat.le_of_ble_eq_true rfl) ?_
  intro p e s m args below meth c A Q hx hb hml hown hts hK hP hD hA hS hret ls hl
  have hown : s.vm.findClass RX7 = some m.cls := hown
  have hl : lv_has ls 2 [(0, .ref (q 0)), (1, .int x1)] := hl
  have hFx : CallFix p m c cX7_length 2 s args wsX7_length RX7 := ⟨hx, hb, hml, hown, hts⟩
  have lk16 := hts (.fieldLink RX7 16 "FogGuidesModel" "town" "[I") (by decide +kernel)
  have iw7 : ∀ w ∈ u_ws RX7 TX7 34, w ∈ wsX7_length := by decide +kernel
  have h := hf
  unfold f_X7_length at h
  obtain ⟨H, eH⟩ : ∃ H, H = s.heap := ⟨_, rfl⟩
  rw [← eH] at hP ⊢
  obtain ⟨locs, el⟩ : ∃ locs : List Loc, locs = [] := ⟨_, rfl⟩
  rw [← el] at hS ⊢
  have hS : va_S A s.heap H locs := by rw [eH]; exact hS
  refine lv_aload_n hx hb dX7_length_0 rfl (lv_at hl 0 rfl) ?_
  refine va_get (C := RX7) (T := TX7) (N := 34) (v := .ref (q 8)) hx hb hts iw7 hown hK hP 0 rfl rfl 7 (Nat.le_of_ble_eq_true rfl) lk16 (fun _ h9 => h9) rfl dX7_length_1 ?_
  refine lv_bipush (v := 13) hx hb dX7_length_4 (by decide) ?_
  refine lv_iconst (v := 3) hx hb dX7_length_6 (by decide) ?_
  refine lv_iload_n hx hb dX7_length_7 rfl (lv_at hl 1 rfl) ?_
  refine lv_imul hx hb dX7_length_8 ?_
  refine lv_iadd hx hb dX7_length_9 ?_
  refine lv_iconst (v := 2) hx hb dX7_length_10 (by decide) ?_
  refine lv_iadd hx hb dX7_length_11 ?_
  obtain ⟨hi1, h⟩ := xb_some h
  refine va_iald hx hb hK hP 1 0 rfl rfl hi1 dX7_length_12 ?_
  exact hret (v_town (((13 : Int32) + ((3 : Int32) * x1)) + (2 : Int32)).toNatClampNeg) () H locs _ ls (Option.some.inj h) hP hD hS dX7_length_13
abbrev rm_X7_over : Room := { frames := 0, cells := 0, slots := 0, locals := 0 }
set_option maxHeartbeats 4000000 in
set_option maxRecDepth 100000 in
theorem k_X7_over (l : Launch) (D : va_G) (cI cZ cT : ClassId) (q : Nat → Nat) (sz : Nat) (v_size : Int32) (v_at : Int32) (v_begin : Int32) (v_token : Int32) (v_told : Int32) (v_undos : Int32) (v_changed : Int32) (v_felt : Int32) (v_wents : Int32) (v_wish : Int32) (v_trace : Int64) (v_town : Nat → Int32) (x1 : Int32) (x2 : Int32) (res : R_X7_over) (hf : f_X7_over v_town x1 x2 = some res) : Met l yX7_over wsX7_over rm_X7_over (cPre D (tyz cI cZ cT) [.ref (q 0), .int x1, .int x2] sz [oX7 q v_size v_at v_begin v_token v_told v_undos v_changed v_felt v_wents v_wish v_trace, rA (q 8) cI 64 v_town]) (cPi D (tyz cI cZ cT) (fun (r : Int32) (_ : Unit) => r = res) (fun _ => [oX7 q v_size v_at v_begin v_token v_told v_undos v_changed v_felt v_wents v_wish v_trace, rA (q 8) cI 64 v_town]) [oX7 q v_size v_at v_begin v_token v_told v_undos v_changed v_felt v_wents v_wish v_trace, rA (q 8) cI 64 v_town] sz) 0 0 (va_A [oX7 q v_size v_at v_begin v_token v_told v_undos v_changed v_felt v_wents v_wish v_trace, rA (q 8) cI 64 v_town] sz) := by
  refine vx_meth_i (by decide) rfl (Nat.le_of_ble_eq_true rfl) ?_
  intro p e s m args below meth c A Q hx hb hml hown hts hK hP hD hA hS hret ls hl
  have hown : s.vm.findClass RX7 = some m.cls := hown
  have hl : lv_has ls 5 [(0, .ref (q 0)), (1, .int x1), (2, .int x2)] := hl
  have hFx : CallFix p m c cX7_over 5 s args wsX7_over RX7 := ⟨hx, hb, hml, hown, hts⟩
  have lk16 := hts (.fieldLink RX7 16 "FogGuidesModel" "town" "[I") (by decide +kernel)
  have iw7 : ∀ w ∈ u_ws RX7 TX7 34, w ∈ wsX7_over := by decide +kernel
  have h := hf
  unfold f_X7_over at h
  obtain ⟨H, eH⟩ : ∃ H, H = s.heap := ⟨_, rfl⟩
  rw [← eH] at hP ⊢
  obtain ⟨locs, el⟩ : ∃ locs : List Loc, locs = [] := ⟨_, rfl⟩
  rw [← el] at hS ⊢
  have hS : va_S A s.heap H locs := by rw [eH]; exact hS
  refine lv_aload_n hx hb dX7_over_0 rfl (lv_at hl 0 rfl) ?_
  refine va_get (C := RX7) (T := TX7) (N := 34) (v := .ref (q 8)) hx hb hts iw7 hown hK hP 0 rfl rfl 7 (Nat.le_of_ble_eq_true rfl) lk16 (fun _ h9 => h9) rfl dX7_over_1 ?_
  refine lv_bipush (v := 13) hx hb dX7_over_4 (by decide) ?_
  refine lv_iconst (v := 3) hx hb dX7_over_6 (by decide) ?_
  refine lv_iload_n hx hb dX7_over_7 rfl (lv_at hl 1 rfl) ?_
  refine lv_imul hx hb dX7_over_8 ?_
  refine lv_iadd hx hb dX7_over_9 ?_
  obtain ⟨hi1, h⟩ := xb_some h
  refine va_iald hx hb hK hP 1 0 rfl rfl hi1 dX7_over_10 ?_
  refine lv_istore_n (lv' := [(3, .int (v_town ((13 : Int32) + ((3 : Int32) * x1)).toNatClampNeg)), (0, .ref (q 0)), (1, .int x1), (2, .int x2)]) hx hb dX7_over_11 rfl hl (by decide) rfl (fun ls hl => ?_)
  refine lv_aload_n hx hb dX7_over_12 rfl (lv_at hl 1 rfl) ?_
  refine va_get (C := RX7) (T := TX7) (N := 34) (v := .ref (q 8)) hx hb hts iw7 hown hK hP 0 rfl rfl 7 (Nat.le_of_ble_eq_true rfl) lk16 (fun _ h9 => h9) rfl dX7_over_13 ?_
  refine lv_bipush (v := 13) hx hb dX7_over_16 (by decide) ?_
  refine lv_iconst (v := 3) hx hb dX7_over_18 (by decide) ?_
  refine lv_iload_n hx hb dX7_over_19 rfl (lv_at hl 2 rfl) ?_
  refine lv_imul hx hb dX7_over_20 ?_
  refine lv_iadd hx hb dX7_over_21 ?_
  refine lv_iconst (v := 1) hx hb dX7_over_22 (by decide) ?_
  refine lv_iadd hx hb dX7_over_23 ?_
  obtain ⟨hi2, h⟩ := xb_some h
  refine va_iald hx hb hK hP 1 0 rfl rfl hi2 dX7_over_24 ?_
  refine lv_istore (lv' := [(4, .int (v_town (((13 : Int32) + ((3 : Int32) * x1)) + (1 : Int32)).toNatClampNeg)), (3, .int (v_town ((13 : Int32) + ((3 : Int32) * x1)).toNatClampNeg)), (0, .ref (q 0)), (1, .int x1), (2, .int x2)]) hx hb dX7_over_25 hl (by decide) rfl (fun ls hl => ?_)
  refine lv_iload_n hx hb dX7_over_27 rfl (lv_at hl 1 rfl) ?_
  refine lv_iload_n hx hb dX7_over_28 rfl (lv_at hl 4 rfl) ?_
  refine lv_icmp_ne (tgt := 37) hx hb dX7_over_29 (by decide) (fun c3 => ?_) (fun c3 => ?_)
  · have h := (if_neg c3).symm.trans h
    refine lv_iload hx hb dX7_over_37 (lv_at hl 0 rfl) ?_
    refine lv_iload_n hx hb dX7_over_39 rfl (lv_at hl 4 rfl) ?_
    refine lv_icmp_ne (tgt := 47) hx hb dX7_over_40 (by decide) (fun c4 => ?_) (fun c4 => ?_)
    · have h := (if_neg c4).symm.trans h
      refine lv_bipush (v := (-9)) hx hb dX7_over_47 (by decide) ?_
      exact hret (-9 : Int32) () H locs _ ls (Option.some.inj h) hP hD hS dX7_over_49
    · have h := (if_pos c4).symm.trans h
      refine lv_iload_n hx hb dX7_over_43 rfl (lv_at hl 1 rfl) ?_
      refine lv_goto (tgt := 49) hx hb dX7_over_44 (by decide) ?_
      exact hret (v_town ((13 : Int32) + ((3 : Int32) * x1)).toNatClampNeg) () H locs _ ls (Option.some.inj h) hP hD hS dX7_over_49
  · have h := (if_pos c3).symm.trans h
    refine lv_iload hx hb dX7_over_32 (lv_at hl 0 rfl) ?_
    refine lv_goto (tgt := 49) hx hb dX7_over_34 (by decide) ?_
    exact hret (v_town (((13 : Int32) + ((3 : Int32) * x1)) + (1 : Int32)).toNatClampNeg) () H locs _ ls (Option.some.inj h) hP hD hS dX7_over_49
abbrev rm_X7_many : Room := { frames := 0, cells := 0, slots := 0, locals := 0 }
set_option maxHeartbeats 4000000 in
set_option maxRecDepth 100000 in
theorem k_X7_many (l : Launch) (D : va_G) (cI cZ cT : ClassId) (sz : Nat) (x0 : Int32) (res : R_X7_many) (fu : Nat) (hf : f_X7_many fu x0 = some res) : Met l yX7_many wsX7_many rm_X7_many (cPre D (tyz cI cZ cT) [.int x0] sz []) (cPi D (tyz cI cZ cT) (fun (r : Int32) (_ : Unit) => r = res) (fun _ => []) [] sz) 0 0 (va_A [] sz) := by
  refine vx_meth_i (by decide) rfl (Nat.le_of_ble_eq_true rfl) ?_
  intro p e s m args below meth c A Q hx hb hml hown hts hK hP hD hA hS hret ls hl
  have hown : s.vm.findClass RX7 = some m.cls := hown
  have hl : lv_has ls 3 [(0, .int x0)] := hl
  have hFx : CallFix p m c cX7_many 3 s args wsX7_many RX7 := ⟨hx, hb, hml, hown, hts⟩
  have hL4 : ∀ (n4 : Nat), ∀ (x1 : Int32) (x2 : Int32) (H : Heap) (locs : List Loc) (ls : Array Slot), f_X7_many_L4 fu n4 x1 x2 = some res → va_P D vwCl [] H → va_D A [] → va_S A s.heap H locs → lv_has ls 3 [(1, .int x1), (2, .int x2)] → W p l e rm_X7_many s m args below meth c H locs 0 0 Q (F0 m 4 ls []) := by
    intro n4
    induction n4 with
    | zero =>
      intro x1 x2 H locs ls h hP hD hS hl
      cases (show (none : Option R_X7_many) = some res from h)
    | succ n4 ih4 =>
      intro x1 x2 H locs ls h hP hD hS hl
      have h : f_X7_many_L4b fu (f_X7_many_L4 fu n4) x1 x2 = some res := h
      unfold f_X7_many_L4b at h
      refine lv_iload_n hx hb dX7_many_4 rfl (lv_at hl 1 rfl) ?_
      refine lv_if_eq (tgt := 20) hx hb dX7_many_5 (by decide) (fun c1 => ?_) (fun c1 => ?_)
      · have h := (if_pos c1).symm.trans h
        refine lv_iload_n hx hb dX7_many_20 rfl (lv_at hl 0 rfl) ?_
        exact hret x1 () H locs _ ls (Option.some.inj h) hP hD hS dX7_many_21
      · have h := (if_neg c1).symm.trans h
        refine lv_iinc (v := x1 + 1) (lv' := [(1, .int (x1 + 1)), (2, .int x2)]) hx hb dX7_many_8 hl (k := 0) rfl rfl (by decide) rfl (fun ls hl => ?_)
        refine lv_iload_n hx hb dX7_many_11 rfl (lv_at hl 1 rfl) ?_
        refine lv_iload_n hx hb dX7_many_12 rfl (lv_at hl 1 rfl) ?_
        refine lv_iconst (v := 1) hx hb dX7_many_13 (by decide) ?_
        refine lv_isub hx hb dX7_many_14 ?_
        refine lv_iand hx hb dX7_many_15 ?_
        refine lv_istore_n (lv' := [(2, .int (x2 &&& (x2 - (1 : Int32)))), (1, .int (x1 + 1))]) hx hb dX7_many_16 rfl hl (by decide) rfl (fun ls hl => ?_)
        refine lv_goto (tgt := 4) hx hb dX7_many_17 (by decide) ?_
        exact ih4 (x1 + 1) (x2 &&& (x2 - (1 : Int32))) H locs ls h hP hD hS (lv_sub hl [1, 0] rfl)
  have h := hf
  unfold f_X7_many at h
  obtain ⟨H, eH⟩ : ∃ H, H = s.heap := ⟨_, rfl⟩
  rw [← eH] at hP ⊢
  obtain ⟨locs, el⟩ : ∃ locs : List Loc, locs = [] := ⟨_, rfl⟩
  rw [← el] at hS ⊢
  have hS : va_S A s.heap H locs := by rw [eH]; exact hS
  refine lv_iconst (v := 0) hx hb dX7_many_0 (by decide) ?_
  refine lv_istore_n (lv' := [(1, .int (0 : Int32)), (0, .int x0)]) hx hb dX7_many_1 rfl hl (by decide) rfl (fun ls hl => ?_)
  refine lv_iload_n hx hb dX7_many_2 rfl (lv_at hl 1 rfl) ?_
  refine lv_istore_n (lv' := [(2, .int x0), (1, .int (0 : Int32)), (0, .int x0)]) hx hb dX7_many_3 rfl hl (by decide) rfl (fun ls hl => ?_)
  exact hL4 fu (0 : Int32) x0 H locs ls h hP hD hS (lv_sub hl [1, 0] rfl)
abbrev rm_X7_corner : Room := { frames := 2, cells := 0, slots := 0, locals := 46 }
set_option maxHeartbeats 4000000 in
set_option maxRecDepth 100000 in
theorem k_X7_corner (l : Launch) (D : va_G) (cI cZ cT : ClassId) (q : Nat → Nat) (sz : Nat) (v_size : Int32) (v_at : Int32) (v_begin : Int32) (v_token : Int32) (v_told : Int32) (v_undos : Int32) (v_changed : Int32) (v_felt : Int32) (v_wents : Int32) (v_wish : Int32) (v_trace : Int64) (v_town : Nat → Int32) (x1 : Int32) (res : R_X7_corner) (hf : f_X7_corner v_town x1 = some res) : Met l yX7_corner wsX7_corner rm_X7_corner (cPre D (tyz cI cZ cT) [.ref (q 0), .int x1] sz [oX7 q v_size v_at v_begin v_token v_told v_undos v_changed v_felt v_wents v_wish v_trace, rA (q 8) cI 64 v_town]) (cPi D (tyz cI cZ cT) (fun (r : Int32) (_ : Unit) => r = res) (fun _ => [oX7 q v_size v_at v_begin v_token v_told v_undos v_changed v_felt v_wents v_wish v_trace, rA (q 8) cI 64 v_town]) [oX7 q v_size v_at v_begin v_token v_told v_undos v_changed v_felt v_wents v_wish v_trace, rA (q 8) cI 64 v_town] sz) 0 0 (va_A [oX7 q v_size v_at v_begin v_token v_told v_undos v_changed v_felt v_wents v_wish v_trace, rA (q 8) cI 64 v_town] sz) := by
  refine vx_meth_i (by decide) rfl (Nat.le_of_ble_eq_true rfl) ?_
  intro p e s m args below meth c A Q hx hb hml hown hts hK hP hD hA hS hret ls hl
  have hown : s.vm.findClass RX7 = some m.cls := hown
  have hl : lv_has ls 2 [(0, .ref (q 0)), (1, .int x1)] := hl
  have hFx : CallFix p m c cX7_corner 2 s args wsX7_corner RX7 := ⟨hx, hb, hml, hown, hts⟩
  have lk16 := hts (.fieldLink RX7 16 "FogGuidesModel" "town" "[I") (by decide +kernel)
  have iw7 : ∀ w ∈ u_ws RX7 TX7 34, w ∈ wsX7_corner := by decide +kernel
  have h := hf
  unfold f_X7_corner at h
  obtain ⟨H, eH⟩ : ∃ H, H = s.heap := ⟨_, rfl⟩
  rw [← eH] at hP ⊢
  obtain ⟨locs, el⟩ : ∃ locs : List Loc, locs = [] := ⟨_, rfl⟩
  rw [← el] at hS ⊢
  have hS : va_S A s.heap H locs := by rw [eH]; exact hS
  refine lv_aload_n hx hb dX7_corner_0 rfl (lv_at hl 0 rfl) ?_
  refine lv_iload_n hx hb dX7_corner_1 rfl (lv_at hl 1 rfl) ?_
  obtain ⟨r1, hr1, h⟩ := xk_some h
  refine vx_VJ (As := [.int x1]) (rest := []) hFx (k_X7_isCorner l D cI cZ cT q H.size v_size v_at v_begin v_token v_told v_undos v_changed v_felt v_wents v_wish v_trace v_town x1 r1 hr1) (cwV 1 hts gX7_corner_X7_isCorner rfl rfl rfl (by decide +kernel) ⟨Nat.le_of_ble_eq_true rfl, Nat.le_of_ble_eq_true rfl⟩) hK hP hD hS hA [0, 1] rfl rfl 7 0 rfl rfl rfl hl.1 rfl (Nat.le_of_ble_eq_true rfl) dX7_corner_2 ⟨Nat.zero_le _, Nat.zero_le _⟩ (fun H locs hP hS => ?_)
  refine lv_if_eq (tgt := 20) hx hb dX7_corner_5 (by decide) (fun c2 => ?_) (fun c2 => ?_)
  · have h := (if_pos c2).symm.trans h
    refine lv_iconst (v := (-1)) hx hb dX7_corner_20 (by decide) ?_
    exact hret (-1 : Int32) () H locs _ ls (Option.some.inj h) hP hD hS dX7_corner_21
  · have h := (if_neg c2).symm.trans h
    refine lv_aload_n hx hb dX7_corner_8 rfl (lv_at hl 0 rfl) ?_
    refine va_get (C := RX7) (T := TX7) (N := 34) (v := .ref (q 8)) hx hb hts iw7 hown hK hP 0 rfl rfl 7 (Nat.le_of_ble_eq_true rfl) lk16 (fun _ h9 => h9) rfl dX7_corner_9 ?_
    refine lv_bipush (v := 6) hx hb dX7_corner_12 (by decide) ?_
    refine lv_iload_n hx hb dX7_corner_14 rfl (lv_at hl 1 rfl) ?_
    refine lv_iadd hx hb dX7_corner_15 ?_
    obtain ⟨hi3, h⟩ := xb_some h
    refine va_iald hx hb hK hP 1 0 rfl rfl hi3 dX7_corner_16 ?_
    refine lv_goto (tgt := 21) hx hb dX7_corner_17 (by decide) ?_
    exact hret (v_town ((6 : Int32) + x1).toNatClampNeg) () H locs _ ls (Option.some.inj h) hP hD hS dX7_corner_21
abbrev rm_X7_street : Room := { frames := 2, cells := 0, slots := 0, locals := 46 }
set_option maxHeartbeats 4000000 in
set_option maxRecDepth 100000 in
theorem k_X7_street (l : Launch) (D : va_G) (cI cZ cT : ClassId) (q : Nat → Nat) (sz : Nat) (v_size : Int32) (v_at : Int32) (v_begin : Int32) (v_token : Int32) (v_told : Int32) (v_undos : Int32) (v_changed : Int32) (v_felt : Int32) (v_wents : Int32) (v_wish : Int32) (v_trace : Int64) (v_town : Nat → Int32) (x1 : Int32) (x2 : Int32) (res : R_X7_street) (hf : f_X7_street v_town x1 x2 = some res) : Met l yX7_street wsX7_street rm_X7_street (cPre D (tyz cI cZ cT) [.ref (q 0), .int x1, .int x2] sz [oX7 q v_size v_at v_begin v_token v_told v_undos v_changed v_felt v_wents v_wish v_trace, rA (q 8) cI 64 v_town]) (cPi D (tyz cI cZ cT) (fun (r : Int32) (_ : Unit) => r = res) (fun _ => [oX7 q v_size v_at v_begin v_token v_told v_undos v_changed v_felt v_wents v_wish v_trace, rA (q 8) cI 64 v_town]) [oX7 q v_size v_at v_begin v_token v_told v_undos v_changed v_felt v_wents v_wish v_trace, rA (q 8) cI 64 v_town] sz) 0 0 (va_A [oX7 q v_size v_at v_begin v_token v_told v_undos v_changed v_felt v_wents v_wish v_trace, rA (q 8) cI 64 v_town] sz) := by
  refine vx_meth_i (by decide) rfl (Nat.le_of_ble_eq_true rfl) ?_
  intro p e s m args below meth c A Q hx hb hml hown hts hK hP hD hA hS hret ls hl
  have hown : s.vm.findClass RX7 = some m.cls := hown
  have hl : lv_has ls 3 [(0, .ref (q 0)), (1, .int x1), (2, .int x2)] := hl
  have hFx : CallFix p m c cX7_street 3 s args wsX7_street RX7 := ⟨hx, hb, hml, hown, hts⟩
  have lk16 := hts (.fieldLink RX7 16 "FogGuidesModel" "town" "[I") (by decide +kernel)
  have iw7 : ∀ w ∈ u_ws RX7 TX7 34, w ∈ wsX7_street := by decide +kernel
  have h := hf
  unfold f_X7_street at h
  obtain ⟨H, eH⟩ : ∃ H, H = s.heap := ⟨_, rfl⟩
  rw [← eH] at hP ⊢
  obtain ⟨locs, el⟩ : ∃ locs : List Loc, locs = [] := ⟨_, rfl⟩
  rw [← el] at hS ⊢
  have hS : va_S A s.heap H locs := by rw [eH]; exact hS
  refine lv_aload_n hx hb dX7_street_0 rfl (lv_at hl 0 rfl) ?_
  refine lv_iload_n hx hb dX7_street_1 rfl (lv_at hl 1 rfl) ?_
  obtain ⟨r1, hr1, h⟩ := xk_some h
  refine vx_VJ (As := [.int x1]) (rest := []) hFx (k_X7_isStreet l D cI cZ cT q H.size v_size v_at v_begin v_token v_told v_undos v_changed v_felt v_wents v_wish v_trace v_town x1 r1 hr1) (cwV 1 hts gX7_street_X7_isStreet rfl rfl rfl (by decide +kernel) ⟨Nat.le_of_ble_eq_true rfl, Nat.le_of_ble_eq_true rfl⟩) hK hP hD hS hA [0, 1] rfl rfl 7 0 rfl rfl rfl hl.1 rfl (Nat.le_of_ble_eq_true rfl) dX7_street_2 ⟨Nat.zero_le _, Nat.zero_le _⟩ (fun H locs hP hS => ?_)
  refine lv_if_eq (tgt := 36) hx hb dX7_street_5 (by decide) (fun c2 => ?_) (fun c2 => ?_)
  · have h := (if_pos c2).symm.trans h
    refine lv_iconst (v := (-1)) hx hb dX7_street_36 (by decide) ?_
    exact hret (-1 : Int32) () H locs _ ls (Option.some.inj h) hP hD hS dX7_street_37
  · have h := (if_neg c2).symm.trans h
    refine lv_iload_n hx hb dX7_street_8 rfl (lv_at hl 2 rfl) ?_
    refine lv_i2l hx hb dX7_street_9 rfl ?_
    refine lv_lconst (v := 0) hx hb dX7_street_10 (by decide) ?_
    refine lv_ldc2 (v := (2)) hx hb hown (hts (.constantLong RX7 179 (2)) (by decide +kernel)) dX7_street_11 ?_
    obtain ⟨r3, hr3, h⟩ := xk_some h
    refine vx_SJ (As := [.long x2.toInt64, .long (0 : Int64), .long (2 : Int64)]) (rest := []) hFx (k_X7_in l D cI cZ cT H.size x2.toInt64 (0 : Int64) (2 : Int64) r3 hr3) (vx_cwS 3 hts gX7_street_X7_in rfl rfl rfl (by decide +kernel) ⟨Nat.le_of_ble_eq_true rfl, Nat.le_of_ble_eq_true rfl⟩) hK hP hD hS hA rfl hl.1 rfl (Nat.le_of_ble_eq_true rfl) dX7_street_14 ⟨Nat.zero_le _, Nat.zero_le _⟩ (fun H locs hP hS => ?_)
    refine lv_if_eq (tgt := 36) hx hb dX7_street_17 (by decide) (fun c4 => ?_) (fun c4 => ?_)
    · have h := (if_pos c4).symm.trans h
      refine lv_iconst (v := (-1)) hx hb dX7_street_36 (by decide) ?_
      exact hret (-1 : Int32) () H locs _ ls (Option.some.inj h) hP hD hS dX7_street_37
    · have h := (if_neg c4).symm.trans h
      refine lv_aload_n hx hb dX7_street_20 rfl (lv_at hl 0 rfl) ?_
      refine va_get (C := RX7) (T := TX7) (N := 34) (v := .ref (q 8)) hx hb hts iw7 hown hK hP 0 rfl rfl 7 (Nat.le_of_ble_eq_true rfl) lk16 (fun _ h9 => h9) rfl dX7_street_21 ?_
      refine lv_bipush (v := 13) hx hb dX7_street_24 (by decide) ?_
      refine lv_iconst (v := 3) hx hb dX7_street_26 (by decide) ?_
      refine lv_iload_n hx hb dX7_street_27 rfl (lv_at hl 1 rfl) ?_
      refine lv_imul hx hb dX7_street_28 ?_
      refine lv_iadd hx hb dX7_street_29 ?_
      refine lv_iload_n hx hb dX7_street_30 rfl (lv_at hl 2 rfl) ?_
      refine lv_iadd hx hb dX7_street_31 ?_
      obtain ⟨hi5, h⟩ := xb_some h
      refine va_iald hx hb hK hP 1 0 rfl rfl hi5 dX7_street_32 ?_
      refine lv_goto (tgt := 37) hx hb dX7_street_33 (by decide) ?_
      exact hret (v_town (((13 : Int32) + ((3 : Int32) * x1)) + x2).toNatClampNeg) () H locs _ ls (Option.some.inj h) hP hD hS dX7_street_37
