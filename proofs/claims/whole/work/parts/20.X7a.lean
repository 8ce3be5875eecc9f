abbrev rm_X7_in : Room := { frames := 0, cells := 0, slots := 0, locals := 0 }
set_option maxHeartbeats 4000000 in
set_option maxRecDepth 100000 in
theorem k_X7_in (l : Launch) (D : va_G) (cI cZ cT : ClassId) (sz : Nat) (x0 : Int64) (x2 : Int64) (x4 : Int64) (res : R_X7_in) (hf : f_X7_in x0 x2 x4 = some res) : Met l yX7_in wsX7_in rm_X7_in (cPre D (tyz cI cZ cT) [.long x0, .long x2, .long x4] sz []) (cPi D (tyz cI cZ cT) (fun (r : Int32) (_ : Unit) => r = res) (fun _ => []) [] sz) 0 0 (va_A [] sz) := by
  refine vx_meth_z (by decide) rfl (Nat.le_of_ble_eq_true rfl) ?_
  intro p e s m args below meth c A Q hx hb hml hown hts hK hP hD hA hS hret ls hl
  have hown : s.vm.findClass RX7 = some m.cls := hown
  have hl : lv_has ls 6 [(0, .long x0), (2, .long x2), (4, .long x4)] := hl
  have hFx : CallFix p m c cX7_in 6 s args wsX7_in RX7 := ⟨hx, hb, hml, hown, hts⟩
  have h := hf
  unfold f_X7_in at h
  obtain ⟨H, eH⟩ : ∃ H, H = s.heap := ⟨_, rfl⟩
  rw [← eH] at hP ⊢
  obtain ⟨locs, el⟩ : ∃ locs : List Loc, locs = [] := ⟨_, rfl⟩
  rw [← el] at hS ⊢
  have hS : va_S A s.heap H locs := by rw [eH]; exact hS
  refine lv_lload_n hx hb dX7_in_0 rfl (lv_at hl 0 rfl) ?_
  refine lv_lload_n hx hb dX7_in_1 rfl (lv_at hl 1 rfl) ?_
  refine W.lcmp hx hb dX7_in_2 ?_
  refine lv_if_lt (tgt := 17) hx hb dX7_in_3 (by decide) (fun c1 => ?_) (fun c1 => ?_)
  · have h := (if_pos c1).symm.trans h
    refine lv_iconst (v := 0) hx hb dX7_in_17 (by decide) ?_
    exact hret (0 : Int32) () H locs _ ls (Or.inl rfl) (Option.some.inj h) hP hD hS dX7_in_18
  · have h := (if_neg c1).symm.trans h
    refine lv_lload_n hx hb dX7_in_6 rfl (lv_at hl 0 rfl) ?_
    refine lv_lload hx hb dX7_in_7 (lv_at hl 2 rfl) ?_
    refine W.lcmp hx hb dX7_in_9 ?_
    refine lv_if_gt (tgt := 17) hx hb dX7_in_10 (by decide) (fun c2 => ?_) (fun c2 => ?_)
    · have h := (if_pos c2).symm.trans h
      refine lv_iconst (v := 0) hx hb dX7_in_17 (by decide) ?_
      exact hret (0 : Int32) () H locs _ ls (Or.inl rfl) (Option.some.inj h) hP hD hS dX7_in_18
    · have h := (if_neg c2).symm.trans h
      refine lv_iconst (v := 1) hx hb dX7_in_13 (by decide) ?_
      refine lv_goto (tgt := 18) hx hb dX7_in_14 (by decide) ?_
      exact hret (1 : Int32) () H locs _ ls (Or.inr rfl) (Option.some.inj h) hP hD hS dX7_in_18
abbrev rm_X7_type : Room := { frames := 1, cells := 0, slots := 0, locals := 25 }
set_option maxHeartbeats 4000000 in
set_option maxRecDepth 100000 in
theorem k_X7_type (l : Launch) (D : va_G) (cI cZ cT : ClassId) (q : Nat → Nat) (sz : Nat) (v_size : Int32) (v_at : Int32) (v_begin : Int32) (v_token : Int32) (v_told : Int32) (v_undos : Int32) (v_changed : Int32) (v_felt : Int32) (v_wents : Int32) (v_wish : Int32) (v_trace : Int64) (v_text : Nat → Int32) (x1 : Int32) (res : R_X7_type) (hf : f_X7_type v_text v_size x1 = some res) : Met l yX7_type wsX7_type rm_X7_type (cPre D (tyz cI cZ cT) [.ref (q 0), .int x1] sz [oX7 q v_size v_at v_begin v_token v_told v_undos v_changed v_felt v_wents v_wish v_trace, rA (q 1) cI 200 v_text]) (cPi D (tyz cI cZ cT) (fun (r : Int32) (u : (Nat → Int32) × Int32) => (r, u) = res) (fun u => [oX7 q u.2 v_at v_begin v_token v_told v_undos v_changed v_felt v_wents v_wish v_trace, rA (q 1) cI 200 u.1]) [oX7 q v_size v_at v_begin v_token v_told v_undos v_changed v_felt v_wents v_wish v_trace, rA (q 1) cI 200 v_text] sz) 0 0 (va_A [oX7 q v_size v_at v_begin v_token v_told v_undos v_changed v_felt v_wents v_wish v_trace, rA (q 1) cI 200 v_text] sz) := by
  refine vx_meth_i (by decide) rfl (Nat.le_of_ble_eq_true rfl) ?_
  intro p e s m args below meth c A Q hx hb hml hown hts hK hP hD hA hS hret ls hl
  have hown : s.vm.findClass RX7 = some m.cls := hown
  have hl : lv_has ls 2 [(0, .ref (q 0)), (1, .int x1)] := hl
  have hFx : CallFix p m c cX7_type 2 s args wsX7_type RX7 := ⟨hx, hb, hml, hown, hts⟩
  have lk91 := hts (.fieldLink RX7 91 "FogGuidesModel" "size" "I") (by decide +kernel)
  have iw7 : ∀ w ∈ u_ws RX7 TX7 34, w ∈ wsX7_type := by decide +kernel
  have lk7 := hts (.fieldLink RX7 7 "FogGuidesModel" "text" "[I") (by decide +kernel)
  have h := hf
  unfold f_X7_type at h
  obtain ⟨H, eH⟩ : ∃ H, H = s.heap := ⟨_, rfl⟩
  rw [← eH] at hP ⊢
  obtain ⟨locs, el⟩ : ∃ locs : List Loc, locs = [] := ⟨_, rfl⟩
  rw [← el] at hS ⊢
  have hS : va_S A s.heap H locs := by rw [eH]; exact hS
  refine lv_iload_n hx hb dX7_type_0 rfl (lv_at hl 1 rfl) ?_
  refine lv_i2l hx hb dX7_type_1 rfl ?_
  refine lv_lconst (v := 0) hx hb dX7_type_2 (by decide) ?_
  refine lv_ldc2 (v := (255)) hx hb hown (hts (.constantLong RX7 85 (255)) (by decide +kernel)) dX7_type_3 ?_
  obtain ⟨r1, hr1, h⟩ := xk_some h
  refine vx_SJ (As := [.long x1.toInt64, .long (0 : Int64), .long (255 : Int64)]) (rest := []) hFx (k_X7_in l D cI cZ cT H.size x1.toInt64 (0 : Int64) (255 : Int64) r1 hr1) (vx_cwS 3 hts gX7_type_X7_in rfl rfl rfl (by decide +kernel) ⟨Nat.le_of_ble_eq_true rfl, Nat.le_of_ble_eq_true rfl⟩) hK hP hD hS hA rfl hl.1 rfl (Nat.le_of_ble_eq_true rfl) dX7_type_6 ⟨Nat.zero_le _, Nat.zero_le _⟩ (fun H locs hP hS => ?_)
  refine lv_if_ne (tgt := 14) hx hb dX7_type_9 (by decide) (fun c2 => ?_) (fun c2 => ?_)
  · have h := (if_neg c2).symm.trans h
    refine lv_aload_n hx hb dX7_type_14 rfl (lv_at hl 0 rfl) ?_
    refine va_get (C := RX7) (T := TX7) (N := 34) (v := .int v_size) hx hb hts iw7 hown hK hP 0 rfl rfl 1 (Nat.le_of_ble_eq_true rfl) lk91 (fun _ h9 => h9) rfl dX7_type_15 ?_
    refine lv_sipush (v := 200) hx hb dX7_type_18 (by decide) ?_
    refine lv_icmp_ne (tgt := 27) hx hb dX7_type_21 (by decide) (fun c3 => ?_) (fun c3 => ?_)
    · have h := (if_neg c3).symm.trans h
      refine lv_aload_n hx hb dX7_type_27 rfl (lv_at hl 0 rfl) ?_
      refine va_get (C := RX7) (T := TX7) (N := 34) (v := .ref (q 1)) hx hb hts iw7 hown hK hP 0 rfl rfl 0 (Nat.le_of_ble_eq_true rfl) lk7 (fun _ h9 => h9) rfl dX7_type_28 ?_
      refine lv_aload_n hx hb dX7_type_31 rfl (lv_at hl 0 rfl) ?_
      refine va_get (C := RX7) (T := TX7) (N := 34) (v := .int v_size) hx hb hts iw7 hown hK hP 0 rfl rfl 1 (Nat.le_of_ble_eq_true rfl) lk91 (fun _ h9 => h9) rfl dX7_type_32 ?_
      refine lv_iload_n hx hb dX7_type_35 rfl (lv_at hl 1 rfl) ?_
      obtain ⟨hi4, h⟩ := xb_some h
      refine va_iast hx hb hK hP hD hS 1 0 rfl rfl hi4 dX7_type_36 (fun H locs hP hD hS => ?_)
      have hP : va_P D vwCl [oX7 q v_size v_at v_begin v_token v_told v_undos v_changed v_felt v_wents v_wish v_trace, rA (q 1) cI 200 (upd v_text v_size.toNatClampNeg x1)] H := hP
      have hD : va_D A [oX7 q v_size v_at v_begin v_token v_told v_undos v_changed v_felt v_wents v_wish v_trace, rA (q 1) cI 200 (upd v_text v_size.toNatClampNeg x1)] := hD
      refine lv_aload_n hx hb dX7_type_37 rfl (lv_at hl 0 rfl) ?_
      refine lv_dup hx hb dX7_type_38 rfl ?_
      refine va_get (C := RX7) (T := TX7) (N := 34) (v := .int v_size) hx hb hts iw7 hown hK hP 0 rfl rfl 1 (Nat.le_of_ble_eq_true rfl) lk91 (fun _ h9 => h9) rfl dX7_type_39 ?_
      refine lv_iconst (v := 1) hx hb dX7_type_42 (by decide) ?_
      refine lv_iadd hx hb dX7_type_43 ?_
      refine va_put (C := RX7) (T := TX7) (N := 34) (v := .int (v_size + (1 : Int32))) (ty := .int) hx hb hts iw7 tyX7 tyX7_ok nmX7 hown hK hP hD hS 0 rfl rfl 1 (Nat.le_of_ble_eq_true rfl) lk91 (fun _ h9 => h9) rfl (by decide +kernel) rfl rfl (Nat.le_of_ble_eq_true rfl) dX7_type_44 (fun H locs hP hD hS => ?_)
      have hP : va_P D vwCl [oX7 q (v_size + (1 : Int32)) v_at v_begin v_token v_told v_undos v_changed v_felt v_wents v_wish v_trace, rA (q 1) cI 200 (upd v_text v_size.toNatClampNeg x1)] H := hP
      have hD : va_D A [oX7 q (v_size + (1 : Int32)) v_at v_begin v_token v_told v_undos v_changed v_felt v_wents v_wish v_trace, rA (q 1) cI 200 (upd v_text v_size.toNatClampNeg x1)] := hD
      refine lv_aload_n hx hb dX7_type_47 rfl (lv_at hl 0 rfl) ?_
      refine va_get (C := RX7) (T := TX7) (N := 34) (v := .int (v_size + (1 : Int32))) hx hb hts iw7 hown hK hP 0 rfl rfl 1 (Nat.le_of_ble_eq_true rfl) lk91 (fun _ h9 => h9) rfl dX7_type_48 ?_
      exact hret (v_size + (1 : Int32)) ((upd v_text v_size.toNatClampNeg x1, v_size + (1 : Int32))) H locs _ ls (Option.some.inj h) hP hD hS dX7_type_51
    · have h := (if_pos c3).symm.trans h
      refine lv_bipush (v := (-3)) hx hb dX7_type_24 (by decide) ?_
      exact hret (-3 : Int32) (v_text, v_size) H locs _ ls (Option.some.inj h) hP hD hS dX7_type_26
  · have h := (if_pos c2).symm.trans h
    refine lv_iconst (v := (-1)) hx hb dX7_type_12 (by decide) ?_
    exact hret (-1 : Int32) (v_text, v_size) H locs _ ls (Option.some.inj h) hP hD hS dX7_type_13
abbrev rm_X7_clear : Room := { frames := 0, cells := 0, slots := 0, locals := 0 }
set_option maxHeartbeats 4000000 in
set_option maxRecDepth 100000 in
theorem k_X7_clear (l : Launch) (D : va_G) (cI cZ cT : ClassId) (q : Nat → Nat) (sz : Nat) (v_size : Int32) (v_at : Int32) (v_begin : Int32) (v_token : Int32) (v_told : Int32) (v_undos : Int32) (v_changed : Int32) (v_felt : Int32) (v_wents : Int32) (v_wish : Int32) (v_trace : Int64) (res : R_X7_clear) (hf : f_X7_clear v_size = some res) : Met l yX7_clear wsX7_clear rm_X7_clear (cPre D (tyz cI cZ cT) [.ref (q 0)] sz [oX7 q v_size v_at v_begin v_token v_told v_undos v_changed v_felt v_wents v_wish v_trace]) (cPi D (tyz cI cZ cT) (fun (r : Int32) (u : Int32) => (r, u) = res) (fun u => [oX7 q u v_at v_begin v_token v_told v_undos v_changed v_felt v_wents v_wish v_trace]) [oX7 q v_size v_at v_begin v_token v_told v_undos v_changed v_felt v_wents v_wish v_trace] sz) 0 0 (va_A [oX7 q v_size v_at v_begin v_token v_told v_undos v_changed v_felt v_wents v_wish v_trace] sz) := by
  refine vx_meth_i (by decide) rfl (Nat.le_of_ble_eq_true rfl) ?_
  intro p e s m args below meth c A Q hx hb hml hown hts hK hP hD hA hS hret ls hl
  have hown : s.vm.findClass RX7 = some m.cls := hown
  have hl : lv_has ls 2 [(0, .ref (q 0))] := hl
  have hFx : CallFix p m c cX7_clear 2 s args wsX7_clear RX7 := ⟨hx, hb, hml, hown, hts⟩
  have lk91 := hts (.fieldLink RX7 91 "FogGuidesModel" "size" "I") (by decide +kernel)
  have iw7 : ∀ w ∈ u_ws RX7 TX7 34, w ∈ wsX7_clear := by decide +kernel
  have h := hf
  unfold f_X7_clear at h
  obtain ⟨H, eH⟩ : ∃ H, H = s.heap := ⟨_, rfl⟩
  rw [← eH] at hP ⊢
  obtain ⟨locs, el⟩ : ∃ locs : List Loc, locs = [] := ⟨_, rfl⟩
  rw [← el] at hS ⊢
  have hS : va_S A s.heap H locs := by rw [eH]; exact hS
  refine lv_aload_n hx hb dX7_clear_0 rfl (lv_at hl 0 rfl) ?_
  refine va_get (C := RX7) (T := TX7) (N := 34) (v := .int v_size) hx hb hts iw7 hown hK hP 0 rfl rfl 1 (Nat.le_of_ble_eq_true rfl) lk91 (fun _ h9 => h9) rfl dX7_clear_1 ?_
  refine lv_istore_n (lv' := [(1, .int v_size), (0, .ref (q 0))]) hx hb dX7_clear_4 rfl hl (by decide) rfl (fun ls hl => ?_)
  refine lv_aload_n hx hb dX7_clear_5 rfl (lv_at hl 1 rfl) ?_
  refine lv_iconst (v := 0) hx hb dX7_clear_6 (by decide) ?_
  refine va_put (C := RX7) (T := TX7) (N := 34) (v := .int (0 : Int32)) (ty := .int) hx hb hts iw7 tyX7 tyX7_ok nmX7 hown hK hP hD hS 0 rfl rfl 1 (Nat.le_of_ble_eq_true rfl) lk91 (fun _ h9 => h9) rfl (by decide +kernel) rfl rfl (Nat.le_of_ble_eq_true rfl) dX7_clear_7 (fun H locs hP hD hS => ?_)
  have hP : va_P D vwCl [oX7 q (0 : Int32) v_at v_begin v_token v_told v_undos v_changed v_felt v_wents v_wish v_trace] H := hP
  have hD : va_D A [oX7 q (0 : Int32) v_at v_begin v_token v_told v_undos v_changed v_felt v_wents v_wish v_trace] := hD
  refine lv_iload_n hx hb dX7_clear_10 rfl (lv_at hl 0 rfl) ?_
  exact hret v_size (0 : Int32) H locs _ ls (Option.some.inj h) hP hD hS dX7_clear_11
abbrev rm_X7_isLetter : Room := { frames := 1, cells := 0, slots := 0, locals := 25 }
set_option maxHeartbeats 4000000 in
set_option maxRecDepth 100000 in
theorem k_X7_isLetter (l : Launch) (D : va_G) (cI cZ cT : ClassId) (sz : Nat) (x0 : Int32) (res : R_X7_isLetter) (hf : f_X7_isLetter x0 = some res) : Met l yX7_isLetter wsX7_isLetter rm_X7_isLetter (cPre D (tyz cI cZ cT) [.int x0] sz []) (cPi D (tyz cI cZ cT) (fun (r : Int32) (_ : Unit) => r = res) (fun _ => []) [] sz) 0 0 (va_A [] sz) := by
  refine vx_meth_z (by decide) rfl (Nat.le_of_ble_eq_true rfl) ?_
  intro p e s m args below meth c A Q hx hb hml hown hts hK hP hD hA hS hret ls hl
  have hown : s.vm.findClass RX7 = some m.cls := hown
  have hl : lv_has ls 1 [(0, .int x0)] := hl
  have hFx : CallFix p m c cX7_isLetter 1 s args wsX7_isLetter RX7 := ⟨hx, hb, hml, hown, hts⟩
  have h := hf
  unfold f_X7_isLetter at h
  obtain ⟨H, eH⟩ : ∃ H, H = s.heap := ⟨_, rfl⟩
  rw [← eH] at hP ⊢
  obtain ⟨locs, el⟩ : ∃ locs : List Loc, locs = [] := ⟨_, rfl⟩
  rw [← el] at hS ⊢
  have hS : va_S A s.heap H locs := by rw [eH]; exact hS
  refine lv_iload_n hx hb dX7_isLetter_0 rfl (lv_at hl 0 rfl) ?_
  refine lv_i2l hx hb dX7_isLetter_1 rfl ?_
  refine lv_ldc2 (v := (97)) hx hb hown (hts (.constantLong RX7 95 (97)) (by decide +kernel)) dX7_isLetter_2 ?_
  refine lv_ldc2 (v := (122)) hx hb hown (hts (.constantLong RX7 97 (122)) (by decide +kernel)) dX7_isLetter_5 ?_
  obtain ⟨r1, hr1, h⟩ := xk_some h
  refine vx_SJ (As := [.long x0.toInt64, .long (97 : Int64), .long (122 : Int64)]) (rest := []) hFx (k_X7_in l D cI cZ cT H.size x0.toInt64 (97 : Int64) (122 : Int64) r1 hr1) (vx_cwS 3 hts gX7_isLetter_X7_in rfl rfl rfl (by decide +kernel) ⟨Nat.le_of_ble_eq_true rfl, Nat.le_of_ble_eq_true rfl⟩) hK hP hD hS hA rfl hl.1 rfl (Nat.le_of_ble_eq_true rfl) dX7_isLetter_8 ⟨Nat.zero_le _, Nat.zero_le _⟩ (fun H locs hP hS => ?_)
  obtain ⟨hz2, h⟩ := xz_some h
  exact hret r1 () H locs _ ls hz2 (Option.some.inj h) hP hD hS dX7_isLetter_11
abbrev rm_X7_isFigure : Room := { frames := 1, cells := 0, slots := 0, locals := 25 }
set_option maxHeartbeats 4000000 in
set_option maxRecDepth 100000 in
theorem k_X7_isFigure (l : Launch) (D : va_G) (cI cZ cT : ClassId) (sz : Nat) (x0 : Int32) (res : R_X7_isFigure) (hf : f_X7_isFigure x0 = some res) : Met l yX7_isFigure wsX7_isFigure rm_X7_isFigure (cPre D (tyz cI cZ cT) [.int x0] sz []) (cPi D (tyz cI cZ cT) (fun (r : Int32) (_ : Unit) => r = res) (fun _ => []) [] sz) 0 0 (va_A [] sz) := by
  refine vx_meth_z (by decide) rfl (Nat.le_of_ble_eq_true rfl) ?_
  intro p e s m args below meth c A Q hx hb hml hown hts hK hP hD hA hS hret ls hl
  have hown : s.vm.findClass RX7 = some m.cls := hown
  have hl : lv_has ls 1 [(0, .int x0)] := hl
  have hFx : CallFix p m c cX7_isFigure 1 s args wsX7_isFigure RX7 := ⟨hx, hb, hml, hown, hts⟩
  have h := hf
  unfold f_X7_isFigure at h
  obtain ⟨H, eH⟩ : ∃ H, H = s.heap := ⟨_, rfl⟩
  rw [← eH] at hP ⊢
  obtain ⟨locs, el⟩ : ∃ locs : List Loc, locs = [] := ⟨_, rfl⟩
  rw [← el] at hS ⊢
  have hS : va_S A s.heap H locs := by rw [eH]; exact hS
  refine lv_iload_n hx hb dX7_isFigure_0 rfl (lv_at hl 0 rfl) ?_
  refine lv_i2l hx hb dX7_isFigure_1 rfl ?_
  refine lv_ldc2 (v := (48)) hx hb hown (hts (.constantLong RX7 99 (48)) (by decide +kernel)) dX7_isFigure_2 ?_
  refine lv_ldc2 (v := (57)) hx hb hown (hts (.constantLong RX7 101 (57)) (by decide +kernel)) dX7_isFigure_5 ?_
  obtain ⟨r1, hr1, h⟩ := xk_some h
  refine vx_SJ (As := [.long x0.toInt64, .long (48 : Int64), .long (57 : Int64)]) (rest := []) hFx (k_X7_in l D cI cZ cT H.size x0.toInt64 (48 : Int64) (57 : Int64) r1 hr1) (vx_cwS 3 hts gX7_isFigure_X7_in rfl rfl rfl (by decide +kernel) ⟨Nat.le_of_ble_eq_true rfl, Nat.le_of_ble_eq_true rfl⟩) hK hP hD hS hA rfl hl.1 rfl (Nat.le_of_ble_eq_true rfl) dX7_isFigure_8 ⟨Nat.zero_le _, Nat.zero_le _⟩ (fun H locs hP hS => ?_)
  obtain ⟨hz2, h⟩ := xz_some h
  exact hret r1 () H locs _ ls hz2 (Option.some.inj h) hP hD hS dX7_isFigure_11
abbrev rm_X7_readLetters : Room := { frames := 2, cells := 0, slots := 0, locals := 45 }
set_option maxHeartbeats 4000000 in
set_option maxRecDepth 100000 in
theorem k_X7_readLetters (l : Launch) (D : va_G) (cI cZ cT : ClassId) (q : Nat → Nat) (sz : Nat) (v_size : Int32) (v_at : Int32) (v_begin : Int32) (v_token : Int32) (v_told : Int32) (v_undos : Int32) (v_changed : Int32) (v_felt : Int32) (v_wents : Int32) (v_wish : Int32) (v_trace : Int64) (v_text : Nat → Int32) (res : R_X7_readLetters) (fu : Nat) (hf : f_X7_readLetters fu v_text v_size v_at v_begin v_token v_told = some res) : Met l yX7_readLetters wsX7_readLetters rm_X7_readLetters (cPre D (tyz cI cZ cT) [.ref (q 0)] sz [oX7 q v_size v_at v_begin v_token v_told v_undos v_changed v_felt v_wents v_wish v_trace, rA (q 1) cI 200 v_text]) (cPv D (tyz cI cZ cT) (fun (u : Int32 × Int32 × Int32) => u = res) (fun u => [oX7 q v_size u.1 v_begin u.2.1 u.2.2 v_undos v_changed v_felt v_wents v_wish v_trace, rA (q 1) cI 200 v_text]) [oX7 q v_size v_at v_begin v_token v_told v_undos v_changed v_felt v_wents v_wish v_trace, rA (q 1) cI 200 v_text] sz) 0 0 (va_A [oX7 q v_size v_at v_begin v_token v_told v_undos v_changed v_felt v_wents v_wish v_trace, rA (q 1) cI 200 v_text] sz) := by
  refine vx_meth_v (by decide) rfl (Nat.le_of_ble_eq_true rfl) ?_
  intro p e s m args below meth c A Q hx hb hml hown hts hK hP hD hA hS hret ls hl
  have hown : s.vm.findClass RX7 = some m.cls := hown
  have hl : lv_has ls 2 [(0, .ref (q 0))] := hl
  have hFx : CallFix p m c cX7_readLetters 2 s args wsX7_readLetters RX7 := ⟨hx, hb, hml, hown, hts⟩
  have lk116 := hts (.fieldLink RX7 116 "FogGuidesModel" "token" "I") (by decide +kernel)
  have iw7 : ∀ w ∈ u_ws RX7 TX7 34, w ∈ wsX7_readLetters := by decide +kernel
  have lk103 := hts (.fieldLink RX7 103 "FogGuidesModel" "at" "I") (by decide +kernel)
  have lk113 := hts (.fieldLink RX7 113 "FogGuidesModel" "begin" "I") (by decide +kernel)
  have lk106 := hts (.fieldLink RX7 106 "FogGuidesModel" "told" "I") (by decide +kernel)
  have lk91 := hts (.fieldLink RX7 91 "FogGuidesModel" "size" "I") (by decide +kernel)
  have lk7 := hts (.fieldLink RX7 7 "FogGuidesModel" "text" "[I") (by decide +kernel)
  have hJ102 : ∀ (v_at : Int32) (v_token : Int32) (v_told : Int32) (z0 : Int32) (H : Heap) (locs : List Loc) (ls : Array Slot), f_X7_readLetters_J102 fu v_text v_size v_at v_begin v_token v_told z0 = some res → va_P D vwCl [oX7 q v_size v_at v_begin v_token v_told v_undos v_changed v_felt v_wents v_wish v_trace, rA (q 1) cI 200 v_text] H → va_D A [oX7 q v_size v_at v_begin v_token v_told v_undos v_changed v_felt v_wents v_wish v_trace, rA (q 1) cI 200 v_text] → va_S A s.heap H locs → lv_has ls 2 [(0, .ref (q 0))] → W p l e rm_X7_readLetters s m args below meth c H locs 0 0 Q (F0 m 102 ls [.int z0]) := by
    intro v_at v_token v_told z0 H locs ls h hP hD hS hl
    unfold f_X7_readLetters_J102 at h
    refine lv_istore_n (lv' := [(1, .int z0), (0, .ref (q 0))]) hx hb dX7_readLetters_102 rfl hl (by decide) rfl (fun ls hl => ?_)
    refine lv_aload_n hx hb dX7_readLetters_103 rfl (lv_at hl 1 rfl) ?_
    refine lv_iload_n hx hb dX7_readLetters_104 rfl (lv_at hl 0 rfl) ?_
    refine lv_if_eq (tgt := 125) hx hb dX7_readLetters_105 (by decide) (fun c1 => ?_) (fun c1 => ?_)
    · have h := (if_pos c1).symm.trans h
      refine lv_iconst (v := 4) hx hb dX7_readLetters_125 (by decide) ?_
      refine va_put (C := RX7) (T := TX7) (N := 34) (v := .int (4 : Int32)) (ty := .int) hx hb hts iw7 tyX7 tyX7_ok nmX7 hown hK hP hD hS 0 rfl rfl 4 (Nat.le_of_ble_eq_true rfl) lk116 (fun _ h9 => h9) rfl (by decide +kernel) rfl rfl (Nat.le_of_ble_eq_true rfl) dX7_readLetters_126 (fun H locs hP hD hS => ?_)
      have hP : va_P D vwCl [oX7 q v_size v_at v_begin (4 : Int32) v_told v_undos v_changed v_felt v_wents v_wish v_trace, rA (q 1) cI 200 v_text] H := hP
      have hD : va_D A [oX7 q v_size v_at v_begin (4 : Int32) v_told v_undos v_changed v_felt v_wents v_wish v_trace, rA (q 1) cI 200 v_text] := hD
      exact hret ((v_at, (4 : Int32), v_told)) H locs _ ls (Option.some.inj h) hP hD hS dX7_readLetters_129
    · have h := (if_neg c1).symm.trans h
      refine lv_aload_n hx hb dX7_readLetters_108 rfl (lv_at hl 1 rfl) ?_
      refine va_get (C := RX7) (T := TX7) (N := 34) (v := .int v_at) hx hb hts iw7 hown hK hP 0 rfl rfl 2 (Nat.le_of_ble_eq_true rfl) lk103 (fun _ h9 => h9) rfl dX7_readLetters_109 ?_
      refine lv_aload_n hx hb dX7_readLetters_112 rfl (lv_at hl 1 rfl) ?_
      refine va_get (C := RX7) (T := TX7) (N := 34) (v := .int v_begin) hx hb hts iw7 hown hK hP 0 rfl rfl 3 (Nat.le_of_ble_eq_true rfl) lk113 (fun _ h9 => h9) rfl dX7_readLetters_113 ?_
      refine lv_isub hx hb dX7_readLetters_116 ?_
      refine lv_iconst (v := 1) hx hb dX7_readLetters_117 (by decide) ?_
      refine lv_icmp_ne (tgt := 125) hx hb dX7_readLetters_118 (by decide) (fun c2 => ?_) (fun c2 => ?_)
      · have h := (if_neg c2).symm.trans h
        refine lv_iconst (v := 4) hx hb dX7_readLetters_125 (by decide) ?_
        refine va_put (C := RX7) (T := TX7) (N := 34) (v := .int (4 : Int32)) (ty := .int) hx hb hts iw7 tyX7 tyX7_ok nmX7 hown hK hP hD hS 0 rfl rfl 4 (Nat.le_of_ble_eq_true rfl) lk116 (fun _ h9 => h9) rfl (by decide +kernel) rfl rfl (Nat.le_of_ble_eq_true rfl) dX7_readLetters_126 (fun H locs hP hD hS => ?_)
        have hP : va_P D vwCl [oX7 q v_size v_at v_begin (4 : Int32) v_told v_undos v_changed v_felt v_wents v_wish v_trace, rA (q 1) cI 200 v_text] H := hP
        have hD : va_D A [oX7 q v_size v_at v_begin (4 : Int32) v_told v_undos v_changed v_felt v_wents v_wish v_trace, rA (q 1) cI 200 v_text] := hD
        exact hret ((v_at, (4 : Int32), v_told)) H locs _ ls (Option.some.inj h) hP hD hS dX7_readLetters_129
      · have h := (if_pos c2).symm.trans h
        refine lv_iconst (v := 1) hx hb dX7_readLetters_121 (by decide) ?_
        refine lv_goto (tgt := 126) hx hb dX7_readLetters_122 (by decide) ?_
        refine va_put (C := RX7) (T := TX7) (N := 34) (v := .int (1 : Int32)) (ty := .int) hx hb hts iw7 tyX7 tyX7_ok nmX7 hown hK hP hD hS 0 rfl rfl 4 (Nat.le_of_ble_eq_true rfl) lk116 (fun _ h9 => h9) rfl (by decide +kernel) rfl rfl (Nat.le_of_ble_eq_true rfl) dX7_readLetters_126 (fun H locs hP hD hS => ?_)
        have hP : va_P D vwCl [oX7 q v_size v_at v_begin (1 : Int32) v_told v_undos v_changed v_felt v_wents v_wish v_trace, rA (q 1) cI 200 v_text] H := hP
        have hD : va_D A [oX7 q v_size v_at v_begin (1 : Int32) v_told v_undos v_changed v_felt v_wents v_wish v_trace, rA (q 1) cI 200 v_text] := hD
        exact hret ((v_at, (1 : Int32), v_told)) H locs _ ls (Option.some.inj h) hP hD hS dX7_readLetters_129
  have hJ52 : ∀ (v_at : Int32) (v_token : Int32) (v_told : Int32) (H : Heap) (locs : List Loc) (ls : Array Slot), f_X7_readLetters_J52 fu v_text v_size v_at v_begin v_token v_told = some res → va_P D vwCl [oX7 q v_size v_at v_begin v_token v_told v_undos v_changed v_felt v_wents v_wish v_trace, rA (q 1) cI 200 v_text] H → va_D A [oX7 q v_size v_at v_begin v_token v_told v_undos v_changed v_felt v_wents v_wish v_trace, rA (q 1) cI 200 v_text] → va_S A s.heap H locs → lv_has ls 2 [(0, .ref (q 0))] → W p l e rm_X7_readLetters s m args below meth c H locs 0 0 Q (F0 m 52 ls []) := by
    intro v_at v_token v_told H locs ls h hP hD hS hl
    unfold f_X7_readLetters_J52 at h
    refine lv_aload_n hx hb dX7_readLetters_52 rfl (lv_at hl 0 rfl) ?_
    refine va_get (C := RX7) (T := TX7) (N := 34) (v := .int v_told) hx hb hts iw7 hown hK hP 0 rfl rfl 5 (Nat.le_of_ble_eq_true rfl) lk106 (fun _ h9 => h9) rfl dX7_readLetters_53 ?_
    refine lv_bipush (v := 99) hx hb dX7_readLetters_56 (by decide) ?_
    refine lv_icmp_eq (tgt := 97) hx hb dX7_readLetters_58 (by decide) (fun c3 => ?_) (fun c3 => ?_)
    · have h := (if_pos c3).symm.trans h
      refine lv_iconst (v := 1) hx hb dX7_readLetters_97 (by decide) ?_
      refine lv_goto (tgt := 102) hx hb dX7_readLetters_98 (by decide) ?_
      exact hJ102 v_at v_token v_told (1 : Int32) H locs ls h hP hD hS (lv_sub hl [0] rfl)
    · have h := (if_neg c3).symm.trans h
      refine lv_aload_n hx hb dX7_readLetters_61 rfl (lv_at hl 0 rfl) ?_
      refine va_get (C := RX7) (T := TX7) (N := 34) (v := .int v_told) hx hb hts iw7 hown hK hP 0 rfl rfl 5 (Nat.le_of_ble_eq_true rfl) lk106 (fun _ h9 => h9) rfl dX7_readLetters_62 ?_
      refine lv_bipush (v := 115) hx hb dX7_readLetters_65 (by decide) ?_
      refine lv_icmp_eq (tgt := 97) hx hb dX7_readLetters_67 (by decide) (fun c4 => ?_) (fun c4 => ?_)
      · have h := (if_pos c4).symm.trans h
        refine lv_iconst (v := 1) hx hb dX7_readLetters_97 (by decide) ?_
        refine lv_goto (tgt := 102) hx hb dX7_readLetters_98 (by decide) ?_
        exact hJ102 v_at v_token v_told (1 : Int32) H locs ls h hP hD hS (lv_sub hl [0] rfl)
      · have h := (if_neg c4).symm.trans h
        refine lv_aload_n hx hb dX7_readLetters_70 rfl (lv_at hl 0 rfl) ?_
        refine va_get (C := RX7) (T := TX7) (N := 34) (v := .int v_told) hx hb hts iw7 hown hK hP 0 rfl rfl 5 (Nat.le_of_ble_eq_true rfl) lk106 (fun _ h9 => h9) rfl dX7_readLetters_71 ?_
        refine lv_bipush (v := 103) hx hb dX7_readLetters_74 (by decide) ?_
        refine lv_icmp_eq (tgt := 97) hx hb dX7_readLetters_76 (by decide) (fun c5 => ?_) (fun c5 => ?_)
        · have h := (if_pos c5).symm.trans h
          refine lv_iconst (v := 1) hx hb dX7_readLetters_97 (by decide) ?_
          refine lv_goto (tgt := 102) hx hb dX7_readLetters_98 (by decide) ?_
          exact hJ102 v_at v_token v_told (1 : Int32) H locs ls h hP hD hS (lv_sub hl [0] rfl)
        · have h := (if_neg c5).symm.trans h
          refine lv_aload_n hx hb dX7_readLetters_79 rfl (lv_at hl 0 rfl) ?_
          refine va_get (C := RX7) (T := TX7) (N := 34) (v := .int v_told) hx hb hts iw7 hown hK hP 0 rfl rfl 5 (Nat.le_of_ble_eq_true rfl) lk106 (fun _ h9 => h9) rfl dX7_readLetters_80 ?_
          refine lv_bipush (v := 102) hx hb dX7_readLetters_83 (by decide) ?_
          refine lv_icmp_eq (tgt := 97) hx hb dX7_readLetters_85 (by decide) (fun c6 => ?_) (fun c6 => ?_)
          · have h := (if_pos c6).symm.trans h
            refine lv_iconst (v := 1) hx hb dX7_readLetters_97 (by decide) ?_
            refine lv_goto (tgt := 102) hx hb dX7_readLetters_98 (by decide) ?_
            exact hJ102 v_at v_token v_told (1 : Int32) H locs ls h hP hD hS (lv_sub hl [0] rfl)
          · have h := (if_neg c6).symm.trans h
            refine lv_aload_n hx hb dX7_readLetters_88 rfl (lv_at hl 0 rfl) ?_
            refine va_get (C := RX7) (T := TX7) (N := 34) (v := .int v_told) hx hb hts iw7 hown hK hP 0 rfl rfl 5 (Nat.le_of_ble_eq_true rfl) lk106 (fun _ h9 => h9) rfl dX7_readLetters_89 ?_
            refine lv_bipush (v := 104) hx hb dX7_readLetters_92 (by decide) ?_
            refine lv_icmp_ne (tgt := 101) hx hb dX7_readLetters_94 (by decide) (fun c7 => ?_) (fun c7 => ?_)
            · have h := (if_neg c7).symm.trans h
              refine lv_iconst (v := 0) hx hb dX7_readLetters_101 (by decide) ?_
              exact hJ102 v_at v_token v_told (0 : Int32) H locs ls h hP hD hS (lv_sub hl [0] rfl)
            · have h := (if_pos c7).symm.trans h
              refine lv_iconst (v := 1) hx hb dX7_readLetters_97 (by decide) ?_
              refine lv_goto (tgt := 102) hx hb dX7_readLetters_98 (by decide) ?_
              exact hJ102 v_at v_token v_told (1 : Int32) H locs ls h hP hD hS (lv_sub hl [0] rfl)
  have hL13 : ∀ (n13 : Nat), ∀ (v_at : Int32) (v_token : Int32) (v_told : Int32) (H : Heap) (locs : List Loc) (ls : Array Slot), f_X7_readLetters_L13 fu n13 v_text v_size v_at v_begin v_token v_told = some res → va_P D vwCl [oX7 q v_size v_at v_begin v_token v_told v_undos v_changed v_felt v_wents v_wish v_trace, rA (q 1) cI 200 v_text] H → va_D A [oX7 q v_size v_at v_begin v_token v_told v_undos v_changed v_felt v_wents v_wish v_trace, rA (q 1) cI 200 v_text] → va_S A s.heap H locs → lv_has ls 2 [(0, .ref (q 0))] → W p l e rm_X7_readLetters s m args below meth c H locs 0 0 Q (F0 m 13 ls []) := by
    intro n13
    induction n13 with
    | zero =>
      intro v_at v_token v_told H locs ls h hP hD hS hl
      cases (show (none : Option R_X7_readLetters) = some res from h)
    | succ n13 ih13 =>
      intro v_at v_token v_told H locs ls h hP hD hS hl
      have h : f_X7_readLetters_L13b fu (f_X7_readLetters_L13 fu n13) v_text v_size v_at v_begin v_token v_told = some res := h
      unfold f_X7_readLetters_L13b at h
      refine lv_aload_n hx hb dX7_readLetters_13 rfl (lv_at hl 0 rfl) ?_
      refine va_get (C := RX7) (T := TX7) (N := 34) (v := .int v_at) hx hb hts iw7 hown hK hP 0 rfl rfl 2 (Nat.le_of_ble_eq_true rfl) lk103 (fun _ h9 => h9) rfl dX7_readLetters_14 ?_
      refine lv_aload_n hx hb dX7_readLetters_17 rfl (lv_at hl 0 rfl) ?_
      refine va_get (C := RX7) (T := TX7) (N := 34) (v := .int v_size) hx hb hts iw7 hown hK hP 0 rfl rfl 1 (Nat.le_of_ble_eq_true rfl) lk91 (fun _ h9 => h9) rfl dX7_readLetters_18 ?_
      refine lv_icmp_ge (tgt := 52) hx hb dX7_readLetters_21 (by decide) (fun c8 => ?_) (fun c8 => ?_)
      · have h := (if_pos c8).symm.trans h
        exact hJ52 v_at v_token v_told H locs ls h hP hD hS (lv_sub hl [0] rfl)
      · have h := (if_neg c8).symm.trans h
        refine lv_aload_n hx hb dX7_readLetters_24 rfl (lv_at hl 0 rfl) ?_
        refine va_get (C := RX7) (T := TX7) (N := 34) (v := .ref (q 1)) hx hb hts iw7 hown hK hP 0 rfl rfl 0 (Nat.le_of_ble_eq_true rfl) lk7 (fun _ h9 => h9) rfl dX7_readLetters_25 ?_
        refine lv_aload_n hx hb dX7_readLetters_28 rfl (lv_at hl 0 rfl) ?_
        refine va_get (C := RX7) (T := TX7) (N := 34) (v := .int v_at) hx hb hts iw7 hown hK hP 0 rfl rfl 2 (Nat.le_of_ble_eq_true rfl) lk103 (fun _ h9 => h9) rfl dX7_readLetters_29 ?_
        obtain ⟨hi9, h⟩ := xb_some h
        refine va_iald hx hb hK hP 1 0 rfl rfl hi9 dX7_readLetters_32 ?_
        obtain ⟨r10, hr10, h⟩ := xk_some h
        refine vx_SJ (As := [.int (v_text v_at.toNatClampNeg)]) (rest := []) hFx (k_X7_isLetter l D cI cZ cT H.size (v_text v_at.toNatClampNeg) r10 hr10) (vx_cwS 1 hts gX7_readLetters_X7_isLetter rfl rfl rfl (by decide +kernel) ⟨Nat.le_of_ble_eq_true rfl, Nat.le_of_ble_eq_true rfl⟩) hK hP hD hS hA rfl hl.1 rfl (Nat.le_of_ble_eq_true rfl) dX7_readLetters_33 ⟨Nat.zero_le _, Nat.zero_le _⟩ (fun H locs hP hS => ?_)
        refine lv_if_eq (tgt := 52) hx hb dX7_readLetters_36 (by decide) (fun c11 => ?_) (fun c11 => ?_)
        · have h := (if_pos c11).symm.trans h
          exact hJ52 v_at v_token v_told H locs ls h hP hD hS (lv_sub hl [0] rfl)
        · have h := (if_neg c11).symm.trans h
          refine lv_aload_n hx hb dX7_readLetters_39 rfl (lv_at hl 0 rfl) ?_
          refine lv_dup hx hb dX7_readLetters_40 rfl ?_
          refine va_get (C := RX7) (T := TX7) (N := 34) (v := .int v_at) hx hb hts iw7 hown hK hP 0 rfl rfl 2 (Nat.le_of_ble_eq_true rfl) lk103 (fun _ h9 => h9) rfl dX7_readLetters_41 ?_
          refine lv_iconst (v := 1) hx hb dX7_readLetters_44 (by decide) ?_
          refine lv_iadd hx hb dX7_readLetters_45 ?_
          refine va_put (C := RX7) (T := TX7) (N := 34) (v := .int (v_at + (1 : Int32))) (ty := .int) hx hb hts iw7 tyX7 tyX7_ok nmX7 hown hK hP hD hS 0 rfl rfl 2 (Nat.le_of_ble_eq_true rfl) lk103 (fun _ h9 => h9) rfl (by decide +kernel) rfl rfl (Nat.le_of_ble_eq_true rfl) dX7_readLetters_46 (fun H locs hP hD hS => ?_)
          have hP : va_P D vwCl [oX7 q v_size (v_at + (1 : Int32)) v_begin v_token v_told v_undos v_changed v_felt v_wents v_wish v_trace, rA (q 1) cI 200 v_text] H := hP
          have hD : va_D A [oX7 q v_size (v_at + (1 : Int32)) v_begin v_token v_told v_undos v_changed v_felt v_wents v_wish v_trace, rA (q 1) cI 200 v_text] := hD
          refine lv_goto (tgt := 13) hx hb dX7_readLetters_49 (by decide) ?_
          exact ih13 (v_at + (1 : Int32)) v_token v_told H locs ls h hP hD hS (lv_sub hl [0] rfl)
  have h := hf
  unfold f_X7_readLetters at h
  obtain ⟨H, eH⟩ : ∃ H, H = s.heap := ⟨_, rfl⟩
  rw [← eH] at hP ⊢
  obtain ⟨locs, el⟩ : ∃ locs : List Loc, locs = [] := ⟨_, rfl⟩
  rw [← el] at hS ⊢
  have hS : va_S A s.heap H locs := by rw [eH]; exact hS
  refine lv_aload_n hx hb dX7_readLetters_0 rfl (lv_at hl 0 rfl) ?_
  refine lv_aload_n hx hb dX7_readLetters_1 rfl (lv_at hl 0 rfl) ?_
  refine va_get (C := RX7) (T := TX7) (N := 34) (v := .ref (q 1)) hx hb hts iw7 hown hK hP 0 rfl rfl 0 (Nat.le_of_ble_eq_true rfl) lk7 (fun _ h9 => h9) rfl dX7_readLetters_2 ?_
  refine lv_aload_n hx hb dX7_readLetters_5 rfl (lv_at hl 0 rfl) ?_
  refine va_get (C := RX7) (T := TX7) (N := 34) (v := .int v_at) hx hb hts iw7 hown hK hP 0 rfl rfl 2 (Nat.le_of_ble_eq_true rfl) lk103 (fun _ h9 => h9) rfl dX7_readLetters_6 ?_
  obtain ⟨hi12, h⟩ := xb_some h
  refine va_iald hx hb hK hP 1 0 rfl rfl hi12 dX7_readLetters_9 ?_
  refine va_put (C := RX7) (T := TX7) (N := 34) (v := .int (v_text v_at.toNatClampNeg)) (ty := .int) hx hb hts iw7 tyX7 tyX7_ok nmX7 hown hK hP hD hS 0 rfl rfl 5 (Nat.le_of_ble_eq_true rfl) lk106 (fun _ h9 => h9) rfl (by decide +kernel) rfl rfl (Nat.le_of_ble_eq_true rfl) dX7_readLetters_10 (fun H locs hP hD hS => ?_)
  have hP : va_P D vwCl [oX7 q v_size v_at v_begin v_token (v_text v_at.toNatClampNeg) v_undos v_changed v_felt v_wents v_wish v_trace, rA (q 1) cI 200 v_text] H := hP
  have hD : va_D A [oX7 q v_size v_at v_begin v_token (v_text v_at.toNatClampNeg) v_undos v_changed v_felt v_wents v_wish v_trace, rA (q 1) cI 200 v_text] := hD
  exact hL13 fu v_at v_token (v_text v_at.toNatClampNeg) H locs ls h hP hD hS (lv_sub hl [0] rfl)
abbrev rm_X7_readNumber : Room := { frames := 2, cells := 0, slots := 0, locals := 45 }
set_option maxHeartbeats 4000000 in
set_option maxRecDepth 100000 in
theorem k_X7_readNumber (l : Launch) (D : va_G) (cI cZ cT : ClassId) (q : Nat → Nat) (sz : Nat) (v_size : Int32) (v_at : Int32) (v_begin : Int32) (v_token : Int32) (v_told : Int32) (v_undos : Int32) (v_changed : Int32) (v_felt : Int32) (v_wents : Int32) (v_wish : Int32) (v_trace : Int64) (v_text : Nat → Int32) (res : R_X7_readNumber) (fu : Nat) (hf : f_X7_readNumber fu v_text v_size v_at v_begin v_token v_told = some res) : Met l yX7_readNumber wsX7_readNumber rm_X7_readNumber (cPre D (tyz cI cZ cT) [.ref (q 0)] sz [oX7 q v_size v_at v_begin v_token v_told v_undos v_changed v_felt v_wents v_wish v_trace, rA (q 1) cI 200 v_text]) (cPv D (tyz cI cZ cT) (fun (u : Int32 × Int32 × Int32) => u = res) (fun u => [oX7 q v_size u.1 v_begin u.2.1 u.2.2 v_undos v_changed v_felt v_wents v_wish v_trace, rA (q 1) cI 200 v_text]) [oX7 q v_size v_at v_begin v_token v_told v_undos v_changed v_felt v_wents v_wish v_trace, rA (q 1) cI 200 v_text] sz) 0 0 (va_A [oX7 q v_size v_at v_begin v_token v_told v_undos v_changed v_felt v_wents v_wish v_trace, rA (q 1) cI 200 v_text] sz) := by
  refine vx_meth_v (by decide) rfl (Nat.le_of_ble_eq_true rfl) ?_
  intro p e s m args below meth c A Q hx hb hml hown hts hK hP hD hA hS hret ls hl
  have hown : s.vm.findClass RX7 = some m.cls := hown
  have hl : lv_has ls 2 [(0, .ref (q 0))] := hl
  have hFx : CallFix p m c cX7_readNumber 2 s args wsX7_readNumber RX7 := ⟨hx, hb, hml, hown, hts⟩
  have lk116 := hts (.fieldLink RX7 116 "FogGuidesModel" "token" "I") (by decide +kernel)
  have iw7 : ∀ w ∈ u_ws RX7 TX7 34, w ∈ wsX7_readNumber := by decide +kernel
  have lk106 := hts (.fieldLink RX7 106 "FogGuidesModel" "told" "I") (by decide +kernel)
  have lk103 := hts (.fieldLink RX7 103 "FogGuidesModel" "at" "I") (by decide +kernel)
  have lk113 := hts (.fieldLink RX7 113 "FogGuidesModel" "begin" "I") (by decide +kernel)
  have lk7 := hts (.fieldLink RX7 7 "FogGuidesModel" "text" "[I") (by decide +kernel)
  have lk91 := hts (.fieldLink RX7 91 "FogGuidesModel" "size" "I") (by decide +kernel)
  have hJ103 : ∀ (v_at : Int32) (v_token : Int32) (v_told : Int32) (x1 : Int32) (H : Heap) (locs : List Loc) (ls : Array Slot), f_X7_readNumber_J103 fu v_text v_size v_at v_begin v_token v_told x1 = some res → va_P D vwCl [oX7 q v_size v_at v_begin v_token v_told v_undos v_changed v_felt v_wents v_wish v_trace, rA (q 1) cI 200 v_text] H → va_D A [oX7 q v_size v_at v_begin v_token v_told v_undos v_changed v_felt v_wents v_wish v_trace, rA (q 1) cI 200 v_text] → va_S A s.heap H locs → lv_has ls 2 [(0, .ref (q 0)), (1, .int x1)] → W p l e rm_X7_readNumber s m args below meth c H locs 0 0 Q (F0 m 103 ls [.ref (q 0)]) := by
    intro v_at v_token v_told x1 H locs ls h hP hD hS hl
    unfold f_X7_readNumber_J103 at h
    refine lv_iconst (v := 4) hx hb dX7_readNumber_103 (by decide) ?_
    refine lv_goto (tgt := 108) hx hb dX7_readNumber_104 (by decide) ?_
    refine va_put (C := RX7) (T := TX7) (N := 34) (v := .int (4 : Int32)) (ty := .int) hx hb hts iw7 tyX7 tyX7_ok nmX7 hown hK hP hD hS 0 rfl rfl 4 (Nat.le_of_ble_eq_true rfl) lk116 (fun _ h9 => h9) rfl (by decide +kernel) rfl rfl (Nat.le_of_ble_eq_true rfl) dX7_readNumber_108 (fun H locs hP hD hS => ?_)
    have hP : va_P D vwCl [oX7 q v_size v_at v_begin (4 : Int32) v_told v_undos v_changed v_felt v_wents v_wish v_trace, rA (q 1) cI 200 v_text] H := hP
    have hD : va_D A [oX7 q v_size v_at v_begin (4 : Int32) v_told v_undos v_changed v_felt v_wents v_wish v_trace, rA (q 1) cI 200 v_text] := hD
    refine lv_aload_n hx hb dX7_readNumber_111 rfl (lv_at hl 0 rfl) ?_
    refine lv_iload_n hx hb dX7_readNumber_112 rfl (lv_at hl 1 rfl) ?_
    refine va_put (C := RX7) (T := TX7) (N := 34) (v := .int x1) (ty := .int) hx hb hts iw7 tyX7 tyX7_ok nmX7 hown hK hP hD hS 0 rfl rfl 5 (Nat.le_of_ble_eq_true rfl) lk106 (fun _ h9 => h9) rfl (by decide +kernel) rfl rfl (Nat.le_of_ble_eq_true rfl) dX7_readNumber_113 (fun H locs hP hD hS => ?_)
    have hP : va_P D vwCl [oX7 q v_size v_at v_begin (4 : Int32) x1 v_undos v_changed v_felt v_wents v_wish v_trace, rA (q 1) cI 200 v_text] H := hP
    have hD : va_D A [oX7 q v_size v_at v_begin (4 : Int32) x1 v_undos v_changed v_felt v_wents v_wish v_trace, rA (q 1) cI 200 v_text] := hD
    exact hret ((v_at, (4 : Int32), x1)) H locs _ ls (Option.some.inj h) hP hD hS dX7_readNumber_116
  have hJ69 : ∀ (v_at : Int32) (v_token : Int32) (v_told : Int32) (x1 : Int32) (H : Heap) (locs : List Loc) (ls : Array Slot), f_X7_readNumber_J69 fu v_text v_size v_at v_begin v_token v_told x1 = some res → va_P D vwCl [oX7 q v_size v_at v_begin v_token v_told v_undos v_changed v_felt v_wents v_wish v_trace, rA (q 1) cI 200 v_text] H → va_D A [oX7 q v_size v_at v_begin v_token v_told v_undos v_changed v_felt v_wents v_wish v_trace, rA (q 1) cI 200 v_text] → va_S A s.heap H locs → lv_has ls 2 [(0, .ref (q 0)), (1, .int x1)] → W p l e rm_X7_readNumber s m args below meth c H locs 0 0 Q (F0 m 69 ls []) := by
    intro v_at v_token v_told x1 H locs ls h hP hD hS hl
    unfold f_X7_readNumber_J69 at h
    refine lv_aload_n hx hb dX7_readNumber_69 rfl (lv_at hl 0 rfl) ?_
    refine lv_iload_n hx hb dX7_readNumber_70 rfl (lv_at hl 1 rfl) ?_
    refine lv_bipush (v := 99) hx hb dX7_readNumber_71 (by decide) ?_
    refine lv_icmp_gt (tgt := 103) hx hb dX7_readNumber_73 (by decide) (fun c1 => ?_) (fun c1 => ?_)
    · have h := (if_pos c1).symm.trans h
      exact hJ103 v_at v_token v_told x1 H locs ls h hP hD hS (lv_sub hl [0, 1] rfl)
    · have h := (if_neg c1).symm.trans h
      refine lv_aload_n hx hb dX7_readNumber_76 rfl (lv_at hl 0 rfl) ?_
      refine va_get (C := RX7) (T := TX7) (N := 34) (v := .int v_at) hx hb hts iw7 hown hK hP 0 rfl rfl 2 (Nat.le_of_ble_eq_true rfl) lk103 (fun _ h9 => h9) rfl dX7_readNumber_77 ?_
      refine lv_aload_n hx hb dX7_readNumber_80 rfl (lv_at hl 0 rfl) ?_
      refine va_get (C := RX7) (T := TX7) (N := 34) (v := .int v_begin) hx hb hts iw7 hown hK hP 0 rfl rfl 3 (Nat.le_of_ble_eq_true rfl) lk113 (fun _ h9 => h9) rfl dX7_readNumber_81 ?_
      refine lv_isub hx hb dX7_readNumber_84 ?_
      refine lv_iconst (v := 1) hx hb dX7_readNumber_85 (by decide) ?_
      refine lv_icmp_le (tgt := 107) hx hb dX7_readNumber_86 (by decide) (fun c2 => ?_) (fun c2 => ?_)
      · have h := (if_pos c2).symm.trans h
        refine lv_iconst (v := 2) hx hb dX7_readNumber_107 (by decide) ?_
        refine va_put (C := RX7) (T := TX7) (N := 34) (v := .int (2 : Int32)) (ty := .int) hx hb hts iw7 tyX7 tyX7_ok nmX7 hown hK hP hD hS 0 rfl rfl 4 (Nat.le_of_ble_eq_true rfl) lk116 (fun _ h9 => h9) rfl (by decide +kernel) rfl rfl (Nat.le_of_ble_eq_true rfl) dX7_readNumber_108 (fun H locs hP hD hS => ?_)
        have hP : va_P D vwCl [oX7 q v_size v_at v_begin (2 : Int32) v_told v_undos v_changed v_felt v_wents v_wish v_trace, rA (q 1) cI 200 v_text] H := hP
        have hD : va_D A [oX7 q v_size v_at v_begin (2 : Int32) v_told v_undos v_changed v_felt v_wents v_wish v_trace, rA (q 1) cI 200 v_text] := hD
        refine lv_aload_n hx hb dX7_readNumber_111 rfl (lv_at hl 0 rfl) ?_
        refine lv_iload_n hx hb dX7_readNumber_112 rfl (lv_at hl 1 rfl) ?_
        refine va_put (C := RX7) (T := TX7) (N := 34) (v := .int x1) (ty := .int) hx hb hts iw7 tyX7 tyX7_ok nmX7 hown hK hP hD hS 0 rfl rfl 5 (Nat.le_of_ble_eq_true rfl) lk106 (fun _ h9 => h9) rfl (by decide +kernel) rfl rfl (Nat.le_of_ble_eq_true rfl) dX7_readNumber_113 (fun H locs hP hD hS => ?_)
        have hP : va_P D vwCl [oX7 q v_size v_at v_begin (2 : Int32) x1 v_undos v_changed v_felt v_wents v_wish v_trace, rA (q 1) cI 200 v_text] H := hP
        have hD : va_D A [oX7 q v_size v_at v_begin (2 : Int32) x1 v_undos v_changed v_felt v_wents v_wish v_trace, rA (q 1) cI 200 v_text] := hD
        exact hret ((v_at, (2 : Int32), x1)) H locs _ ls (Option.some.inj h) hP hD hS dX7_readNumber_116
      · have h := (if_neg c2).symm.trans h
        refine lv_aload_n hx hb dX7_readNumber_89 rfl (lv_at hl 0 rfl) ?_
        refine va_get (C := RX7) (T := TX7) (N := 34) (v := .ref (q 1)) hx hb hts iw7 hown hK hP 0 rfl rfl 0 (Nat.le_of_ble_eq_true rfl) lk7 (fun _ h9 => h9) rfl dX7_readNumber_90 ?_
        refine lv_aload_n hx hb dX7_readNumber_93 rfl (lv_at hl 0 rfl) ?_
        refine va_get (C := RX7) (T := TX7) (N := 34) (v := .int v_begin) hx hb hts iw7 hown hK hP 0 rfl rfl 3 (Nat.le_of_ble_eq_true rfl) lk113 (fun _ h9 => h9) rfl dX7_readNumber_94 ?_
        obtain ⟨hi3, h⟩ := xb_some h
        refine va_iald hx hb hK hP 1 0 rfl rfl hi3 dX7_readNumber_97 ?_
        refine lv_bipush (v := 48) hx hb dX7_readNumber_98 (by decide) ?_
        refine lv_icmp_ne (tgt := 107) hx hb dX7_readNumber_100 (by decide) (fun c4 => ?_) (fun c4 => ?_)
        · have h := (if_neg c4).symm.trans h
          refine lv_iconst (v := 2) hx hb dX7_readNumber_107 (by decide) ?_
          refine va_put (C := RX7) (T := TX7) (N := 34) (v := .int (2 : Int32)) (ty := .int) hx hb hts iw7 tyX7 tyX7_ok nmX7 hown hK hP hD hS 0 rfl rfl 4 (Nat.le_of_ble_eq_true rfl) lk116 (fun _ h9 => h9) rfl (by decide +kernel) rfl rfl (Nat.le_of_ble_eq_true rfl) dX7_readNumber_108 (fun H locs hP hD hS => ?_)
          have hP : va_P D vwCl [oX7 q v_size v_at v_begin (2 : Int32) v_told v_undos v_changed v_felt v_wents v_wish v_trace, rA (q 1) cI 200 v_text] H := hP
          have hD : va_D A [oX7 q v_size v_at v_begin (2 : Int32) v_told v_undos v_changed v_felt v_wents v_wish v_trace, rA (q 1) cI 200 v_text] := hD
          refine lv_aload_n hx hb dX7_readNumber_111 rfl (lv_at hl 0 rfl) ?_
          refine lv_iload_n hx hb dX7_readNumber_112 rfl (lv_at hl 1 rfl) ?_
          refine va_put (C := RX7) (T := TX7) (N := 34) (v := .int x1) (ty := .int) hx hb hts iw7 tyX7 tyX7_ok nmX7 hown hK hP hD hS 0 rfl rfl 5 (Nat.le_of_ble_eq_true rfl) lk106 (fun _ h9 => h9) rfl (by decide +kernel) rfl rfl (Nat.le_of_ble_eq_true rfl) dX7_readNumber_113 (fun H locs hP hD hS => ?_)
          have hP : va_P D vwCl [oX7 q v_size v_at v_begin (2 : Int32) x1 v_undos v_changed v_felt v_wents v_wish v_trace, rA (q 1) cI 200 v_text] H := hP
          have hD : va_D A [oX7 q v_size v_at v_begin (2 : Int32) x1 v_undos v_changed v_felt v_wents v_wish v_trace, rA (q 1) cI 200 v_text] := hD
          exact hret ((v_at, (2 : Int32), x1)) H locs _ ls (Option.some.inj h) hP hD hS dX7_readNumber_116
        · have h := (if_pos c4).symm.trans h
          exact hJ103 v_at v_token v_told x1 H locs ls h hP hD hS (lv_sub hl [0, 1] rfl)
  have hL2 : ∀ (n2 : Nat), ∀ (v_at : Int32) (v_token : Int32) (v_told : Int32) (x1 : Int32) (H : Heap) (locs : List Loc) (ls : Array Slot), f_X7_readNumber_L2 fu n2 v_text v_size v_at v_begin v_token v_told x1 = some res → va_P D vwCl [oX7 q v_size v_at v_begin v_token v_told v_undos v_changed v_felt v_wents v_wish v_trace, rA (q 1) cI 200 v_text] H → va_D A [oX7 q v_size v_at v_begin v_token v_told v_undos v_changed v_felt v_wents v_wish v_trace, rA (q 1) cI 200 v_text] → va_S A s.heap H locs → lv_has ls 2 [(0, .ref (q 0)), (1, .int x1)] → W p l e rm_X7_readNumber s m args below meth c H locs 0 0 Q (F0 m 2 ls []) := by
    intro n2
    induction n2 with
    | zero =>
      intro v_at v_token v_told x1 H locs ls h hP hD hS hl
      cases (show (none : Option R_X7_readNumber) = some res from h)
    | succ n2 ih2 =>
      have hJ55 : ∀ (v_at : Int32) (v_token : Int32) (v_told : Int32) (z0 : Int32) (H : Heap) (locs : List Loc) (ls : Array Slot), f_X7_readNumber_J55 fu (f_X7_readNumber_L2 fu n2) v_text v_size v_at v_begin v_token v_told z0 = some res → va_P D vwCl [oX7 q v_size v_at v_begin v_token v_told v_undos v_changed v_felt v_wents v_wish v_trace, rA (q 1) cI 200 v_text] H → va_D A [oX7 q v_size v_at v_begin v_token v_told v_undos v_changed v_felt v_wents v_wish v_trace, rA (q 1) cI 200 v_text] → va_S A s.heap H locs → lv_has ls 2 [(0, .ref (q 0))] → W p l e rm_X7_readNumber s m args below meth c H locs 0 0 Q (F0 m 55 ls [.int z0]) := by
        intro v_at v_token v_told z0 H locs ls h hP hD hS hl
        unfold f_X7_readNumber_J55 at h
        refine lv_istore_n (lv' := [(1, .int z0), (0, .ref (q 0))]) hx hb dX7_readNumber_55 rfl hl (by decide) rfl (fun ls hl => ?_)
        refine lv_aload_n hx hb dX7_readNumber_56 rfl (lv_at hl 1 rfl) ?_
        refine lv_dup hx hb dX7_readNumber_57 rfl ?_
        refine va_get (C := RX7) (T := TX7) (N := 34) (v := .int v_at) hx hb hts iw7 hown hK hP 0 rfl rfl 2 (Nat.le_of_ble_eq_true rfl) lk103 (fun _ h9 => h9) rfl dX7_readNumber_58 ?_
        refine lv_iconst (v := 1) hx hb dX7_readNumber_61 (by decide) ?_
        refine lv_iadd hx hb dX7_readNumber_62 ?_
        refine va_put (C := RX7) (T := TX7) (N := 34) (v := .int (v_at + (1 : Int32))) (ty := .int) hx hb hts iw7 tyX7 tyX7_ok nmX7 hown hK hP hD hS 0 rfl rfl 2 (Nat.le_of_ble_eq_true rfl) lk103 (fun _ h9 => h9) rfl (by decide +kernel) rfl rfl (Nat.le_of_ble_eq_true rfl) dX7_readNumber_63 (fun H locs hP hD hS => ?_)
        have hP : va_P D vwCl [oX7 q v_size (v_at + (1 : Int32)) v_begin v_token v_told v_undos v_changed v_felt v_wents v_wish v_trace, rA (q 1) cI 200 v_text] H := hP
        have hD : va_D A [oX7 q v_size (v_at + (1 : Int32)) v_begin v_token v_told v_undos v_changed v_felt v_wents v_wish v_trace, rA (q 1) cI 200 v_text] := hD
        refine lv_goto (tgt := 2) hx hb dX7_readNumber_66 (by decide) ?_
        exact ih2 (v_at + (1 : Int32)) v_token v_told z0 H locs ls h hP hD hS (lv_sub hl [1, 0] rfl)
      intro v_at v_token v_told x1 H locs ls h hP hD hS hl
      have h : f_X7_readNumber_L2b fu (f_X7_readNumber_L2 fu n2) v_text v_size v_at v_begin v_token v_told x1 = some res := h
      unfold f_X7_readNumber_L2b at h
      refine lv_aload_n hx hb dX7_readNumber_2 rfl (lv_at hl 0 rfl) ?_
      refine va_get (C := RX7) (T := TX7) (N := 34) (v := .int v_at) hx hb hts iw7 hown hK hP 0 rfl rfl 2 (Nat.le_of_ble_eq_true rfl) lk103 (fun _ h9 => h9) rfl dX7_readNumber_3 ?_
      refine lv_aload_n hx hb dX7_readNumber_6 rfl (lv_at hl 0 rfl) ?_
      refine va_get (C := RX7) (T := TX7) (N := 34) (v := .int v_size) hx hb hts iw7 hown hK hP 0 rfl rfl 1 (Nat.le_of_ble_eq_true rfl) lk91 (fun _ h9 => h9) rfl dX7_readNumber_7 ?_
      refine lv_icmp_ge (tgt := 69) hx hb dX7_readNumber_10 (by decide) (fun c5 => ?_) (fun c5 => ?_)
      · have h := (if_pos c5).symm.trans h
        exact hJ69 v_at v_token v_told x1 H locs ls h hP hD hS (lv_sub hl [0, 1] rfl)
      · have h := (if_neg c5).symm.trans h
        refine lv_aload_n hx hb dX7_readNumber_13 rfl (lv_at hl 0 rfl) ?_
        refine va_get (C := RX7) (T := TX7) (N := 34) (v := .ref (q 1)) hx hb hts iw7 hown hK hP 0 rfl rfl 0 (Nat.le_of_ble_eq_true rfl) lk7 (fun _ h9 => h9) rfl dX7_readNumber_14 ?_
        refine lv_aload_n hx hb dX7_readNumber_17 rfl (lv_at hl 0 rfl) ?_
        refine va_get (C := RX7) (T := TX7) (N := 34) (v := .int v_at) hx hb hts iw7 hown hK hP 0 rfl rfl 2 (Nat.le_of_ble_eq_true rfl) lk103 (fun _ h9 => h9) rfl dX7_readNumber_18 ?_
        obtain ⟨hi6, h⟩ := xb_some h
        refine va_iald hx hb hK hP 1 0 rfl rfl hi6 dX7_readNumber_21 ?_
        obtain ⟨r7, hr7, h⟩ := xk_some h
        refine vx_SJ (As := [.int (v_text v_at.toNatClampNeg)]) (rest := []) hFx (k_X7_isFigure l D cI cZ cT H.size (v_text v_at.toNatClampNeg) r7 hr7) (vx_cwS 1 hts gX7_readNumber_X7_isFigure rfl rfl rfl (by decide +kernel) ⟨Nat.le_of_ble_eq_true rfl, Nat.le_of_ble_eq_true rfl⟩) hK hP hD hS hA rfl hl.1 rfl (Nat.le_of_ble_eq_true rfl) dX7_readNumber_22 ⟨Nat.zero_le _, Nat.zero_le _⟩ (fun H locs hP hS => ?_)
        refine lv_if_eq (tgt := 69) hx hb dX7_readNumber_25 (by decide) (fun c8 => ?_) (fun c8 => ?_)
        · have h := (if_pos c8).symm.trans h
          exact hJ69 v_at v_token v_told x1 H locs ls h hP hD hS (lv_sub hl [0, 1] rfl)
        · have h := (if_neg c8).symm.trans h
          refine lv_iload_n hx hb dX7_readNumber_28 rfl (lv_at hl 1 rfl) ?_
          refine lv_bipush (v := 99) hx hb dX7_readNumber_29 (by decide) ?_
          refine lv_icmp_le (tgt := 38) hx hb dX7_readNumber_31 (by decide) (fun c9 => ?_) (fun c9 => ?_)
          · have h := (if_pos c9).symm.trans h
            refine lv_bipush (v := 10) hx hb dX7_readNumber_38 (by decide) ?_
            refine lv_iload_n hx hb dX7_readNumber_40 rfl (lv_at hl 1 rfl) ?_
            refine lv_imul hx hb dX7_readNumber_41 ?_
            refine lv_aload_n hx hb dX7_readNumber_42 rfl (lv_at hl 0 rfl) ?_
            refine va_get (C := RX7) (T := TX7) (N := 34) (v := .ref (q 1)) hx hb hts iw7 hown hK hP 0 rfl rfl 0 (Nat.le_of_ble_eq_true rfl) lk7 (fun _ h9 => h9) rfl dX7_readNumber_43 ?_
            refine lv_aload_n hx hb dX7_readNumber_46 rfl (lv_at hl 0 rfl) ?_
            refine va_get (C := RX7) (T := TX7) (N := 34) (v := .int v_at) hx hb hts iw7 hown hK hP 0 rfl rfl 2 (Nat.le_of_ble_eq_true rfl) lk103 (fun _ h9 => h9) rfl dX7_readNumber_47 ?_
            obtain ⟨hi10, h⟩ := xb_some h
            refine va_iald hx hb hK hP 1 0 rfl rfl hi10 dX7_readNumber_50 ?_
            refine lv_iadd hx hb dX7_readNumber_51 ?_
            refine lv_bipush (v := 48) hx hb dX7_readNumber_52 (by decide) ?_
            refine lv_isub hx hb dX7_readNumber_54 ?_
            exact hJ55 v_at v_token v_told ((((10 : Int32) * x1) + (v_text v_at.toNatClampNeg)) - (48 : Int32)) H locs ls h hP hD hS (lv_sub hl [0] rfl)
          · have h := (if_neg c9).symm.trans h
            refine lv_iload_n hx hb dX7_readNumber_34 rfl (lv_at hl 1 rfl) ?_
            refine lv_goto (tgt := 55) hx hb dX7_readNumber_35 (by decide) ?_
            exact hJ55 v_at v_token v_told x1 H locs ls h hP hD hS (lv_sub hl [0] rfl)
  have h := hf
  unfold f_X7_readNumber at h
  obtain ⟨H, eH⟩ : ∃ H, H = s.heap := ⟨_, rfl⟩
  rw [← eH] at hP ⊢
  obtain ⟨locs, el⟩ : ∃ locs : List Loc, locs = [] := ⟨_, rfl⟩
  rw [← el] at hS ⊢
  have hS : va_S A s.heap H locs := by rw [eH]; exact hS
  refine lv_iconst (v := 0) hx hb dX7_readNumber_0 (by decide) ?_
  refine lv_istore_n (lv' := [(1, .int (0 : Int32)), (0, .ref (q 0))]) hx hb dX7_readNumber_1 rfl hl (by decide) rfl (fun ls hl => ?_)
  exact hL2 fu v_at v_token v_told (0 : Int32) H locs ls h hP hD hS (lv_sub hl [1, 0] rfl)
abbrev rm_X7_reads : Room := { frames := 3, cells := 0, slots := 0, locals := 66 }
set_option maxHeartbeats 4000000 in
set_option maxRecDepth 100000 in
theorem k_X7_reads (l : Launch) (D : va_G) (cI cZ cT : ClassId) (q : Nat → Nat) (sz : Nat) (v_size : Int32) (v_at : Int32) (v_begin : Int32) (v_token : Int32) (v_told : Int32) (v_undos : Int32) (v_changed : Int32) (v_felt : Int32) (v_wents : Int32) (v_wish : Int32) (v_trace : Int64) (v_text : Nat → Int32) (res : R_X7_reads) (fu : Nat) (hf : f_X7_reads fu v_text v_size v_at v_begin v_token v_told = some res) : Met l yX7_reads wsX7_reads rm_X7_reads (cPre D (tyz cI cZ cT) [.ref (q 0)] sz [oX7 q v_size v_at v_begin v_token v_told v_undos v_changed v_felt v_wents v_wish v_trace, rA (q 1) cI 200 v_text]) (cPv D (tyz cI cZ cT) (fun (u : Int32 × Int32 × Int32 × Int32) => u = res) (fun u => [oX7 q v_size u.1 u.2.1 u.2.2.1 u.2.2.2 v_undos v_changed v_felt v_wents v_wish v_trace, rA (q 1) cI 200 v_text]) [oX7 q v_size v_at v_begin v_token v_told v_undos v_changed v_felt v_wents v_wish v_trace, rA (q 1) cI 200 v_text] sz) 0 0 (va_A [oX7 q v_size v_at v_begin v_token v_told v_undos v_changed v_felt v_wents v_wish v_trace, rA (q 1) cI 200 v_text] sz) := by
  refine vx_meth_v (by decide) rfl (Nat.le_of_ble_eq_true rfl) ?_
  intro p e s m args below meth c A Q hx hb hml hown hts hK hP hD hA hS hret ls hl
  have hown : s.vm.findClass RX7 = some m.cls := hown
  have hl : lv_has ls 1 [(0, .ref (q 0))] := hl
  have hFx : CallFix p m c cX7_reads 1 s args wsX7_reads RX7 := ⟨hx, hb, hml, hown, hts⟩
  have lk116 := hts (.fieldLink RX7 116 "FogGuidesModel" "token" "I") (by decide +kernel)
  have iw7 : ∀ w ∈ u_ws RX7 TX7 34, w ∈ wsX7_reads := by decide +kernel
  have lk103 := hts (.fieldLink RX7 103 "FogGuidesModel" "at" "I") (by decide +kernel)
  have lk113 := hts (.fieldLink RX7 113 "FogGuidesModel" "begin" "I") (by decide +kernel)
  have lk91 := hts (.fieldLink RX7 91 "FogGuidesModel" "size" "I") (by decide +kernel)
  have lk7 := hts (.fieldLink RX7 7 "FogGuidesModel" "text" "[I") (by decide +kernel)
  have hJ129 : ∀ (v_at : Int32) (v_begin : Int32) (v_token : Int32) (v_told : Int32) (z1 : Int32) (H : Heap) (locs : List Loc) (ls : Array Slot), f_X7_reads_J129 fu v_text v_size v_at v_begin v_token v_told z1 = some res → va_P D vwCl [oX7 q v_size v_at v_begin v_token v_told v_undos v_changed v_felt v_wents v_wish v_trace, rA (q 1) cI 200 v_text] H → va_D A [oX7 q v_size v_at v_begin v_token v_told v_undos v_changed v_felt v_wents v_wish v_trace, rA (q 1) cI 200 v_text] → va_S A s.heap H locs → lv_has ls 1 [(0, .ref (q 0))] → W p l e rm_X7_reads s m args below meth c H locs 0 0 Q (F0 m 129 ls [.int z1, .ref (q 0)]) := by
    intro v_at v_begin v_token v_told z1 H locs ls h hP hD hS hl
    unfold f_X7_reads_J129 at h
    refine va_put (C := RX7) (T := TX7) (N := 34) (v := .int z1) (ty := .int) hx hb hts iw7 tyX7 tyX7_ok nmX7 hown hK hP hD hS 0 rfl rfl 4 (Nat.le_of_ble_eq_true rfl) lk116 (fun _ h9 => h9) rfl (by decide +kernel) rfl rfl (Nat.le_of_ble_eq_true rfl) dX7_reads_129 (fun H locs hP hD hS => ?_)
    have hP : va_P D vwCl [oX7 q v_size v_at v_begin z1 v_told v_undos v_changed v_felt v_wents v_wish v_trace, rA (q 1) cI 200 v_text] H := hP
    have hD : va_D A [oX7 q v_size v_at v_begin z1 v_told v_undos v_changed v_felt v_wents v_wish v_trace, rA (q 1) cI 200 v_text] := hD
    refine lv_aload_n hx hb dX7_reads_132 rfl (lv_at hl 0 rfl) ?_
    refine lv_dup hx hb dX7_reads_133 rfl ?_
    refine va_get (C := RX7) (T := TX7) (N := 34) (v := .int v_at) hx hb hts iw7 hown hK hP 0 rfl rfl 2 (Nat.le_of_ble_eq_true rfl) lk103 (fun _ h9 => h9) rfl dX7_reads_134 ?_
    refine lv_aload_n hx hb dX7_reads_137 rfl (lv_at hl 0 rfl) ?_
    refine va_get (C := RX7) (T := TX7) (N := 34) (v := .int z1) hx hb hts iw7 hown hK hP 0 rfl rfl 4 (Nat.le_of_ble_eq_true rfl) lk116 (fun _ h9 => h9) rfl dX7_reads_138 ?_
    refine lv_iconst (v := 3) hx hb dX7_reads_141 (by decide) ?_
    refine lv_icmp_ne (tgt := 149) hx hb dX7_reads_142 (by decide) (fun c1 => ?_) (fun c1 => ?_)
    · have h := (if_neg c1).symm.trans h
      refine lv_iconst (v := 0) hx hb dX7_reads_149 (by decide) ?_
      refine lv_iadd hx hb dX7_reads_150 ?_
      refine va_put (C := RX7) (T := TX7) (N := 34) (v := .int (v_at + (0 : Int32))) (ty := .int) hx hb hts iw7 tyX7 tyX7_ok nmX7 hown hK hP hD hS 0 rfl rfl 2 (Nat.le_of_ble_eq_true rfl) lk103 (fun _ h9 => h9) rfl (by decide +kernel) rfl rfl (Nat.le_of_ble_eq_true rfl) dX7_reads_151 (fun H locs hP hD hS => ?_)
      have hP : va_P D vwCl [oX7 q v_size (v_at + (0 : Int32)) v_begin z1 v_told v_undos v_changed v_felt v_wents v_wish v_trace, rA (q 1) cI 200 v_text] H := hP
      have hD : va_D A [oX7 q v_size (v_at + (0 : Int32)) v_begin z1 v_told v_undos v_changed v_felt v_wents v_wish v_trace, rA (q 1) cI 200 v_text] := hD
      exact hret ((v_at + (0 : Int32), v_begin, z1, v_told)) H locs _ ls (Option.some.inj h) hP hD hS dX7_reads_154
    · have h := (if_pos c1).symm.trans h
      refine lv_iconst (v := 1) hx hb dX7_reads_145 (by decide) ?_
      refine lv_goto (tgt := 150) hx hb dX7_reads_146 (by decide) ?_
      refine lv_iadd hx hb dX7_reads_150 ?_
      refine va_put (C := RX7) (T := TX7) (N := 34) (v := .int (v_at + (1 : Int32))) (ty := .int) hx hb hts iw7 tyX7 tyX7_ok nmX7 hown hK hP hD hS 0 rfl rfl 2 (Nat.le_of_ble_eq_true rfl) lk103 (fun _ h9 => h9) rfl (by decide +kernel) rfl rfl (Nat.le_of_ble_eq_true rfl) dX7_reads_151 (fun H locs hP hD hS => ?_)
      have hP : va_P D vwCl [oX7 q v_size (v_at + (1 : Int32)) v_begin z1 v_told v_undos v_changed v_felt v_wents v_wish v_trace, rA (q 1) cI 200 v_text] H := hP
      have hD : va_D A [oX7 q v_size (v_at + (1 : Int32)) v_begin z1 v_told v_undos v_changed v_felt v_wents v_wish v_trace, rA (q 1) cI 200 v_text] := hD
      exact hret ((v_at + (1 : Int32), v_begin, z1, v_told)) H locs _ ls (Option.some.inj h) hP hD hS dX7_reads_154
  have hJ38 : ∀ (v_at : Int32) (v_begin : Int32) (v_token : Int32) (v_told : Int32) (H : Heap) (locs : List Loc) (ls : Array Slot), f_X7_reads_J38 fu v_text v_size v_at v_begin v_token v_told = some res → va_P D vwCl [oX7 q v_size v_at v_begin v_token v_told v_undos v_changed v_felt v_wents v_wish v_trace, rA (q 1) cI 200 v_text] H → va_D A [oX7 q v_size v_at v_begin v_token v_told v_undos v_changed v_felt v_wents v_wish v_trace, rA (q 1) cI 200 v_text] → va_S A s.heap H locs → lv_has ls 1 [(0, .ref (q 0))] → W p l e rm_X7_reads s m args below meth c H locs 0 0 Q (F0 m 38 ls []) := by
    intro v_at v_begin v_token v_told H locs ls h hP hD hS hl
    unfold f_X7_reads_J38 at h
    refine lv_aload_n hx hb dX7_reads_38 rfl (lv_at hl 0 rfl) ?_
    refine lv_aload_n hx hb dX7_reads_39 rfl (lv_at hl 0 rfl) ?_
    refine va_get (C := RX7) (T := TX7) (N := 34) (v := .int v_at) hx hb hts iw7 hown hK hP 0 rfl rfl 2 (Nat.le_of_ble_eq_true rfl) lk103 (fun _ h9 => h9) rfl dX7_reads_40 ?_
    refine va_put (C := RX7) (T := TX7) (N := 34) (v := .int v_at) (ty := .int) hx hb hts iw7 tyX7 tyX7_ok nmX7 hown hK hP hD hS 0 rfl rfl 3 (Nat.le_of_ble_eq_true rfl) lk113 (fun _ h9 => h9) rfl (by decide +kernel) rfl rfl (Nat.le_of_ble_eq_true rfl) dX7_reads_43 (fun H locs hP hD hS => ?_)
    have hP : va_P D vwCl [oX7 q v_size v_at v_at v_token v_told v_undos v_changed v_felt v_wents v_wish v_trace, rA (q 1) cI 200 v_text] H := hP
    have hD : va_D A [oX7 q v_size v_at v_at v_token v_told v_undos v_changed v_felt v_wents v_wish v_trace, rA (q 1) cI 200 v_text] := hD
    refine lv_aload_n hx hb dX7_reads_46 rfl (lv_at hl 0 rfl) ?_
    refine va_get (C := RX7) (T := TX7) (N := 34) (v := .int v_at) hx hb hts iw7 hown hK hP 0 rfl rfl 2 (Nat.le_of_ble_eq_true rfl) lk103 (fun _ h9 => h9) rfl dX7_reads_47 ?_
    refine lv_aload_n hx hb dX7_reads_50 rfl (lv_at hl 0 rfl) ?_
    refine va_get (C := RX7) (T := TX7) (N := 34) (v := .int v_size) hx hb hts iw7 hown hK hP 0 rfl rfl 1 (Nat.le_of_ble_eq_true rfl) lk91 (fun _ h9 => h9) rfl dX7_reads_51 ?_
    refine lv_icmp_ne (tgt := 65) hx hb dX7_reads_54 (by decide) (fun c2 => ?_) (fun c2 => ?_)
    · have h := (if_neg c2).symm.trans h
      refine lv_aload_n hx hb dX7_reads_65 rfl (lv_at hl 0 rfl) ?_
      refine va_get (C := RX7) (T := TX7) (N := 34) (v := .ref (q 1)) hx hb hts iw7 hown hK hP 0 rfl rfl 0 (Nat.le_of_ble_eq_true rfl) lk7 (fun _ h9 => h9) rfl dX7_reads_66 ?_
      refine lv_aload_n hx hb dX7_reads_69 rfl (lv_at hl 0 rfl) ?_
      refine va_get (C := RX7) (T := TX7) (N := 34) (v := .int v_at) hx hb hts iw7 hown hK hP 0 rfl rfl 2 (Nat.le_of_ble_eq_true rfl) lk103 (fun _ h9 => h9) rfl dX7_reads_70 ?_
      obtain ⟨hi3, h⟩ := xb_some h
      refine va_iald hx hb hK hP 1 0 rfl rfl hi3 dX7_reads_73 ?_
      obtain ⟨r4, hr4, h⟩ := xk_some h
      refine vx_SJ (As := [.int (v_text v_at.toNatClampNeg)]) (rest := []) hFx (k_X7_isLetter l D cI cZ cT H.size (v_text v_at.toNatClampNeg) r4 hr4) (vx_cwS 1 hts gX7_reads_X7_isLetter rfl rfl rfl (by decide +kernel) ⟨Nat.le_of_ble_eq_true rfl, Nat.le_of_ble_eq_true rfl⟩) hK hP hD hS hA rfl hl.1 rfl (Nat.le_of_ble_eq_true rfl) dX7_reads_74 ⟨Nat.zero_le _, Nat.zero_le _⟩ (fun H locs hP hS => ?_)
      refine lv_if_eq (tgt := 87) hx hb dX7_reads_77 (by decide) (fun c5 => ?_) (fun c5 => ?_)
      · have h := (if_pos c5).symm.trans h
        refine lv_aload_n hx hb dX7_reads_87 rfl (lv_at hl 0 rfl) ?_
        refine va_get (C := RX7) (T := TX7) (N := 34) (v := .ref (q 1)) hx hb hts iw7 hown hK hP 0 rfl rfl 0 (Nat.le_of_ble_eq_true rfl) lk7 (fun _ h9 => h9) rfl dX7_reads_88 ?_
        refine lv_aload_n hx hb dX7_reads_91 rfl (lv_at hl 0 rfl) ?_
        refine va_get (C := RX7) (T := TX7) (N := 34) (v := .int v_at) hx hb hts iw7 hown hK hP 0 rfl rfl 2 (Nat.le_of_ble_eq_true rfl) lk103 (fun _ h9 => h9) rfl dX7_reads_92 ?_
        obtain ⟨hi6, h⟩ := xb_some h
        refine va_iald hx hb hK hP 1 0 rfl rfl hi6 dX7_reads_95 ?_
        obtain ⟨r7, hr7, h⟩ := xk_some h
        refine vx_SJ (As := [.int (v_text v_at.toNatClampNeg)]) (rest := []) hFx (k_X7_isFigure l D cI cZ cT H.size (v_text v_at.toNatClampNeg) r7 hr7) (vx_cwS 1 hts gX7_reads_X7_isFigure rfl rfl rfl (by decide +kernel) ⟨Nat.le_of_ble_eq_true rfl, Nat.le_of_ble_eq_true rfl⟩) hK hP hD hS hA rfl hl.1 rfl (Nat.le_of_ble_eq_true rfl) dX7_reads_96 ⟨Nat.zero_le _, Nat.zero_le _⟩ (fun H locs hP hS => ?_)
        refine lv_if_eq (tgt := 109) hx hb dX7_reads_99 (by decide) (fun c8 => ?_) (fun c8 => ?_)
        · have h := (if_pos c8).symm.trans h
          refine lv_aload_n hx hb dX7_reads_109 rfl (lv_at hl 0 rfl) ?_
          refine lv_aload_n hx hb dX7_reads_110 rfl (lv_at hl 0 rfl) ?_
          refine va_get (C := RX7) (T := TX7) (N := 34) (v := .ref (q 1)) hx hb hts iw7 hown hK hP 0 rfl rfl 0 (Nat.le_of_ble_eq_true rfl) lk7 (fun _ h9 => h9) rfl dX7_reads_111 ?_
          refine lv_aload_n hx hb dX7_reads_114 rfl (lv_at hl 0 rfl) ?_
          refine va_get (C := RX7) (T := TX7) (N := 34) (v := .int v_at) hx hb hts iw7 hown hK hP 0 rfl rfl 2 (Nat.le_of_ble_eq_true rfl) lk103 (fun _ h9 => h9) rfl dX7_reads_115 ?_
          obtain ⟨hi9, h⟩ := xb_some h
          refine va_iald hx hb hK hP 1 0 rfl rfl hi9 dX7_reads_118 ?_
          refine lv_bipush (v := 59) hx hb dX7_reads_119 (by decide) ?_
          refine lv_icmp_ne (tgt := 128) hx hb dX7_reads_121 (by decide) (fun c10 => ?_) (fun c10 => ?_)
          · have h := (if_neg c10).symm.trans h
            refine lv_iconst (v := 4) hx hb dX7_reads_128 (by decide) ?_
            exact hJ129 v_at v_at v_token v_told (4 : Int32) H locs ls h hP hD hS (lv_sub hl [0] rfl)
          · have h := (if_pos c10).symm.trans h
            refine lv_iconst (v := 3) hx hb dX7_reads_124 (by decide) ?_
            refine lv_goto (tgt := 129) hx hb dX7_reads_125 (by decide) ?_
            exact hJ129 v_at v_at v_token v_told (3 : Int32) H locs ls h hP hD hS (lv_sub hl [0] rfl)
        · have h := (if_neg c8).symm.trans h
          refine lv_aload_n hx hb dX7_reads_102 rfl (lv_at hl 0 rfl) ?_
          obtain ⟨r11, hr11, h⟩ := xk_some h
          refine vx_VV (As := []) (rest := []) (wr := []) (wn := [oX7 q v_size r11.1 v_at r11.2.1 r11.2.2 v_undos v_changed v_felt v_wents v_wish v_trace, rA (q 1) cI 200 v_text]) hFx (k_X7_readNumber l D cI cZ cT q H.size v_size v_at v_at v_token v_told v_undos v_changed v_felt v_wents v_wish v_trace v_text r11 fu hr11) (cwV 0 hts gX7_reads_X7_readNumber rfl rfl rfl (by decide +kernel) ⟨Nat.le_of_ble_eq_true rfl, Nat.le_of_ble_eq_true rfl⟩) hK hP hD hS hA [0, 1] [] [0, 1] rfl rfl rfl rfl (by decide) rfl rfl 7 0 rfl rfl rfl hl.1 rfl (Nat.le_of_ble_eq_true rfl) dX7_reads_103 ⟨Nat.zero_le _, Nat.zero_le _⟩ (fun H locs hP hD hS => ?_)
          refine lv_goto (tgt := 154) hx hb dX7_reads_106 (by decide) ?_
          exact hret (r11.1, v_at, r11.2.1, r11.2.2) H locs _ ls (Option.some.inj h) hP hD hS dX7_reads_154
      · have h := (if_neg c5).symm.trans h
        refine lv_aload_n hx hb dX7_reads_80 rfl (lv_at hl 0 rfl) ?_
        obtain ⟨r12, hr12, h⟩ := xk_some h
        refine vx_VV (As := []) (rest := []) (wr := []) (wn := [oX7 q v_size r12.1 v_at r12.2.1 r12.2.2 v_undos v_changed v_felt v_wents v_wish v_trace, rA (q 1) cI 200 v_text]) hFx (k_X7_readLetters l D cI cZ cT q H.size v_size v_at v_at v_token v_told v_undos v_changed v_felt v_wents v_wish v_trace v_text r12 fu hr12) (cwV 0 hts gX7_reads_X7_readLetters rfl rfl rfl (by decide +kernel) ⟨Nat.le_of_ble_eq_true rfl, Nat.le_of_ble_eq_true rfl⟩) hK hP hD hS hA [0, 1] [] [0, 1] rfl rfl rfl rfl (by decide) rfl rfl 7 0 rfl rfl rfl hl.1 rfl (Nat.le_of_ble_eq_true rfl) dX7_reads_81 ⟨Nat.zero_le _, Nat.zero_le _⟩ (fun H locs hP hD hS => ?_)
        refine lv_goto (tgt := 154) hx hb dX7_reads_84 (by decide) ?_
        exact hret (r12.1, v_at, r12.2.1, r12.2.2) H locs _ ls (Option.some.inj h) hP hD hS dX7_reads_154
    · have h := (if_pos c2).symm.trans h
      refine lv_aload_n hx hb dX7_reads_57 rfl (lv_at hl 0 rfl) ?_
      refine lv_iconst (v := 0) hx hb dX7_reads_58 (by decide) ?_
      refine va_put (C := RX7) (T := TX7) (N := 34) (v := .int (0 : Int32)) (ty := .int) hx hb hts iw7 tyX7 tyX7_ok nmX7 hown hK hP hD hS 0 rfl rfl 4 (Nat.le_of_ble_eq_true rfl) lk116 (fun _ h9 => h9) rfl (by decide +kernel) rfl rfl (Nat.le_of_ble_eq_true rfl) dX7_reads_59 (fun H locs hP hD hS => ?_)
      have hP : va_P D vwCl [oX7 q v_size v_at v_at (0 : Int32) v_told v_undos v_changed v_felt v_wents v_wish v_trace, rA (q 1) cI 200 v_text] H := hP
      have hD : va_D A [oX7 q v_size v_at v_at (0 : Int32) v_told v_undos v_changed v_felt v_wents v_wish v_trace, rA (q 1) cI 200 v_text] := hD
      refine lv_goto (tgt := 154) hx hb dX7_reads_62 (by decide) ?_
      exact hret ((v_at, v_at, (0 : Int32), v_told)) H locs _ ls (Option.some.inj h) hP hD hS dX7_reads_154
  have hL0 : ∀ (n0 : Nat), ∀ (v_at : Int32) (v_begin : Int32) (v_token : Int32) (v_told : Int32) (H : Heap) (locs : List Loc) (ls : Array Slot), f_X7_reads_L0 fu n0 v_text v_size v_at v_begin v_token v_told = some res → va_P D vwCl [oX7 q v_size v_at v_begin v_token v_told v_undos v_changed v_felt v_wents v_wish v_trace, rA (q 1) cI 200 v_text] H → va_D A [oX7 q v_size v_at v_begin v_token v_told v_undos v_changed v_felt v_wents v_wish v_trace, rA (q 1) cI 200 v_text] → va_S A s.heap H locs → lv_has ls 1 [(0, .ref (q 0))] → W p l e rm_X7_reads s m args below meth c H locs 0 0 Q (F0 m 0 ls []) := by
    intro n0
    induction n0 with
    | zero =>
      intro v_at v_begin v_token v_told H locs ls h hP hD hS hl
      cases (show (none : Option R_X7_reads) = some res from h)
    | succ n0 ih0 =>
      intro v_at v_begin v_token v_told H locs ls h hP hD hS hl
      have h : f_X7_reads_L0b fu (f_X7_reads_L0 fu n0) v_text v_size v_at v_begin v_token v_told = some res := h
      unfold f_X7_reads_L0b at h
      refine lv_aload_n hx hb dX7_reads_0 rfl (lv_at hl 0 rfl) ?_
      refine va_get (C := RX7) (T := TX7) (N := 34) (v := .int v_at) hx hb hts iw7 hown hK hP 0 rfl rfl 2 (Nat.le_of_ble_eq_true rfl) lk103 (fun _ h9 => h9) rfl dX7_reads_1 ?_
      refine lv_aload_n hx hb dX7_reads_4 rfl (lv_at hl 0 rfl) ?_
      refine va_get (C := RX7) (T := TX7) (N := 34) (v := .int v_size) hx hb hts iw7 hown hK hP 0 rfl rfl 1 (Nat.le_of_ble_eq_true rfl) lk91 (fun _ h9 => h9) rfl dX7_reads_5 ?_
      refine lv_icmp_ge (tgt := 38) hx hb dX7_reads_8 (by decide) (fun c13 => ?_) (fun c13 => ?_)
      · have h := (if_pos c13).symm.trans h
        exact hJ38 v_at v_begin v_token v_told H locs ls h hP hD hS (lv_sub hl [0] rfl)
      · have h := (if_neg c13).symm.trans h
        refine lv_aload_n hx hb dX7_reads_11 rfl (lv_at hl 0 rfl) ?_
        refine va_get (C := RX7) (T := TX7) (N := 34) (v := .ref (q 1)) hx hb hts iw7 hown hK hP 0 rfl rfl 0 (Nat.le_of_ble_eq_true rfl) lk7 (fun _ h9 => h9) rfl dX7_reads_12 ?_
        refine lv_aload_n hx hb dX7_reads_15 rfl (lv_at hl 0 rfl) ?_
        refine va_get (C := RX7) (T := TX7) (N := 34) (v := .int v_at) hx hb hts iw7 hown hK hP 0 rfl rfl 2 (Nat.le_of_ble_eq_true rfl) lk103 (fun _ h9 => h9) rfl dX7_reads_16 ?_
        obtain ⟨hi14, h⟩ := xb_some h
        refine va_iald hx hb hK hP 1 0 rfl rfl hi14 dX7_reads_19 ?_
        refine lv_bipush (v := 32) hx hb dX7_reads_20 (by decide) ?_
        refine lv_icmp_ne (tgt := 38) hx hb dX7_reads_22 (by decide) (fun c15 => ?_) (fun c15 => ?_)
        · have h := (if_neg c15).symm.trans h
          exact hJ38 v_at v_begin v_token v_told H locs ls h hP hD hS (lv_sub hl [0] rfl)
        · have h := (if_pos c15).symm.trans h
          refine lv_aload_n hx hb dX7_reads_25 rfl (lv_at hl 0 rfl) ?_
          refine lv_dup hx hb dX7_reads_26 rfl ?_
          refine va_get (C := RX7) (T := TX7) (N := 34) (v := .int v_at) hx hb hts iw7 hown hK hP 0 rfl rfl 2 (Nat.le_of_ble_eq_true rfl) lk103 (fun _ h9 => h9) rfl dX7_reads_27 ?_
          refine lv_iconst (v := 1) hx hb dX7_reads_30 (by decide) ?_
          refine lv_iadd hx hb dX7_reads_31 ?_
          refine va_put (C := RX7) (T := TX7) (N := 34) (v := .int (v_at + (1 : Int32))) (ty := .int) hx hb hts iw7 tyX7 tyX7_ok nmX7 hown hK hP hD hS 0 rfl rfl 2 (Nat.le_of_ble_eq_true rfl) lk103 (fun _ h9 => h9) rfl (by decide +kernel) rfl rfl (Nat.le_of_ble_eq_true rfl) dX7_reads_32 (fun H locs hP hD hS => ?_)
          have hP : va_P D vwCl [oX7 q v_size (v_at + (1 : Int32)) v_begin v_token v_told v_undos v_changed v_felt v_wents v_wish v_trace, rA (q 1) cI 200 v_text] H := hP
          have hD : va_D A [oX7 q v_size (v_at + (1 : Int32)) v_begin v_token v_told v_undos v_changed v_felt v_wents v_wish v_trace, rA (q 1) cI 200 v_text] := hD
          refine lv_goto (tgt := 0) hx hb dX7_reads_35 (by decide) ?_
          exact ih0 (v_at + (1 : Int32)) v_begin v_token v_told H locs ls h hP hD hS (lv_sub hl [0] rfl)
  have h := hf
  unfold f_X7_reads at h
  obtain ⟨H, eH⟩ : ∃ H, H = s.heap := ⟨_, rfl⟩
  rw [← eH] at hP ⊢
  obtain ⟨locs, el⟩ : ∃ locs : List Loc, locs = [] := ⟨_, rfl⟩
  rw [← el] at hS ⊢
  have hS : va_S A s.heap H locs := by rw [eH]; exact hS
  exact hL0 fu v_at v_begin v_token v_told H locs ls h hP hD hS (lv_sub hl [0] rfl)
abbrev rm_X7_number : Room := { frames := 4, cells := 0, slots := 0, locals := 86 }
set_option maxHeartbeats 4000000 in
set_option maxRecDepth 100000 in
theorem k_X7_number (l : Launch) (D : va_G) (cI cZ cT : ClassId) (q : Nat → Nat) (sz : Nat) (v_size : Int32) (v_at : Int32) (v_begin : Int32) (v_token : Int32) (v_told : Int32) (v_undos : Int32) (v_changed : Int32) (v_felt : Int32) (v_wents : Int32) (v_wish : Int32) (v_trace : Int64) (v_text : Nat → Int32) (x1 : Int32) (x2 : Int32) (res : R_X7_number) (fu : Nat) (hf : f_X7_number fu v_text v_size v_at v_begin v_token v_told x1 x2 = some res) : Met l yX7_number wsX7_number rm_X7_number (cPre D (tyz cI cZ cT) [.ref (q 0), .int x1, .int x2] sz [oX7 q v_size v_at v_begin v_token v_told v_undos v_changed v_felt v_wents v_wish v_trace, rA (q 1) cI 200 v_text]) (cPi D (tyz cI cZ cT) (fun (r : Int32) (u : Int32 × Int32 × Int32 × Int32) => (r, u) = res) (fun u => [oX7 q v_size u.1 u.2.1 u.2.2.1 u.2.2.2 v_undos v_changed v_felt v_wents v_wish v_trace, rA (q 1) cI 200 v_text]) [oX7 q v_size v_at v_begin v_token v_told v_undos v_changed v_felt v_wents v_wish v_trace, rA (q 1) cI 200 v_text] sz) 0 0 (va_A [oX7 q v_size v_at v_begin v_token v_told v_undos v_changed v_felt v_wents v_wish v_trace, rA (q 1) cI 200 v_text] sz) := by
  refine vx_meth_z (by decide) rfl (Nat.le_of_ble_eq_true rfl) ?_
  intro p e s m args below meth c A Q hx hb hml hown hts hK hP hD hA hS hret ls hl
  have hown : s.vm.findClass RX7 = some m.cls := hown
  have hl : lv_has ls 3 [(0, .ref (q 0)), (1, .int x1), (2, .int x2)] := hl
  have hFx : CallFix p m c cX7_number 3 s args wsX7_number RX7 := ⟨hx, hb, hml, hown, hts⟩
  have lk116 := hts (.fieldLink RX7 116 "FogGuidesModel" "token" "I") (by decide +kernel)
  have iw7 : ∀ w ∈ u_ws RX7 TX7 34, w ∈ wsX7_number := by decide +kernel
  have lk106 := hts (.fieldLink RX7 106 "FogGuidesModel" "told" "I") (by decide +kernel)
  have h := hf
  unfold f_X7_number at h
  obtain ⟨H, eH⟩ : ∃ H, H = s.heap := ⟨_, rfl⟩
  rw [← eH] at hP ⊢
  obtain ⟨locs, el⟩ : ∃ locs : List Loc, locs = [] := ⟨_, rfl⟩
  rw [← el] at hS ⊢
  have hS : va_S A s.heap H locs := by rw [eH]; exact hS
  refine lv_aload_n hx hb dX7_number_0 rfl (lv_at hl 0 rfl) ?_
  obtain ⟨r1, hr1, h⟩ := xk_some h
  refine vx_VV (As := []) (rest := []) (wr := []) (wn := [oX7 q v_size r1.1 r1.2.1 r1.2.2.1 r1.2.2.2 v_undos v_changed v_felt v_wents v_wish v_trace, rA (q 1) cI 200 v_text]) hFx (k_X7_reads l D cI cZ cT q H.size v_size v_at v_begin v_token v_told v_undos v_changed v_felt v_wents v_wish v_trace v_text r1 fu hr1) (cwV 0 hts gX7_number_X7_reads rfl rfl rfl (by decide +kernel) ⟨Nat.le_of_ble_eq_true rfl, Nat.le_of_ble_eq_true rfl⟩) hK hP hD hS hA [0, 1] [] [0, 1] rfl rfl rfl rfl (by decide) rfl rfl 7 0 rfl rfl rfl hl.1 rfl (Nat.le_of_ble_eq_true rfl) dX7_number_1 ⟨Nat.zero_le _, Nat.zero_le _⟩ (fun H locs hP hD hS => ?_)
  refine lv_aload_n hx hb dX7_number_4 rfl (lv_at hl 0 rfl) ?_
  refine va_get (C := RX7) (T := TX7) (N := 34) (v := .int r1.2.2.1) hx hb hts iw7 hown hK hP 0 rfl rfl 4 (Nat.le_of_ble_eq_true rfl) lk116 (fun _ h9 => h9) rfl dX7_number_5 ?_
  refine lv_iconst (v := 2) hx hb dX7_number_8 (by decide) ?_
  refine lv_icmp_ne (tgt := 31) hx hb dX7_number_9 (by decide) (fun c2 => ?_) (fun c2 => ?_)
  · have h := (if_neg c2).symm.trans h
    refine lv_iconst (v := 0) hx hb dX7_number_31 (by decide) ?_
    exact hret (0 : Int32) (r1.1, r1.2.1, r1.2.2.1, r1.2.2.2) H locs _ ls (Or.inl rfl) (Option.some.inj h) hP hD hS dX7_number_32
  · have h := (if_pos c2).symm.trans h
    refine lv_aload_n hx hb dX7_number_12 rfl (lv_at hl 0 rfl) ?_
    refine va_get (C := RX7) (T := TX7) (N := 34) (v := .int r1.2.2.2) hx hb hts iw7 hown hK hP 0 rfl rfl 5 (Nat.le_of_ble_eq_true rfl) lk106 (fun _ h9 => h9) rfl dX7_number_13 ?_
    refine lv_i2l hx hb dX7_number_16 rfl ?_
    refine lv_iload_n hx hb dX7_number_17 rfl (lv_at hl 1 rfl) ?_
    refine lv_i2l hx hb dX7_number_18 rfl ?_
    refine lv_iload_n hx hb dX7_number_19 rfl (lv_at hl 2 rfl) ?_
    refine lv_i2l hx hb dX7_number_20 rfl ?_
    obtain ⟨r3, hr3, h⟩ := xk_some h
    refine vx_SJ (As := [.long r1.2.2.2.toInt64, .long x1.toInt64, .long x2.toInt64]) (rest := []) hFx (k_X7_in l D cI cZ cT H.size r1.2.2.2.toInt64 x1.toInt64 x2.toInt64 r3 hr3) (vx_cwS 3 hts gX7_number_X7_in rfl rfl rfl (by decide +kernel) ⟨Nat.le_of_ble_eq_true rfl, Nat.le_of_ble_eq_true rfl⟩) hK hP hD hS hA rfl hl.1 rfl (Nat.le_of_ble_eq_true rfl) dX7_number_21 ⟨Nat.zero_le _, Nat.zero_le _⟩ (fun H locs hP hS => ?_)
    refine lv_if_eq (tgt := 31) hx hb dX7_number_24 (by decide) (fun c4 => ?_) (fun c4 => ?_)
    · have h := (if_pos c4).symm.trans h
      refine lv_iconst (v := 0) hx hb dX7_number_31 (by decide) ?_
      exact hret (0 : Int32) (r1.1, r1.2.1, r1.2.2.1, r1.2.2.2) H locs _ ls (Or.inl rfl) (Option.some.inj h) hP hD hS dX7_number_32
    · have h := (if_neg c4).symm.trans h
      refine lv_iconst (v := 1) hx hb dX7_number_27 (by decide) ?_
      refine lv_goto (tgt := 32) hx hb dX7_number_28 (by decide) ?_
      exact hret (1 : Int32) (r1.1, r1.2.1, r1.2.2.1, r1.2.2.2) H locs _ ls (Or.inr rfl) (Option.some.inj h) hP hD hS dX7_number_32
abbrev rm_X7_ends : Room := { frames := 4, cells := 0, slots := 0, locals := 86 }
set_option maxHeartbeats 4000000 in
set_option maxRecDepth 100000 in
theorem k_X7_ends (l : Launch) (D : va_G) (cI cZ cT : ClassId) (q : Nat → Nat) (sz : Nat) (v_size : Int32) (v_at : Int32) (v_begin : Int32) (v_token : Int32) (v_told : Int32) (v_undos : Int32) (v_changed : Int32) (v_felt : Int32) (v_wents : Int32) (v_wish : Int32) (v_trace : Int64) (v_text : Nat → Int32) (res : R_X7_ends) (fu : Nat) (hf : f_X7_ends fu v_text v_size v_at v_begin v_token v_told = some res) : Met l yX7_ends wsX7_ends rm_X7_ends (cPre D (tyz cI cZ cT) [.ref (q 0)] sz [oX7 q v_size v_at v_begin v_token v_told v_undos v_changed v_felt v_wents v_wish v_trace, rA (q 1) cI 200 v_text]) (cPi D (tyz cI cZ cT) (fun (r : Int32) (u : Int32 × Int32 × Int32 × Int32) => (r, u) = res) (fun u => [oX7 q v_size u.1 u.2.1 u.2.2.1 u.2.2.2 v_undos v_changed v_felt v_wents v_wish v_trace, rA (q 1) cI 200 v_text]) [oX7 q v_size v_at v_begin v_token v_told v_undos v_changed v_felt v_wents v_wish v_trace, rA (q 1) cI 200 v_text] sz) 0 0 (va_A [oX7 q v_size v_at v_begin v_token v_told v_undos v_changed v_felt v_wents v_wish v_trace, rA (q 1) cI 200 v_text] sz) := by
  refine vx_meth_z (by decide) rfl (Nat.le_of_ble_eq_true rfl) ?_
  intro p e s m args below meth c A Q hx hb hml hown hts hK hP hD hA hS hret ls hl
  have hown : s.vm.findClass RX7 = some m.cls := hown
  have hl : lv_has ls 1 [(0, .ref (q 0))] := hl
  have hFx : CallFix p m c cX7_ends 1 s args wsX7_ends RX7 := ⟨hx, hb, hml, hown, hts⟩
  have lk116 := hts (.fieldLink RX7 116 "FogGuidesModel" "token" "I") (by decide +kernel)
  have iw7 : ∀ w ∈ u_ws RX7 TX7 34, w ∈ wsX7_ends := by decide +kernel
  have h := hf
  unfold f_X7_ends at h
  obtain ⟨H, eH⟩ : ∃ H, H = s.heap := ⟨_, rfl⟩
  rw [← eH] at hP ⊢
  obtain ⟨locs, el⟩ : ∃ locs : List Loc, locs = [] := ⟨_, rfl⟩
  rw [← el] at hS ⊢
  have hS : va_S A s.heap H locs := by rw [eH]; exact hS
  refine lv_aload_n hx hb dX7_ends_0 rfl (lv_at hl 0 rfl) ?_
  obtain ⟨r1, hr1, h⟩ := xk_some h
  refine vx_VV (As := []) (rest := []) (wr := []) (wn := [oX7 q v_size r1.1 r1.2.1 r1.2.2.1 r1.2.2.2 v_undos v_changed v_felt v_wents v_wish v_trace, rA (q 1) cI 200 v_text]) hFx (k_X7_reads l D cI cZ cT q H.size v_size v_at v_begin v_token v_told v_undos v_changed v_felt v_wents v_wish v_trace v_text r1 fu hr1) (cwV 0 hts gX7_ends_X7_reads rfl rfl rfl (by decide +kernel) ⟨Nat.le_of_ble_eq_true rfl, Nat.le_of_ble_eq_true rfl⟩) hK hP hD hS hA [0, 1] [] [0, 1] rfl rfl rfl rfl (by decide) rfl rfl 7 0 rfl rfl rfl hl.1 rfl (Nat.le_of_ble_eq_true rfl) dX7_ends_1 ⟨Nat.zero_le _, Nat.zero_le _⟩ (fun H locs hP hD hS => ?_)
  refine lv_aload_n hx hb dX7_ends_4 rfl (lv_at hl 0 rfl) ?_
  refine va_get (C := RX7) (T := TX7) (N := 34) (v := .int r1.2.2.1) hx hb hts iw7 hown hK hP 0 rfl rfl 4 (Nat.le_of_ble_eq_true rfl) lk116 (fun _ h9 => h9) rfl dX7_ends_5 ?_
  refine lv_iconst (v := 3) hx hb dX7_ends_8 (by decide) ?_
  refine lv_icmp_ne (tgt := 16) hx hb dX7_ends_9 (by decide) (fun c2 => ?_) (fun c2 => ?_)
  · have h := (if_neg c2).symm.trans h
    refine lv_iconst (v := 0) hx hb dX7_ends_16 (by decide) ?_
    exact hret (0 : Int32) (r1.1, r1.2.1, r1.2.2.1, r1.2.2.2) H locs _ ls (Or.inl rfl) (Option.some.inj h) hP hD hS dX7_ends_17
  · have h := (if_pos c2).symm.trans h
    refine lv_iconst (v := 1) hx hb dX7_ends_12 (by decide) ?_
    refine lv_goto (tgt := 17) hx hb dX7_ends_13 (by decide) ?_
    exact hret (1 : Int32) (r1.1, r1.2.1, r1.2.2.1, r1.2.2.2) H locs _ ls (Or.inr rfl) (Option.some.inj h) hP hD hS dX7_ends_17
abbrev rm_X7_plain : Room := { frames := 0, cells := 0, slots := 0, locals := 0 }
set_option maxHeartbeats 4000000 in
set_option maxRecDepth 100000 in
theorem k_X7_plain (l : Launch) (D : va_G) (cI cZ cT : ClassId) (q : Nat → Nat) (sz : Nat) (v_size : Int32) (v_at : Int32) (v_begin : Int32) (v_token : Int32) (v_told : Int32) (v_undos : Int32) (v_changed : Int32) (v_felt : Int32) (v_wents : Int32) (v_wish : Int32) (v_trace : Int64) (v_read : Nat → Int32) (res : R_X7_plain) (fu : Nat) (hf : f_X7_plain fu v_read = some res) : Met l yX7_plain wsX7_plain rm_X7_plain (cPre D (tyz cI cZ cT) [.ref (q 0)] sz [oX7 q v_size v_at v_begin v_token v_told v_undos v_changed v_felt v_wents v_wish v_trace, rA (q 7) cI 64 v_read]) (cPv D (tyz cI cZ cT) (fun (u : (Nat → Int32)) => u = res) (fun u => [oX7 q v_size v_at v_begin v_token v_told v_undos v_changed v_felt v_wents v_wish v_trace, rA (q 7) cI 64 u]) [oX7 q v_size v_at v_begin v_token v_told v_undos v_changed v_felt v_wents v_wish v_trace, rA (q 7) cI 64 v_read] sz) 0 0 (va_A [oX7 q v_size v_at v_begin v_token v_told v_undos v_changed v_felt v_wents v_wish v_trace, rA (q 7) cI 64 v_read] sz) := by
  refine vx_meth_v (by decide) rfl (Nat.le_of_ble_eq_true rfl) ?_
  intro p e s m args below meth c A Q hx hb hml hown hts hK hP hD hA hS hret ls hl
  have hown : s.vm.findClass RX7 = some m.cls := hown
  have hl : lv_has ls 2 [(0, .ref (q 0))] := hl
  have hFx : CallFix p m c cX7_plain 2 s args wsX7_plain RX7 := ⟨hx, hb, hml, hown, hts⟩
  have lk13 := hts (.fieldLink RX7 13 "FogGuidesModel" "read" "[I") (by decide +kernel)
  have iw7 : ∀ w ∈ u_ws RX7 TX7 34, w ∈ wsX7_plain := by decide +kernel
  have hL2 : ∀ (n2 : Nat), ∀ (v_read : (Nat → Int32)) (x1 : Int32) (H : Heap) (locs : List Loc) (ls : Array Slot), f_X7_plain_L2 fu n2 v_read x1 = some res → va_P D vwCl [oX7 q v_size v_at v_begin v_token v_told v_undos v_changed v_felt v_wents v_wish v_trace, rA (q 7) cI 64 v_read] H → va_D A [oX7 q v_size v_at v_begin v_token v_told v_undos v_changed v_felt v_wents v_wish v_trace, rA (q 7) cI 64 v_read] → va_S A s.heap H locs → lv_has ls 2 [(0, .ref (q 0)), (1, .int x1)] → W p l e rm_X7_plain s m args below meth c H locs 0 0 Q (F0 m 2 ls []) := by
    intro n2
    induction n2 with
    | zero =>
      intro v_read x1 H locs ls h hP hD hS hl
      cases (show (none : Option R_X7_plain) = some res from h)
    | succ n2 ih2 =>
      intro v_read x1 H locs ls h hP hD hS hl
      have h : f_X7_plain_L2b fu (f_X7_plain_L2 fu n2) v_read x1 = some res := h
      unfold f_X7_plain_L2b at h
      refine lv_iload_n hx hb dX7_plain_2 rfl (lv_at hl 1 rfl) ?_
      refine lv_bipush (v := 64) hx hb dX7_plain_3 (by decide) ?_
      refine lv_icmp_ge (tgt := 21) hx hb dX7_plain_5 (by decide) (fun c1 => ?_) (fun c1 => ?_)
      · have h := (if_pos c1).symm.trans h
        refine lv_aload_n hx hb dX7_plain_21 rfl (lv_at hl 0 rfl) ?_
        refine va_get (C := RX7) (T := TX7) (N := 34) (v := .ref (q 7)) hx hb hts iw7 hown hK hP 0 rfl rfl 6 (Nat.le_of_ble_eq_true rfl) lk13 (fun _ h9 => h9) rfl dX7_plain_22 ?_
        refine lv_iconst (v := 3) hx hb dX7_plain_25 (by decide) ?_
        refine lv_iconst (v := 1) hx hb dX7_plain_26 (by decide) ?_
        obtain ⟨hi2, h⟩ := xb_some h
        refine va_iast hx hb hK hP hD hS 1 0 rfl rfl hi2 dX7_plain_27 (fun H locs hP hD hS => ?_)
        have hP : va_P D vwCl [oX7 q v_size v_at v_begin v_token v_told v_undos v_changed v_felt v_wents v_wish v_trace, rA (q 7) cI 64 (upd v_read (3 : Int32).toNatClampNeg (1 : Int32))] H := hP
        have hD : va_D A [oX7 q v_size v_at v_begin v_token v_told v_undos v_changed v_felt v_wents v_wish v_trace, rA (q 7) cI 64 (upd v_read (3 : Int32).toNatClampNeg (1 : Int32))] := hD
        exact hret (upd v_read (3 : Int32).toNatClampNeg (1 : Int32)) H locs _ ls (Option.some.inj h) hP hD hS dX7_plain_28
      · have h := (if_neg c1).symm.trans h
        refine lv_aload_n hx hb dX7_plain_8 rfl (lv_at hl 0 rfl) ?_
        refine va_get (C := RX7) (T := TX7) (N := 34) (v := .ref (q 7)) hx hb hts iw7 hown hK hP 0 rfl rfl 6 (Nat.le_of_ble_eq_true rfl) lk13 (fun _ h9 => h9) rfl dX7_plain_9 ?_
        refine lv_iload_n hx hb dX7_plain_12 rfl (lv_at hl 1 rfl) ?_
        refine lv_iconst (v := 0) hx hb dX7_plain_13 (by decide) ?_
        obtain ⟨hi3, h⟩ := xb_some h
        refine va_iast hx hb hK hP hD hS 1 0 rfl rfl hi3 dX7_plain_14 (fun H locs hP hD hS => ?_)
        have hP : va_P D vwCl [oX7 q v_size v_at v_begin v_token v_told v_undos v_changed v_felt v_wents v_wish v_trace, rA (q 7) cI 64 (upd v_read x1.toNatClampNeg (0 : Int32))] H := hP
        have hD : va_D A [oX7 q v_size v_at v_begin v_token v_told v_undos v_changed v_felt v_wents v_wish v_trace, rA (q 7) cI 64 (upd v_read x1.toNatClampNeg (0 : Int32))] := hD
        refine lv_iinc (v := x1 + 1) (lv' := [(1, .int (x1 + 1)), (0, .ref (q 0))]) hx hb dX7_plain_15 hl (k := 1) rfl rfl (by decide) rfl (fun ls hl => ?_)
        refine lv_goto (tgt := 2) hx hb dX7_plain_18 (by decide) ?_
        exact ih2 (upd v_read x1.toNatClampNeg (0 : Int32)) (x1 + 1) H locs ls h hP hD hS (lv_sub hl [1, 0] rfl)
  have h := hf
  unfold f_X7_plain at h
  obtain ⟨H, eH⟩ : ∃ H, H = s.heap := ⟨_, rfl⟩
  rw [← eH] at hP ⊢
  obtain ⟨locs, el⟩ : ∃ locs : List Loc, locs = [] := ⟨_, rfl⟩
  rw [← el] at hS ⊢
  have hS : va_S A s.heap H locs := by rw [eH]; exact hS
  refine lv_iconst (v := 0) hx hb dX7_plain_0 (by decide) ?_
  refine lv_istore_n (lv' := [(1, .int (0 : Int32)), (0, .ref (q 0))]) hx hb dX7_plain_1 rfl hl (by decide) rfl (fun ls hl => ?_)
  exact hL2 fu v_read (0 : Int32) H locs ls h hP hD hS (lv_sub hl [1, 0] rfl)
abbrev rm_X7_readCorner : Room := { frames := 5, cells := 0, slots := 0, locals := 108 }
set_option maxHeartbeats 4000000 in
set_option maxRecDepth 100000 in
theorem k_X7_readCorner (l : Launch) (D : va_G) (cI cZ cT : ClassId) (q : Nat → Nat) (sz : Nat) (v_size : Int32) (v_at : Int32) (v_begin : Int32) (v_token : Int32) (v_told : Int32) (v_undos : Int32) (v_changed : Int32) (v_felt : Int32) (v_wents : Int32) (v_wish : Int32) (v_trace : Int64) (v_text : Nat → Int32) (v_read : Nat → Int32) (res : R_X7_readCorner) (fu : Nat) (hf : f_X7_readCorner fu v_text v_size v_at v_begin v_token v_told v_read = some res) : Met l yX7_readCorner wsX7_readCorner rm_X7_readCorner (cPre D (tyz cI cZ cT) [.ref (q 0)] sz [oX7 q v_size v_at v_begin v_token v_told v_undos v_changed v_felt v_wents v_wish v_trace, rA (q 1) cI 200 v_text, rA (q 7) cI 64 v_read]) (cPi D (tyz cI cZ cT) (fun (r : Int32) (u : Int32 × Int32 × Int32 × Int32 × (Nat → Int32)) => (r, u) = res) (fun u => [oX7 q v_size u.1 u.2.1 u.2.2.1 u.2.2.2.1 v_undos v_changed v_felt v_wents v_wish v_trace, rA (q 1) cI 200 v_text, rA (q 7) cI 64 u.2.2.2.2]) [oX7 q v_size v_at v_begin v_token v_told v_undos v_changed v_felt v_wents v_wish v_trace, rA (q 1) cI 200 v_text, rA (q 7) cI 64 v_read] sz) 0 0 (va_A [oX7 q v_size v_at v_begin v_token v_told v_undos v_changed v_felt v_wents v_wish v_trace, rA (q 1) cI 200 v_text, rA (q 7) cI 64 v_read] sz) := by
  refine vx_meth_z (by decide) rfl (Nat.le_of_ble_eq_true rfl) ?_
  intro p e s m args below meth c A Q hx hb hml hown hts hK hP hD hA hS hret ls hl
  have hown : s.vm.findClass RX7 = some m.cls := hown
  have hl : lv_has ls 1 [(0, .ref (q 0))] := hl
  have hFx : CallFix p m c cX7_readCorner 1 s args wsX7_readCorner RX7 := ⟨hx, hb, hml, hown, hts⟩
  have lk13 := hts (.fieldLink RX7 13 "FogGuidesModel" "read" "[I") (by decide +kernel)
  have iw7 : ∀ w ∈ u_ws RX7 TX7 34, w ∈ wsX7_readCorner := by decide +kernel
  have lk106 := hts (.fieldLink RX7 106 "FogGuidesModel" "told" "I") (by decide +kernel)
  have h := hf
  unfold f_X7_readCorner at h
  obtain ⟨H, eH⟩ : ∃ H, H = s.heap := ⟨_, rfl⟩
  rw [← eH] at hP ⊢
  obtain ⟨locs, el⟩ : ∃ locs : List Loc, locs = [] := ⟨_, rfl⟩
  rw [← el] at hS ⊢
  have hS : va_S A s.heap H locs := by rw [eH]; exact hS
  refine lv_aload_n hx hb dX7_readCorner_0 rfl (lv_at hl 0 rfl) ?_
  refine va_get (C := RX7) (T := TX7) (N := 34) (v := .ref (q 7)) hx hb hts iw7 hown hK hP 0 rfl rfl 6 (Nat.le_of_ble_eq_true rfl) lk13 (fun _ h9 => h9) rfl dX7_readCorner_1 ?_
  refine lv_iconst (v := 0) hx hb dX7_readCorner_4 (by decide) ?_
  obtain ⟨hi1, h⟩ := xb_some h
  refine va_iald hx hb hK hP 2 0 rfl rfl hi1 dX7_readCorner_5 ?_
  refine lv_bipush (v := 7) hx hb dX7_readCorner_6 (by decide) ?_
  refine lv_icmp_eq (tgt := 20) hx hb dX7_readCorner_8 (by decide) (fun c2 => ?_) (fun c2 => ?_)
  · have h := (if_pos c2).symm.trans h
    refine lv_iconst (v := 0) hx hb dX7_readCorner_20 (by decide) ?_
    exact hret (0 : Int32) (v_at, v_begin, v_token, v_told, v_read) H locs _ ls (Or.inl rfl) (Option.some.inj h) hP hD hS dX7_readCorner_21
  · have h := (if_neg c2).symm.trans h
    refine lv_aload_n hx hb dX7_readCorner_11 rfl (lv_at hl 0 rfl) ?_
    refine lv_iconst (v := 0) hx hb dX7_readCorner_12 (by decide) ?_
    refine lv_iconst (v := 3) hx hb dX7_readCorner_13 (by decide) ?_
    obtain ⟨r3, hr3, h⟩ := xk_some h
    refine vx_VI (As := [.int (0 : Int32), .int (3 : Int32)]) (rest := []) (wr := [rA (q 7) cI 64 v_read]) (wn := [oX7 q v_size r3.2.1 r3.2.2.1 r3.2.2.2.1 r3.2.2.2.2 v_undos v_changed v_felt v_wents v_wish v_trace, rA (q 1) cI 200 v_text, rA (q 7) cI 64 v_read]) hFx (k_X7_number l D cI cZ cT q H.size v_size v_at v_begin v_token v_told v_undos v_changed v_felt v_wents v_wish v_trace v_text (0 : Int32) (3 : Int32) r3 fu hr3) (cwV 2 hts gX7_readCorner_X7_number rfl rfl rfl (by decide +kernel) ⟨Nat.le_of_ble_eq_true rfl, Nat.le_of_ble_eq_true rfl⟩) hK hP hD hS hA [0, 1] [2] [1, 2, 0] rfl rfl rfl rfl (by decide) rfl rfl 7 0 rfl rfl rfl hl.1 rfl (Nat.le_of_ble_eq_true rfl) dX7_readCorner_14 ⟨Nat.zero_le _, Nat.zero_le _⟩ (fun H locs hP hD hS => ?_)
    refine lv_if_ne (tgt := 22) hx hb dX7_readCorner_17 (by decide) (fun c4 => ?_) (fun c4 => ?_)
    · have h := (if_neg c4).symm.trans h
      refine lv_aload_n hx hb dX7_readCorner_22 rfl (lv_at hl 0 rfl) ?_
      refine va_get (C := RX7) (T := TX7) (N := 34) (v := .ref (q 7)) hx hb hts iw7 hown hK hP 0 rfl rfl 6 (Nat.le_of_ble_eq_true rfl) lk13 (fun _ h9 => h9) rfl dX7_readCorner_23 ?_
      refine lv_bipush (v := 6) hx hb dX7_readCorner_26 (by decide) ?_
      refine lv_aload_n hx hb dX7_readCorner_28 rfl (lv_at hl 0 rfl) ?_
      refine va_get (C := RX7) (T := TX7) (N := 34) (v := .ref (q 7)) hx hb hts iw7 hown hK hP 0 rfl rfl 6 (Nat.le_of_ble_eq_true rfl) lk13 (fun _ h9 => h9) rfl dX7_readCorner_29 ?_
      refine lv_iconst (v := 0) hx hb dX7_readCorner_32 (by decide) ?_
      obtain ⟨hi5, h⟩ := xb_some h
      refine va_iald hx hb hK hP 2 0 rfl rfl hi5 dX7_readCorner_33 ?_
      refine lv_iadd hx hb dX7_readCorner_34 ?_
      refine lv_aload_n hx hb dX7_readCorner_35 rfl (lv_at hl 0 rfl) ?_
      refine va_get (C := RX7) (T := TX7) (N := 34) (v := .int r3.2.2.2.2) hx hb hts iw7 hown hK hP 0 rfl rfl 5 (Nat.le_of_ble_eq_true rfl) lk106 (fun _ h9 => h9) rfl dX7_readCorner_36 ?_
      obtain ⟨hi6, h⟩ := xb_some h
      refine va_iast hx hb hK hP hD hS 2 0 rfl rfl hi6 dX7_readCorner_39 (fun H locs hP hD hS => ?_)
      have hP : va_P D vwCl [oX7 q v_size r3.2.1 r3.2.2.1 r3.2.2.2.1 r3.2.2.2.2 v_undos v_changed v_felt v_wents v_wish v_trace, rA (q 1) cI 200 v_text, rA (q 7) cI 64 (upd v_read ((6 : Int32) + (v_read (0 : Int32).toNatClampNeg)).toNatClampNeg r3.2.2.2.2)] H := hP
      have hD : va_D A [oX7 q v_size r3.2.1 r3.2.2.1 r3.2.2.2.1 r3.2.2.2.2 v_undos v_changed v_felt v_wents v_wish v_trace, rA (q 1) cI 200 v_text, rA (q 7) cI 64 (upd v_read ((6 : Int32) + (v_read (0 : Int32).toNatClampNeg)).toNatClampNeg r3.2.2.2.2)] := hD
      refine lv_aload_n hx hb dX7_readCorner_40 rfl (lv_at hl 0 rfl) ?_
      refine va_get (C := RX7) (T := TX7) (N := 34) (v := .ref (q 7)) hx hb hts iw7 hown hK hP 0 rfl rfl 6 (Nat.le_of_ble_eq_true rfl) lk13 (fun _ h9 => h9) rfl dX7_readCorner_41 ?_
      refine lv_iconst (v := 0) hx hb dX7_readCorner_44 (by decide) ?_
      refine lv_dup2_11 hx hb dX7_readCorner_45 rfl rfl ?_
      obtain ⟨hi7, h⟩ := xb_some h
      refine va_iald hx hb hK hP 2 0 rfl rfl hi7 dX7_readCorner_46 ?_
      refine lv_iconst (v := 1) hx hb dX7_readCorner_47 (by decide) ?_
      refine lv_iadd hx hb dX7_readCorner_48 ?_
      obtain ⟨hi8, h⟩ := xb_some h
      refine va_iast hx hb hK hP hD hS 2 0 rfl rfl hi8 dX7_readCorner_49 (fun H locs hP hD hS => ?_)
      have hP : va_P D vwCl [oX7 q v_size r3.2.1 r3.2.2.1 r3.2.2.2.1 r3.2.2.2.2 v_undos v_changed v_felt v_wents v_wish v_trace, rA (q 1) cI 200 v_text, rA (q 7) cI 64 (upd (upd v_read ((6 : Int32) + (v_read (0 : Int32).toNatClampNeg)).toNatClampNeg r3.2.2.2.2) (0 : Int32).toNatClampNeg (((upd v_read ((6 : Int32) + (v_read (0 : Int32).toNatClampNeg)).toNatClampNeg r3.2.2.2.2) (0 : Int32).toNatClampNeg) + (1 : Int32)))] H := hP
      have hD : va_D A [oX7 q v_size r3.2.1 r3.2.2.1 r3.2.2.2.1 r3.2.2.2.2 v_undos v_changed v_felt v_wents v_wish v_trace, rA (q 1) cI 200 v_text, rA (q 7) cI 64 (upd (upd v_read ((6 : Int32) + (v_read (0 : Int32).toNatClampNeg)).toNatClampNeg r3.2.2.2.2) (0 : Int32).toNatClampNeg (((upd v_read ((6 : Int32) + (v_read (0 : Int32).toNatClampNeg)).toNatClampNeg r3.2.2.2.2) (0 : Int32).toNatClampNeg) + (1 : Int32)))] := hD
      refine lv_aload_n hx hb dX7_readCorner_50 rfl (lv_at hl 0 rfl) ?_
      obtain ⟨r9, hr9, h⟩ := xk_some h
      refine vx_VI (As := []) (rest := []) (wr := [rA (q 7) cI 64 (upd (upd v_read ((6 : Int32) + (v_read (0 : Int32).toNatClampNeg)).toNatClampNeg r3.2.2.2.2) (0 : Int32).toNatClampNeg (((upd v_read ((6 : Int32) + (v_read (0 : Int32).toNatClampNeg)).toNatClampNeg r3.2.2.2.2) (0 : Int32).toNatClampNeg) + (1 : Int32)))]) (wn := [oX7 q v_size r9.2.1 r9.2.2.1 r9.2.2.2.1 r9.2.2.2.2 v_undos v_changed v_felt v_wents v_wish v_trace, rA (q 1) cI 200 v_text, rA (q 7) cI 64 (upd (upd v_read ((6 : Int32) + (v_read (0 : Int32).toNatClampNeg)).toNatClampNeg r3.2.2.2.2) (0 : Int32).toNatClampNeg (((upd v_read ((6 : Int32) + (v_read (0 : Int32).toNatClampNeg)).toNatClampNeg r3.2.2.2.2) (0 : Int32).toNatClampNeg) + (1 : Int32)))]) hFx (k_X7_ends l D cI cZ cT q H.size v_size r3.2.1 r3.2.2.1 r3.2.2.2.1 r3.2.2.2.2 v_undos v_changed v_felt v_wents v_wish v_trace v_text r9 fu hr9) (cwV 0 hts gX7_readCorner_X7_ends rfl rfl rfl (by decide +kernel) ⟨Nat.le_of_ble_eq_true rfl, Nat.le_of_ble_eq_true rfl⟩) hK hP hD hS hA [0, 1] [2] [1, 2, 0] rfl rfl rfl rfl (by decide) rfl rfl 7 0 rfl rfl rfl hl.1 rfl (Nat.le_of_ble_eq_true rfl) dX7_readCorner_51 ⟨Nat.zero_le _, Nat.zero_le _⟩ (fun H locs hP hD hS => ?_)
      obtain ⟨hz10, h⟩ := xz_some h
      exact hret r9.1 ((r9.2.1, r9.2.2.1, r9.2.2.2.1, r9.2.2.2.2, upd (upd v_read ((6 : Int32) + (v_read (0 : Int32).toNatClampNeg)).toNatClampNeg r3.2.2.2.2) (0 : Int32).toNatClampNeg (((upd v_read ((6 : Int32) + (v_read (0 : Int32).toNatClampNeg)).toNatClampNeg r3.2.2.2.2) (0 : Int32).toNatClampNeg) + (1 : Int32)))) H locs _ ls hz10 (Option.some.inj h) hP hD hS dX7_readCorner_54
    · have h := (if_pos c4).symm.trans h
      refine lv_iconst (v := 0) hx hb dX7_readCorner_20 (by decide) ?_
      exact hret (0 : Int32) (r3.2.1, r3.2.2.1, r3.2.2.2.1, r3.2.2.2.2, v_read) H locs _ ls (Or.inl rfl) (Option.some.inj h) hP hD hS dX7_readCorner_21
abbrev rm_X7_readStreet : Room := { frames := 5, cells := 0, slots := 0, locals := 108 }
set_option maxHeartbeats 4000000 in
set_option maxRecDepth 100000 in
theorem k_X7_readStreet (l : Launch) (D : va_G) (cI cZ cT : ClassId) (q : Nat → Nat) (sz : Nat) (v_size : Int32) (v_at : Int32) (v_begin : Int32) (v_token : Int32) (v_told : Int32) (v_undos : Int32) (v_changed : Int32) (v_felt : Int32) (v_wents : Int32) (v_wish : Int32) (v_trace : Int64) (v_text : Nat → Int32) (v_read : Nat → Int32) (res : R_X7_readStreet) (fu : Nat) (hf : f_X7_readStreet fu v_text v_size v_at v_begin v_token v_told v_read = some res) : Met l yX7_readStreet wsX7_readStreet rm_X7_readStreet (cPre D (tyz cI cZ cT) [.ref (q 0)] sz [oX7 q v_size v_at v_begin v_token v_told v_undos v_changed v_felt v_wents v_wish v_trace, rA (q 1) cI 200 v_text, rA (q 7) cI 64 v_read]) (cPi D (tyz cI cZ cT) (fun (r : Int32) (u : Int32 × Int32 × Int32 × Int32 × (Nat → Int32)) => (r, u) = res) (fun u => [oX7 q v_size u.1 u.2.1 u.2.2.1 u.2.2.2.1 v_undos v_changed v_felt v_wents v_wish v_trace, rA (q 1) cI 200 v_text, rA (q 7) cI 64 u.2.2.2.2]) [oX7 q v_size v_at v_begin v_token v_told v_undos v_changed v_felt v_wents v_wish v_trace, rA (q 1) cI 200 v_text, rA (q 7) cI 64 v_read] sz) 0 0 (va_A [oX7 q v_size v_at v_begin v_token v_told v_undos v_changed v_felt v_wents v_wish v_trace, rA (q 1) cI 200 v_text, rA (q 7) cI 64 v_read] sz) := by
  refine vx_meth_z (by decide) rfl (Nat.le_of_ble_eq_true rfl) ?_
  intro p e s m args below meth c A Q hx hb hml hown hts hK hP hD hA hS hret ls hl
  have hown : s.vm.findClass RX7 = some m.cls := hown
  have hl : lv_has ls 2 [(0, .ref (q 0))] := hl
  have hFx : CallFix p m c cX7_readStreet 2 s args wsX7_readStreet RX7 := ⟨hx, hb, hml, hown, hts⟩
  have lk13 := hts (.fieldLink RX7 13 "FogGuidesModel" "read" "[I") (by decide +kernel)
  have iw7 : ∀ w ∈ u_ws RX7 TX7 34, w ∈ wsX7_readStreet := by decide +kernel
  have lk106 := hts (.fieldLink RX7 106 "FogGuidesModel" "told" "I") (by decide +kernel)
  have h := hf
  unfold f_X7_readStreet at h
  obtain ⟨H, eH⟩ : ∃ H, H = s.heap := ⟨_, rfl⟩
  rw [← eH] at hP ⊢
  obtain ⟨locs, el⟩ : ∃ locs : List Loc, locs = [] := ⟨_, rfl⟩
  rw [← el] at hS ⊢
  have hS : va_S A s.heap H locs := by rw [eH]; exact hS
  refine lv_bipush (v := 13) hx hb dX7_readStreet_0 (by decide) ?_
  refine lv_iconst (v := 3) hx hb dX7_readStreet_2 (by decide) ?_
  refine lv_aload_n hx hb dX7_readStreet_3 rfl (lv_at hl 0 rfl) ?_
  refine va_get (C := RX7) (T := TX7) (N := 34) (v := .ref (q 7)) hx hb hts iw7 hown hK hP 0 rfl rfl 6 (Nat.le_of_ble_eq_true rfl) lk13 (fun _ h9 => h9) rfl dX7_readStreet_4 ?_
  refine lv_iconst (v := 1) hx hb dX7_readStreet_7 (by decide) ?_
  obtain ⟨hi1, h⟩ := xb_some h
  refine va_iald hx hb hK hP 2 0 rfl rfl hi1 dX7_readStreet_8 ?_
  refine lv_imul hx hb dX7_readStreet_9 ?_
  refine lv_iadd hx hb dX7_readStreet_10 ?_
  refine lv_istore_n (lv' := [(1, .int ((13 : Int32) + ((3 : Int32) * (v_read (1 : Int32).toNatClampNeg)))), (0, .ref (q 0))]) hx hb dX7_readStreet_11 rfl hl (by decide) rfl (fun ls hl => ?_)
  refine lv_aload_n hx hb dX7_readStreet_12 rfl (lv_at hl 1 rfl) ?_
  refine va_get (C := RX7) (T := TX7) (N := 34) (v := .ref (q 7)) hx hb hts iw7 hown hK hP 0 rfl rfl 6 (Nat.le_of_ble_eq_true rfl) lk13 (fun _ h9 => h9) rfl dX7_readStreet_13 ?_
  refine lv_iconst (v := 1) hx hb dX7_readStreet_16 (by decide) ?_
  obtain ⟨hi2, h⟩ := xb_some h
  refine va_iald hx hb hK hP 2 0 rfl rfl hi2 dX7_readStreet_17 ?_
  refine lv_bipush (v := 9) hx hb dX7_readStreet_18 (by decide) ?_
  refine lv_icmp_eq (tgt := 39) hx hb dX7_readStreet_20 (by decide) (fun c3 => ?_) (fun c3 => ?_)
  · have h := (if_pos c3).symm.trans h
    refine lv_iconst (v := 0) hx hb dX7_readStreet_39 (by decide) ?_
    exact hret (0 : Int32) (v_at, v_begin, v_token, v_told, v_read) H locs _ ls (Or.inl rfl) (Option.some.inj h) hP hD hS dX7_readStreet_40
  · have h := (if_neg c3).symm.trans h
    refine lv_aload_n hx hb dX7_readStreet_23 rfl (lv_at hl 1 rfl) ?_
    refine lv_iconst (v := 0) hx hb dX7_readStreet_24 (by decide) ?_
    refine lv_aload_n hx hb dX7_readStreet_25 rfl (lv_at hl 1 rfl) ?_
    refine va_get (C := RX7) (T := TX7) (N := 34) (v := .ref (q 7)) hx hb hts iw7 hown hK hP 0 rfl rfl 6 (Nat.le_of_ble_eq_true rfl) lk13 (fun _ h9 => h9) rfl dX7_readStreet_26 ?_
    refine lv_iconst (v := 0) hx hb dX7_readStreet_29 (by decide) ?_
    obtain ⟨hi4, h⟩ := xb_some h
    refine va_iald hx hb hK hP 2 0 rfl rfl hi4 dX7_readStreet_30 ?_
    refine lv_iconst (v := 1) hx hb dX7_readStreet_31 (by decide) ?_
    refine lv_isub hx hb dX7_readStreet_32 ?_
    obtain ⟨r5, hr5, h⟩ := xk_some h
    refine vx_VI (As := [.int (0 : Int32), .int ((v_read (0 : Int32).toNatClampNeg) - (1 : Int32))]) (rest := []) (wr := [rA (q 7) cI 64 v_read]) (wn := [oX7 q v_size r5.2.1 r5.2.2.1 r5.2.2.2.1 r5.2.2.2.2 v_undos v_changed v_felt v_wents v_wish v_trace, rA (q 1) cI 200 v_text, rA (q 7) cI 64 v_read]) hFx (k_X7_number l D cI cZ cT q H.size v_size v_at v_begin v_token v_told v_undos v_changed v_felt v_wents v_wish v_trace v_text (0 : Int32) ((v_read (0 : Int32).toNatClampNeg) - (1 : Int32)) r5 fu hr5) (cwV 2 hts gX7_readStreet_X7_number rfl rfl rfl (by decide +kernel) ⟨Nat.le_of_ble_eq_true rfl, Nat.le_of_ble_eq_true rfl⟩) hK hP hD hS hA [0, 1] [2] [1, 2, 0] rfl rfl rfl rfl (by decide) rfl rfl 7 0 rfl rfl rfl hl.1 rfl (Nat.le_of_ble_eq_true rfl) dX7_readStreet_33 ⟨Nat.zero_le _, Nat.zero_le _⟩ (fun H locs hP hD hS => ?_)
    refine lv_if_ne (tgt := 41) hx hb dX7_readStreet_36 (by decide) (fun c6 => ?_) (fun c6 => ?_)
    · have h := (if_neg c6).symm.trans h
      refine lv_aload_n hx hb dX7_readStreet_41 rfl (lv_at hl 1 rfl) ?_
      refine va_get (C := RX7) (T := TX7) (N := 34) (v := .ref (q 7)) hx hb hts iw7 hown hK hP 0 rfl rfl 6 (Nat.le_of_ble_eq_true rfl) lk13 (fun _ h9 => h9) rfl dX7_readStreet_42 ?_
      refine lv_iload_n hx hb dX7_readStreet_45 rfl (lv_at hl 0 rfl) ?_
      refine lv_aload_n hx hb dX7_readStreet_46 rfl (lv_at hl 1 rfl) ?_
      refine va_get (C := RX7) (T := TX7) (N := 34) (v := .int r5.2.2.2.2) hx hb hts iw7 hown hK hP 0 rfl rfl 5 (Nat.le_of_ble_eq_true rfl) lk106 (fun _ h9 => h9) rfl dX7_readStreet_47 ?_
      obtain ⟨hi7, h⟩ := xb_some h
      refine va_iast hx hb hK hP hD hS 2 0 rfl rfl hi7 dX7_readStreet_50 (fun H locs hP hD hS => ?_)
      have hP : va_P D vwCl [oX7 q v_size r5.2.1 r5.2.2.1 r5.2.2.2.1 r5.2.2.2.2 v_undos v_changed v_felt v_wents v_wish v_trace, rA (q 1) cI 200 v_text, rA (q 7) cI 64 (upd v_read ((13 : Int32) + ((3 : Int32) * (v_read (1 : Int32).toNatClampNeg))).toNatClampNeg r5.2.2.2.2)] H := hP
      have hD : va_D A [oX7 q v_size r5.2.1 r5.2.2.1 r5.2.2.2.1 r5.2.2.2.2 v_undos v_changed v_felt v_wents v_wish v_trace, rA (q 1) cI 200 v_text, rA (q 7) cI 64 (upd v_read ((13 : Int32) + ((3 : Int32) * (v_read (1 : Int32).toNatClampNeg))).toNatClampNeg r5.2.2.2.2)] := hD
      refine lv_aload_n hx hb dX7_readStreet_51 rfl (lv_at hl 1 rfl) ?_
      refine lv_iconst (v := 0) hx hb dX7_readStreet_52 (by decide) ?_
      refine lv_aload_n hx hb dX7_readStreet_53 rfl (lv_at hl 1 rfl) ?_
      refine va_get (C := RX7) (T := TX7) (N := 34) (v := .ref (q 7)) hx hb hts iw7 hown hK hP 0 rfl rfl 6 (Nat.le_of_ble_eq_true rfl) lk13 (fun _ h9 => h9) rfl dX7_readStreet_54 ?_
      refine lv_iconst (v := 0) hx hb dX7_readStreet_57 (by decide) ?_
      obtain ⟨hi8, h⟩ := xb_some h
      refine va_iald hx hb hK hP 2 0 rfl rfl hi8 dX7_readStreet_58 ?_
      refine lv_iconst (v := 1) hx hb dX7_readStreet_59 (by decide) ?_
      refine lv_isub hx hb dX7_readStreet_60 ?_
      obtain ⟨r9, hr9, h⟩ := xk_some h
      refine vx_VI (As := [.int (0 : Int32), .int (((upd v_read ((13 : Int32) + ((3 : Int32) * (v_read (1 : Int32).toNatClampNeg))).toNatClampNeg r5.2.2.2.2) (0 : Int32).toNatClampNeg) - (1 : Int32))]) (rest := []) (wr := [rA (q 7) cI 64 (upd v_read ((13 : Int32) + ((3 : Int32) * (v_read (1 : Int32).toNatClampNeg))).toNatClampNeg r5.2.2.2.2)]) (wn := [oX7 q v_size r9.2.1 r9.2.2.1 r9.2.2.2.1 r9.2.2.2.2 v_undos v_changed v_felt v_wents v_wish v_trace, rA (q 1) cI 200 v_text, rA (q 7) cI 64 (upd v_read ((13 : Int32) + ((3 : Int32) * (v_read (1 : Int32).toNatClampNeg))).toNatClampNeg r5.2.2.2.2)]) hFx (k_X7_number l D cI cZ cT q H.size v_size r5.2.1 r5.2.2.1 r5.2.2.2.1 r5.2.2.2.2 v_undos v_changed v_felt v_wents v_wish v_trace v_text (0 : Int32) (((upd v_read ((13 : Int32) + ((3 : Int32) * (v_read (1 : Int32).toNatClampNeg))).toNatClampNeg r5.2.2.2.2) (0 : Int32).toNatClampNeg) - (1 : Int32)) r9 fu hr9) (cwV 2 hts gX7_readStreet_X7_number rfl rfl rfl (by decide +kernel) ⟨Nat.le_of_ble_eq_true rfl, Nat.le_of_ble_eq_true rfl⟩) hK hP hD hS hA [0, 1] [2] [1, 2, 0] rfl rfl rfl rfl (by decide) rfl rfl 7 0 rfl rfl rfl hl.1 rfl (Nat.le_of_ble_eq_true rfl) dX7_readStreet_61 ⟨Nat.zero_le _, Nat.zero_le _⟩ (fun H locs hP hD hS => ?_)
      refine lv_if_eq (tgt := 80) hx hb dX7_readStreet_64 (by decide) (fun c10 => ?_) (fun c10 => ?_)
      · have h := (if_pos c10).symm.trans h
        refine lv_iconst (v := 0) hx hb dX7_readStreet_80 (by decide) ?_
        exact hret (0 : Int32) ((r9.2.1, r9.2.2.1, r9.2.2.2.1, r9.2.2.2.2, upd v_read ((13 : Int32) + ((3 : Int32) * (v_read (1 : Int32).toNatClampNeg))).toNatClampNeg r5.2.2.2.2)) H locs _ ls (Or.inl rfl) (Option.some.inj h) hP hD hS dX7_readStreet_81
      · have h := (if_neg c10).symm.trans h
        refine lv_aload_n hx hb dX7_readStreet_67 rfl (lv_at hl 1 rfl) ?_
        refine va_get (C := RX7) (T := TX7) (N := 34) (v := .int r9.2.2.2.2) hx hb hts iw7 hown hK hP 0 rfl rfl 5 (Nat.le_of_ble_eq_true rfl) lk106 (fun _ h9 => h9) rfl dX7_readStreet_68 ?_
        refine lv_aload_n hx hb dX7_readStreet_71 rfl (lv_at hl 1 rfl) ?_
        refine va_get (C := RX7) (T := TX7) (N := 34) (v := .ref (q 7)) hx hb hts iw7 hown hK hP 0 rfl rfl 6 (Nat.le_of_ble_eq_true rfl) lk13 (fun _ h9 => h9) rfl dX7_readStreet_72 ?_
        refine lv_iload_n hx hb dX7_readStreet_75 rfl (lv_at hl 0 rfl) ?_
        obtain ⟨hi11, h⟩ := xb_some h
        refine va_iald hx hb hK hP 2 0 rfl rfl hi11 dX7_readStreet_76 ?_
        refine lv_icmp_ne (tgt := 82) hx hb dX7_readStreet_77 (by decide) (fun c12 => ?_) (fun c12 => ?_)
        · have h := (if_neg c12).symm.trans h
          refine lv_aload_n hx hb dX7_readStreet_82 rfl (lv_at hl 1 rfl) ?_
          refine va_get (C := RX7) (T := TX7) (N := 34) (v := .ref (q 7)) hx hb hts iw7 hown hK hP 0 rfl rfl 6 (Nat.le_of_ble_eq_true rfl) lk13 (fun _ h9 => h9) rfl dX7_readStreet_83 ?_
          refine lv_iload_n hx hb dX7_readStreet_86 rfl (lv_at hl 0 rfl) ?_
          refine lv_iconst (v := 1) hx hb dX7_readStreet_87 (by decide) ?_
          refine lv_iadd hx hb dX7_readStreet_88 ?_
          refine lv_aload_n hx hb dX7_readStreet_89 rfl (lv_at hl 1 rfl) ?_
          refine va_get (C := RX7) (T := TX7) (N := 34) (v := .int r9.2.2.2.2) hx hb hts iw7 hown hK hP 0 rfl rfl 5 (Nat.le_of_ble_eq_true rfl) lk106 (fun _ h9 => h9) rfl dX7_readStreet_90 ?_
          obtain ⟨hi13, h⟩ := xb_some h
          refine va_iast hx hb hK hP hD hS 2 0 rfl rfl hi13 dX7_readStreet_93 (fun H locs hP hD hS => ?_)
          have hP : va_P D vwCl [oX7 q v_size r9.2.1 r9.2.2.1 r9.2.2.2.1 r9.2.2.2.2 v_undos v_changed v_felt v_wents v_wish v_trace, rA (q 1) cI 200 v_text, rA (q 7) cI 64 (upd (upd v_read ((13 : Int32) + ((3 : Int32) * (v_read (1 : Int32).toNatClampNeg))).toNatClampNeg r5.2.2.2.2) (((13 : Int32) + ((3 : Int32) * (v_read (1 : Int32).toNatClampNeg))) + (1 : Int32)).toNatClampNeg r9.2.2.2.2)] H := hP
          have hD : va_D A [oX7 q v_size r9.2.1 r9.2.2.1 r9.2.2.2.1 r9.2.2.2.2 v_undos v_changed v_felt v_wents v_wish v_trace, rA (q 1) cI 200 v_text, rA (q 7) cI 64 (upd (upd v_read ((13 : Int32) + ((3 : Int32) * (v_read (1 : Int32).toNatClampNeg))).toNatClampNeg r5.2.2.2.2) (((13 : Int32) + ((3 : Int32) * (v_read (1 : Int32).toNatClampNeg))) + (1 : Int32)).toNatClampNeg r9.2.2.2.2)] := hD
          refine lv_aload_n hx hb dX7_readStreet_94 rfl (lv_at hl 1 rfl) ?_
          refine lv_iconst (v := 1) hx hb dX7_readStreet_95 (by decide) ?_
          refine lv_bipush (v := 9) hx hb dX7_readStreet_96 (by decide) ?_
          obtain ⟨r14, hr14, h⟩ := xk_some h
          refine vx_VI (As := [.int (1 : Int32), .int (9 : Int32)]) (rest := []) (wr := [rA (q 7) cI 64 (upd (upd v_read ((13 : Int32) + ((3 : Int32) * (v_read (1 : Int32).toNatClampNeg))).toNatClampNeg r5.2.2.2.2) (((13 : Int32) + ((3 : Int32) * (v_read (1 : Int32).toNatClampNeg))) + (1 : Int32)).toNatClampNeg r9.2.2.2.2)]) (wn := [oX7 q v_size r14.2.1 r14.2.2.1 r14.2.2.2.1 r14.2.2.2.2 v_undos v_changed v_felt v_wents v_wish v_trace, rA (q 1) cI 200 v_text, rA (q 7) cI 64 (upd (upd v_read ((13 : Int32) + ((3 : Int32) * (v_read (1 : Int32).toNatClampNeg))).toNatClampNeg r5.2.2.2.2) (((13 : Int32) + ((3 : Int32) * (v_read (1 : Int32).toNatClampNeg))) + (1 : Int32)).toNatClampNeg r9.2.2.2.2)]) hFx (k_X7_number l D cI cZ cT q H.size v_size r9.2.1 r9.2.2.1 r9.2.2.2.1 r9.2.2.2.2 v_undos v_changed v_felt v_wents v_wish v_trace v_text (1 : Int32) (9 : Int32) r14 fu hr14) (cwV 2 hts gX7_readStreet_X7_number rfl rfl rfl (by decide +kernel) ⟨Nat.le_of_ble_eq_true rfl, Nat.le_of_ble_eq_true rfl⟩) hK hP hD hS hA [0, 1] [2] [1, 2, 0] rfl rfl rfl rfl (by decide) rfl rfl 7 0 rfl rfl rfl hl.1 rfl (Nat.le_of_ble_eq_true rfl) dX7_readStreet_98 ⟨Nat.zero_le _, Nat.zero_le _⟩ (fun H locs hP hD hS => ?_)
          refine lv_if_ne (tgt := 106) hx hb dX7_readStreet_101 (by decide) (fun c15 => ?_) (fun c15 => ?_)
          · have h := (if_neg c15).symm.trans h
            refine lv_aload_n hx hb dX7_readStreet_106 rfl (lv_at hl 1 rfl) ?_
            refine va_get (C := RX7) (T := TX7) (N := 34) (v := .ref (q 7)) hx hb hts iw7 hown hK hP 0 rfl rfl 6 (Nat.le_of_ble_eq_true rfl) lk13 (fun _ h9 => h9) rfl dX7_readStreet_107 ?_
            refine lv_iload_n hx hb dX7_readStreet_110 rfl (lv_at hl 0 rfl) ?_
            refine lv_iconst (v := 2) hx hb dX7_readStreet_111 (by decide) ?_
            refine lv_iadd hx hb dX7_readStreet_112 ?_
            refine lv_aload_n hx hb dX7_readStreet_113 rfl (lv_at hl 1 rfl) ?_
            refine va_get (C := RX7) (T := TX7) (N := 34) (v := .int r14.2.2.2.2) hx hb hts iw7 hown hK hP 0 rfl rfl 5 (Nat.le_of_ble_eq_true rfl) lk106 (fun _ h9 => h9) rfl dX7_readStreet_114 ?_
            obtain ⟨hi16, h⟩ := xb_some h
            refine va_iast hx hb hK hP hD hS 2 0 rfl rfl hi16 dX7_readStreet_117 (fun H locs hP hD hS => ?_)
            have hP : va_P D vwCl [oX7 q v_size r14.2.1 r14.2.2.1 r14.2.2.2.1 r14.2.2.2.2 v_undos v_changed v_felt v_wents v_wish v_trace, rA (q 1) cI 200 v_text, rA (q 7) cI 64 (upd (upd (upd v_read ((13 : Int32) + ((3 : Int32) * (v_read (1 : Int32).toNatClampNeg))).toNatClampNeg r5.2.2.2.2) (((13 : Int32) + ((3 : Int32) * (v_read (1 : Int32).toNatClampNeg))) + (1 : Int32)).toNatClampNeg r9.2.2.2.2) (((13 : Int32) + ((3 : Int32) * (v_read (1 : Int32).toNatClampNeg))) + (2 : Int32)).toNatClampNeg r14.2.2.2.2)] H := hP
            have hD : va_D A [oX7 q v_size r14.2.1 r14.2.2.1 r14.2.2.2.1 r14.2.2.2.2 v_undos v_changed v_felt v_wents v_wish v_trace, rA (q 1) cI 200 v_text, rA (q 7) cI 64 (upd (upd (upd v_read ((13 : Int32) + ((3 : Int32) * (v_read (1 : Int32).toNatClampNeg))).toNatClampNeg r5.2.2.2.2) (((13 : Int32) + ((3 : Int32) * (v_read (1 : Int32).toNatClampNeg))) + (1 : Int32)).toNatClampNeg r9.2.2.2.2) (((13 : Int32) + ((3 : Int32) * (v_read (1 : Int32).toNatClampNeg))) + (2 : Int32)).toNatClampNeg r14.2.2.2.2)] := hD
            refine lv_aload_n hx hb dX7_readStreet_118 rfl (lv_at hl 1 rfl) ?_
            refine va_get (C := RX7) (T := TX7) (N := 34) (v := .ref (q 7)) hx hb hts iw7 hown hK hP 0 rfl rfl 6 (Nat.le_of_ble_eq_true rfl) lk13 (fun _ h9 => h9) rfl dX7_readStreet_119 ?_
            refine lv_iconst (v := 1) hx hb dX7_readStreet_122 (by decide) ?_
            refine lv_dup2_11 hx hb dX7_readStreet_123 rfl rfl ?_
            obtain ⟨hi17, h⟩ := xb_some h
            refine va_iald hx hb hK hP 2 0 rfl rfl hi17 dX7_readStreet_124 ?_
            refine lv_iconst (v := 1) hx hb dX7_readStreet_125 (by decide) ?_
            refine lv_iadd hx hb dX7_readStreet_126 ?_
            obtain ⟨hi18, h⟩ := xb_some h
            refine va_iast hx hb hK hP hD hS 2 0 rfl rfl hi18 dX7_readStreet_127 (fun H locs hP hD hS => ?_)
            have hP : va_P D vwCl [oX7 q v_size r14.2.1 r14.2.2.1 r14.2.2.2.1 r14.2.2.2.2 v_undos v_changed v_felt v_wents v_wish v_trace, rA (q 1) cI 200 v_text, rA (q 7) cI 64 (upd (upd (upd (upd v_read ((13 : Int32) + ((3 : Int32) * (v_read (1 : Int32).toNatClampNeg))).toNatClampNeg r5.2.2.2.2) (((13 : Int32) + ((3 : Int32) * (v_read (1 : Int32).toNatClampNeg))) + (1 : Int32)).toNatClampNeg r9.2.2.2.2) (((13 : Int32) + ((3 : Int32) * (v_read (1 : Int32).toNatClampNeg))) + (2 : Int32)).toNatClampNeg r14.2.2.2.2) (1 : Int32).toNatClampNeg (((upd (upd (upd v_read ((13 : Int32) + ((3 : Int32) * (v_read (1 : Int32).toNatClampNeg))).toNatClampNeg r5.2.2.2.2) (((13 : Int32) + ((3 : Int32) * (v_read (1 : Int32).toNatClampNeg))) + (1 : Int32)).toNatClampNeg r9.2.2.2.2) (((13 : Int32) + ((3 : Int32) * (v_read (1 : Int32).toNatClampNeg))) + (2 : Int32)).toNatClampNeg r14.2.2.2.2) (1 : Int32).toNatClampNeg) + (1 : Int32)))] H := hP
            have hD : va_D A [oX7 q v_size r14.2.1 r14.2.2.1 r14.2.2.2.1 r14.2.2.2.2 v_undos v_changed v_felt v_wents v_wish v_trace, rA (q 1) cI 200 v_text, rA (q 7) cI 64 (upd (upd (upd (upd v_read ((13 : Int32) + ((3 : Int32) * (v_read (1 : Int32).toNatClampNeg))).toNatClampNeg r5.2.2.2.2) (((13 : Int32) + ((3 : Int32) * (v_read (1 : Int32).toNatClampNeg))) + (1 : Int32)).toNatClampNeg r9.2.2.2.2) (((13 : Int32) + ((3 : Int32) * (v_read (1 : Int32).toNatClampNeg))) + (2 : Int32)).toNatClampNeg r14.2.2.2.2) (1 : Int32).toNatClampNeg (((upd (upd (upd v_read ((13 : Int32) + ((3 : Int32) * (v_read (1 : Int32).toNatClampNeg))).toNatClampNeg r5.2.2.2.2) (((13 : Int32) + ((3 : Int32) * (v_read (1 : Int32).toNatClampNeg))) + (1 : Int32)).toNatClampNeg r9.2.2.2.2) (((13 : Int32) + ((3 : Int32) * (v_read (1 : Int32).toNatClampNeg))) + (2 : Int32)).toNatClampNeg r14.2.2.2.2) (1 : Int32).toNatClampNeg) + (1 : Int32)))] := hD
            refine lv_aload_n hx hb dX7_readStreet_128 rfl (lv_at hl 1 rfl) ?_
            obtain ⟨r19, hr19, h⟩ := xk_some h
            refine vx_VI (As := []) (rest := []) (wr := [rA (q 7) cI 64 (upd (upd (upd (upd v_read ((13 : Int32) + ((3 : Int32) * (v_read (1 : Int32).toNatClampNeg))).toNatClampNeg r5.2.2.2.2) (((13 : Int32) + ((3 : Int32) * (v_read (1 : Int32).toNatClampNeg))) + (1 : Int32)).toNatClampNeg r9.2.2.2.2) (((13 : Int32) + ((3 : Int32) * (v_read (1 : Int32).toNatClampNeg))) + (2 : Int32)).toNatClampNeg r14.2.2.2.2) (1 : Int32).toNatClampNeg (((upd (upd (upd v_read ((13 : Int32) + ((3 : Int32) * (v_read (1 : Int32).toNatClampNeg))).toNatClampNeg r5.2.2.2.2) (((13 : Int32) + ((3 : Int32) * (v_read (1 : Int32).toNatClampNeg))) + (1 : Int32)).toNatClampNeg r9.2.2.2.2) (((13 : Int32) + ((3 : Int32) * (v_read (1 : Int32).toNatClampNeg))) + (2 : Int32)).toNatClampNeg r14.2.2.2.2) (1 : Int32).toNatClampNeg) + (1 : Int32)))]) (wn := [oX7 q v_size r19.2.1 r19.2.2.1 r19.2.2.2.1 r19.2.2.2.2 v_undos v_changed v_felt v_wents v_wish v_trace, rA (q 1) cI 200 v_text, rA (q 7) cI 64 (upd (upd (upd (upd v_read ((13 : Int32) + ((3 : Int32) * (v_read (1 : Int32).toNatClampNeg))).toNatClampNeg r5.2.2.2.2) (((13 : Int32) + ((3 : Int32) * (v_read (1 : Int32).toNatClampNeg))) + (1 : Int32)).toNatClampNeg r9.2.2.2.2) (((13 : Int32) + ((3 : Int32) * (v_read (1 : Int32).toNatClampNeg))) + (2 : Int32)).toNatClampNeg r14.2.2.2.2) (1 : Int32).toNatClampNeg (((upd (upd (upd v_read ((13 : Int32) + ((3 : Int32) * (v_read (1 : Int32).toNatClampNeg))).toNatClampNeg r5.2.2.2.2) (((13 : Int32) + ((3 : Int32) * (v_read (1 : Int32).toNatClampNeg))) + (1 : Int32)).toNatClampNeg r9.2.2.2.2) (((13 : Int32) + ((3 : Int32) * (v_read (1 : Int32).toNatClampNeg))) + (2 : Int32)).toNatClampNeg r14.2.2.2.2) (1 : Int32).toNatClampNeg) + (1 : Int32)))]) hFx (k_X7_ends l D cI cZ cT q H.size v_size r14.2.1 r14.2.2.1 r14.2.2.2.1 r14.2.2.2.2 v_undos v_changed v_felt v_wents v_wish v_trace v_text r19 fu hr19) (cwV 0 hts gX7_readStreet_X7_ends rfl rfl rfl (by decide +kernel) ⟨Nat.le_of_ble_eq_true rfl, Nat.le_of_ble_eq_true rfl⟩) hK hP hD hS hA [0, 1] [2] [1, 2, 0] rfl rfl rfl rfl (by decide) rfl rfl 7 0 rfl rfl rfl hl.1 rfl (Nat.le_of_ble_eq_true rfl) dX7_readStreet_129 ⟨Nat.zero_le _, Nat.zero_le _⟩ (fun H locs hP hD hS => ?_)
            obtain ⟨hz20, h⟩ := xz_some h
            exact hret r19.1 ((r19.2.1, r19.2.2.1, r19.2.2.2.1, r19.2.2.2.2, upd (upd (upd (upd v_read ((13 : Int32) + ((3 : Int32) * (v_read (1 : Int32).toNatClampNeg))).toNatClampNeg r5.2.2.2.2) (((13 : Int32) + ((3 : Int32) * (v_read (1 : Int32).toNatClampNeg))) + (1 : Int32)).toNatClampNeg r9.2.2.2.2) (((13 : Int32) + ((3 : Int32) * (v_read (1 : Int32).toNatClampNeg))) + (2 : Int32)).toNatClampNeg r14.2.2.2.2) (1 : Int32).toNatClampNeg (((upd (upd (upd v_read ((13 : Int32) + ((3 : Int32) * (v_read (1 : Int32).toNatClampNeg))).toNatClampNeg r5.2.2.2.2) (((13 : Int32) + ((3 : Int32) * (v_read (1 : Int32).toNatClampNeg))) + (1 : Int32)).toNatClampNeg r9.2.2.2.2) (((13 : Int32) + ((3 : Int32) * (v_read (1 : Int32).toNatClampNeg))) + (2 : Int32)).toNatClampNeg r14.2.2.2.2) (1 : Int32).toNatClampNeg) + (1 : Int32)))) H locs _ ls hz20 (Option.some.inj h) hP hD hS dX7_readStreet_132
          · have h := (if_pos c15).symm.trans h
            refine lv_iconst (v := 0) hx hb dX7_readStreet_104 (by decide) ?_
            exact hret (0 : Int32) ((r14.2.1, r14.2.2.1, r14.2.2.2.1, r14.2.2.2.2, upd (upd v_read ((13 : Int32) + ((3 : Int32) * (v_read (1 : Int32).toNatClampNeg))).toNatClampNeg r5.2.2.2.2) (((13 : Int32) + ((3 : Int32) * (v_read (1 : Int32).toNatClampNeg))) + (1 : Int32)).toNatClampNeg r9.2.2.2.2)) H locs _ ls (Or.inl rfl) (Option.some.inj h) hP hD hS dX7_readStreet_105
        · have h := (if_pos c12).symm.trans h
          refine lv_iconst (v := 0) hx hb dX7_readStreet_80 (by decide) ?_
          exact hret (0 : Int32) ((r9.2.1, r9.2.2.1, r9.2.2.2.1, r9.2.2.2.2, upd v_read ((13 : Int32) + ((3 : Int32) * (v_read (1 : Int32).toNatClampNeg))).toNatClampNeg r5.2.2.2.2)) H locs _ ls (Or.inl rfl) (Option.some.inj h) hP hD hS dX7_readStreet_81
    · have h := (if_pos c6).symm.trans h
      refine lv_iconst (v := 0) hx hb dX7_readStreet_39 (by decide) ?_
      exact hret (0 : Int32) (r5.2.1, r5.2.2.1, r5.2.2.2.1, r5.2.2.2.2, v_read) H locs _ ls (Or.inl rfl) (Option.some.inj h) hP hD hS dX7_readStreet_40
abbrev rm_X7_bits : Room := { frames := 5, cells := 0, slots := 0, locals := 108 }
set_option maxHeartbeats 4000000 in
set_option maxRecDepth 100000 in
theorem k_X7_bits (l : Launch) (D : va_G) (cI cZ cT : ClassId) (q : Nat → Nat) (sz : Nat) (v_size : Int32) (v_at : Int32) (v_begin : Int32) (v_token : Int32) (v_told : Int32) (v_undos : Int32) (v_changed : Int32) (v_felt : Int32) (v_wents : Int32) (v_wish : Int32) (v_trace : Int64) (v_text : Nat → Int32) (v_read : Nat → Int32) (x1 : Int32) (x2 : Int32) (res : R_X7_bits) (fu : Nat) (hf : f_X7_bits fu v_text v_size v_at v_begin v_token v_told v_read x1 x2 = some res) : Met l yX7_bits wsX7_bits rm_X7_bits (cPre D (tyz cI cZ cT) [.ref (q 0), .int x1, .int x2] sz [oX7 q v_size v_at v_begin v_token v_told v_undos v_changed v_felt v_wents v_wish v_trace, rA (q 1) cI 200 v_text, rA (q 7) cI 64 v_read]) (cPi D (tyz cI cZ cT) (fun (r : Int32) (u : Int32 × Int32 × Int32 × Int32 × (Nat → Int32)) => (r, u) = res) (fun u => [oX7 q v_size u.1 u.2.1 u.2.2.1 u.2.2.2.1 v_undos v_changed v_felt v_wents v_wish v_trace, rA (q 1) cI 200 v_text, rA (q 7) cI 64 u.2.2.2.2]) [oX7 q v_size v_at v_begin v_token v_told v_undos v_changed v_felt v_wents v_wish v_trace, rA (q 1) cI 200 v_text, rA (q 7) cI 64 v_read] sz) 0 0 (va_A [oX7 q v_size v_at v_begin v_token v_told v_undos v_changed v_felt v_wents v_wish v_trace, rA (q 1) cI 200 v_text, rA (q 7) cI 64 v_read] sz) := by
  refine vx_meth_z (by decide) rfl (Nat.le_of_ble_eq_true rfl) ?_
  intro p e s m args below meth c A Q hx hb hml hown hts hK hP hD hA hS hret ls hl
  have hown : s.vm.findClass RX7 = some m.cls := hown
  have hl : lv_has ls 3 [(0, .ref (q 0)), (1, .int x1), (2, .int x2)] := hl
  have hFx : CallFix p m c cX7_bits 3 s args wsX7_bits RX7 := ⟨hx, hb, hml, hown, hts⟩
  have lk13 := hts (.fieldLink RX7 13 "FogGuidesModel" "read" "[I") (by decide +kernel)
  have iw7 : ∀ w ∈ u_ws RX7 TX7 34, w ∈ wsX7_bits := by decide +kernel
  have lk106 := hts (.fieldLink RX7 106 "FogGuidesModel" "told" "I") (by decide +kernel)
  have h := hf
  unfold f_X7_bits at h
  obtain ⟨H, eH⟩ : ∃ H, H = s.heap := ⟨_, rfl⟩
  rw [← eH] at hP ⊢
  obtain ⟨locs, el⟩ : ∃ locs : List Loc, locs = [] := ⟨_, rfl⟩
  rw [← el] at hS ⊢
  have hS : va_S A s.heap H locs := by rw [eH]; exact hS
  refine lv_aload_n hx hb dX7_bits_0 rfl (lv_at hl 0 rfl) ?_
  refine lv_iconst (v := 0) hx hb dX7_bits_1 (by decide) ?_
  refine lv_bipush (v := 31) hx hb dX7_bits_2 (by decide) ?_
  obtain ⟨r1, hr1, h⟩ := xk_some h
  refine vx_VI (As := [.int (0 : Int32), .int (31 : Int32)]) (rest := []) (wr := [rA (q 7) cI 64 v_read]) (wn := [oX7 q v_size r1.2.1 r1.2.2.1 r1.2.2.2.1 r1.2.2.2.2 v_undos v_changed v_felt v_wents v_wish v_trace, rA (q 1) cI 200 v_text, rA (q 7) cI 64 v_read]) hFx (k_X7_number l D cI cZ cT q H.size v_size v_at v_begin v_token v_told v_undos v_changed v_felt v_wents v_wish v_trace v_text (0 : Int32) (31 : Int32) r1 fu hr1) (cwV 2 hts gX7_bits_X7_number rfl rfl rfl (by decide +kernel) ⟨Nat.le_of_ble_eq_true rfl, Nat.le_of_ble_eq_true rfl⟩) hK hP hD hS hA [0, 1] [2] [1, 2, 0] rfl rfl rfl rfl (by decide) rfl rfl 7 0 rfl rfl rfl hl.1 rfl (Nat.le_of_ble_eq_true rfl) dX7_bits_4 ⟨Nat.zero_le _, Nat.zero_le _⟩ (fun H locs hP hD hS => ?_)
  refine lv_if_ne (tgt := 12) hx hb dX7_bits_7 (by decide) (fun c2 => ?_) (fun c2 => ?_)
  · have h := (if_neg c2).symm.trans h
    refine lv_aload_n hx hb dX7_bits_12 rfl (lv_at hl 0 rfl) ?_
    refine va_get (C := RX7) (T := TX7) (N := 34) (v := .ref (q 7)) hx hb hts iw7 hown hK hP 0 rfl rfl 6 (Nat.le_of_ble_eq_true rfl) lk13 (fun _ h9 => h9) rfl dX7_bits_13 ?_
    refine lv_iload_n hx hb dX7_bits_16 rfl (lv_at hl 1 rfl) ?_
    refine lv_aload_n hx hb dX7_bits_17 rfl (lv_at hl 0 rfl) ?_
    refine va_get (C := RX7) (T := TX7) (N := 34) (v := .int r1.2.2.2.2) hx hb hts iw7 hown hK hP 0 rfl rfl 5 (Nat.le_of_ble_eq_true rfl) lk106 (fun _ h9 => h9) rfl dX7_bits_18 ?_
    obtain ⟨hi3, h⟩ := xb_some h
    refine va_iast hx hb hK hP hD hS 2 0 rfl rfl hi3 dX7_bits_21 (fun H locs hP hD hS => ?_)
    have hP : va_P D vwCl [oX7 q v_size r1.2.1 r1.2.2.1 r1.2.2.2.1 r1.2.2.2.2 v_undos v_changed v_felt v_wents v_wish v_trace, rA (q 1) cI 200 v_text, rA (q 7) cI 64 (upd v_read x1.toNatClampNeg r1.2.2.2.2)] H := hP
    have hD : va_D A [oX7 q v_size r1.2.1 r1.2.2.1 r1.2.2.2.1 r1.2.2.2.2 v_undos v_changed v_felt v_wents v_wish v_trace, rA (q 1) cI 200 v_text, rA (q 7) cI 64 (upd v_read x1.toNatClampNeg r1.2.2.2.2)] := hD
    refine lv_aload_n hx hb dX7_bits_22 rfl (lv_at hl 0 rfl) ?_
    refine lv_iconst (v := 0) hx hb dX7_bits_23 (by decide) ?_
    refine lv_iload_n hx hb dX7_bits_24 rfl (lv_at hl 2 rfl) ?_
    obtain ⟨r4, hr4, h⟩ := xk_some h
    refine vx_VI (As := [.int (0 : Int32), .int x2]) (rest := []) (wr := [rA (q 7) cI 64 (upd v_read x1.toNatClampNeg r1.2.2.2.2)]) (wn := [oX7 q v_size r4.2.1 r4.2.2.1 r4.2.2.2.1 r4.2.2.2.2 v_undos v_changed v_felt v_wents v_wish v_trace, rA (q 1) cI 200 v_text, rA (q 7) cI 64 (upd v_read x1.toNatClampNeg r1.2.2.2.2)]) hFx (k_X7_number l D cI cZ cT q H.size v_size r1.2.1 r1.2.2.1 r1.2.2.2.1 r1.2.2.2.2 v_undos v_changed v_felt v_wents v_wish v_trace v_text (0 : Int32) x2 r4 fu hr4) (cwV 2 hts gX7_bits_X7_number rfl rfl rfl (by decide +kernel) ⟨Nat.le_of_ble_eq_true rfl, Nat.le_of_ble_eq_true rfl⟩) hK hP hD hS hA [0, 1] [2] [1, 2, 0] rfl rfl rfl rfl (by decide) rfl rfl 7 0 rfl rfl rfl hl.1 rfl (Nat.le_of_ble_eq_true rfl) dX7_bits_25 ⟨Nat.zero_le _, Nat.zero_le _⟩ (fun H locs hP hD hS => ?_)
    refine lv_if_ne (tgt := 33) hx hb dX7_bits_28 (by decide) (fun c5 => ?_) (fun c5 => ?_)
    · have h := (if_neg c5).symm.trans h
      refine lv_aload_n hx hb dX7_bits_33 rfl (lv_at hl 0 rfl) ?_
      refine va_get (C := RX7) (T := TX7) (N := 34) (v := .ref (q 7)) hx hb hts iw7 hown hK hP 0 rfl rfl 6 (Nat.le_of_ble_eq_true rfl) lk13 (fun _ h9 => h9) rfl dX7_bits_34 ?_
      refine lv_iload_n hx hb dX7_bits_37 rfl (lv_at hl 1 rfl) ?_
      refine lv_dup2_11 hx hb dX7_bits_38 rfl rfl ?_
      obtain ⟨hi6, h⟩ := xb_some h
      refine va_iald hx hb hK hP 2 0 rfl rfl hi6 dX7_bits_39 ?_
      refine lv_bipush (v := 32) hx hb dX7_bits_40 (by decide) ?_
      refine lv_aload_n hx hb dX7_bits_42 rfl (lv_at hl 0 rfl) ?_
      refine va_get (C := RX7) (T := TX7) (N := 34) (v := .int r4.2.2.2.2) hx hb hts iw7 hown hK hP 0 rfl rfl 5 (Nat.le_of_ble_eq_true rfl) lk106 (fun _ h9 => h9) rfl dX7_bits_43 ?_
      refine lv_imul hx hb dX7_bits_46 ?_
      refine lv_iadd hx hb dX7_bits_47 ?_
      obtain ⟨hi7, h⟩ := xb_some h
      refine va_iast hx hb hK hP hD hS 2 0 rfl rfl hi7 dX7_bits_48 (fun H locs hP hD hS => ?_)
      have hP : va_P D vwCl [oX7 q v_size r4.2.1 r4.2.2.1 r4.2.2.2.1 r4.2.2.2.2 v_undos v_changed v_felt v_wents v_wish v_trace, rA (q 1) cI 200 v_text, rA (q 7) cI 64 (upd (upd v_read x1.toNatClampNeg r1.2.2.2.2) x1.toNatClampNeg (((upd v_read x1.toNatClampNeg r1.2.2.2.2) x1.toNatClampNeg) + ((32 : Int32) * r4.2.2.2.2)))] H := hP
      have hD : va_D A [oX7 q v_size r4.2.1 r4.2.2.1 r4.2.2.2.1 r4.2.2.2.2 v_undos v_changed v_felt v_wents v_wish v_trace, rA (q 1) cI 200 v_text, rA (q 7) cI 64 (upd (upd v_read x1.toNatClampNeg r1.2.2.2.2) x1.toNatClampNeg (((upd v_read x1.toNatClampNeg r1.2.2.2.2) x1.toNatClampNeg) + ((32 : Int32) * r4.2.2.2.2)))] := hD
      refine lv_iconst (v := 1) hx hb dX7_bits_49 (by decide) ?_
      exact hret (1 : Int32) ((r4.2.1, r4.2.2.1, r4.2.2.2.1, r4.2.2.2.2, upd (upd v_read x1.toNatClampNeg r1.2.2.2.2) x1.toNatClampNeg (((upd v_read x1.toNatClampNeg r1.2.2.2.2) x1.toNatClampNeg) + ((32 : Int32) * r4.2.2.2.2)))) H locs _ ls (Or.inr rfl) (Option.some.inj h) hP hD hS dX7_bits_50
    · have h := (if_pos c5).symm.trans h
      refine lv_iconst (v := 0) hx hb dX7_bits_31 (by decide) ?_
      exact hret (0 : Int32) (r4.2.1, r4.2.2.1, r4.2.2.2.1, r4.2.2.2.2, upd v_read x1.toNatClampNeg r1.2.2.2.2) H locs _ ls (Or.inl rfl) (Option.some.inj h) hP hD hS dX7_bits_32
  · have h := (if_pos c2).symm.trans h
    refine lv_iconst (v := 0) hx hb dX7_bits_10 (by decide) ?_
    exact hret (0 : Int32) (r1.2.1, r1.2.2.1, r1.2.2.2.1, r1.2.2.2.2, v_read) H locs _ ls (Or.inl rfl) (Option.some.inj h) hP hD hS dX7_bits_11
