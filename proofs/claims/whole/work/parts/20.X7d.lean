abbrev rm_X7_waits : Room := { frames := 1, cells := 0, slots := 0, locals := 25 }
set_option maxHeartbeats 4000000 in
set_option maxRecDepth 100000 in
theorem k_X7_waits (l : Launch) (D : va_G) (cI cZ cT : ClassId) (q : Nat → Nat) (sz : Nat) (v_size : Int32) (v_at : Int32) (v_begin : Int32) (v_token : Int32) (v_told : Int32) (v_undos : Int32) (v_changed : Int32) (v_felt : Int32) (v_wents : Int32) (v_wish : Int32) (v_trace : Int64) (v_now : Nat → Int32) (v_undone : Nat → Int32) (x1 : Int32) (res : R_X7_waits) (fu : Nat) (hf : f_X7_waits fu v_now v_undone v_undos x1 = some res) : Met l yX7_waits wsX7_waits rm_X7_waits (cPre D (tyz cI cZ cT) [.ref (q 0), .int x1] sz [oX7 q v_size v_at v_begin v_token v_told v_undos v_changed v_felt v_wents v_wish v_trace, rA (q 9) cI 4 v_now, rA (q 10) cI 40 v_undone]) (cPi D (tyz cI cZ cT) (fun (r : Int32) (u : (Nat → Int32) × (Nat → Int32) × Int32) => (r, u) = res) (fun u => [oX7 q v_size v_at v_begin v_token v_told u.2.2 v_changed v_felt v_wents v_wish v_trace, rA (q 9) cI 4 u.1, rA (q 10) cI 40 u.2.1]) [oX7 q v_size v_at v_begin v_token v_told v_undos v_changed v_felt v_wents v_wish v_trace, rA (q 9) cI 4 v_now, rA (q 10) cI 40 v_undone] sz) 0 0 (va_A [oX7 q v_size v_at v_begin v_token v_told v_undos v_changed v_felt v_wents v_wish v_trace, rA (q 9) cI 4 v_now, rA (q 10) cI 40 v_undone] sz) := by
  refine vx_meth_i (by decide) rfl (Nat.le_of_ble_eq_true rfl) ?_
  intro p e s m args below meth c A Q hx hb hml hown hts hK hP hD hA hS hret ls hl
  have hown : s.vm.findClass RX7 = some m.cls := hown
  have hl : lv_has ls 2 [(0, .ref (q 0)), (1, .int x1)] := hl
  have hFx : CallFix p m c cX7_waits 2 s args wsX7_waits RX7 := ⟨hx, hb, hml, hown, hts⟩
  have lk19 := hts (.fieldLink RX7 19 "FogGuidesModel" "now" "[I") (by decide +kernel)
  have iw7 : ∀ w ∈ u_ws RX7 TX7 34, w ∈ wsX7_waits := by decide +kernel
  have h := hf
  unfold f_X7_waits at h
  obtain ⟨H, eH⟩ : ∃ H, H = s.heap := ⟨_, rfl⟩
  rw [← eH] at hP ⊢
  obtain ⟨locs, el⟩ : ∃ locs : List Loc, locs = [] := ⟨_, rfl⟩
  rw [← el] at hS ⊢
  have hS : va_S A s.heap H locs := by rw [eH]; exact hS
  refine lv_iload_n hx hb dX7_waits_0 rfl (lv_at hl 1 rfl) ?_
  refine lv_i2l hx hb dX7_waits_1 rfl ?_
  refine lv_lconst (v := 1) hx hb dX7_waits_2 (by decide) ?_
  refine lv_ldc2 (v := (99)) hx hb hown (hts (.constantLong RX7 226 (99)) (by decide +kernel)) dX7_waits_3 ?_
  obtain ⟨r1, hr1, h⟩ := xk_some h
  refine vx_SJ (As := [.long x1.toInt64, .long (1 : Int64), .long (99 : Int64)]) (rest := []) hFx (k_X7_in l D cI cZ cT H.size x1.toInt64 (1 : Int64) (99 : Int64) r1 hr1) (vx_cwS 3 hts gX7_waits_X7_in rfl rfl rfl (by decide +kernel) ⟨Nat.le_of_ble_eq_true rfl, Nat.le_of_ble_eq_true rfl⟩) hK hP hD hS hA rfl hl.1 rfl (Nat.le_of_ble_eq_true rfl) dX7_waits_6 ⟨Nat.zero_le _, Nat.zero_le _⟩ (fun H locs hP hS => ?_)
  refine lv_if_ne (tgt := 14) hx hb dX7_waits_9 (by decide) (fun c2 => ?_) (fun c2 => ?_)
  · have h := (if_neg c2).symm.trans h
    refine lv_aload_n hx hb dX7_waits_14 rfl (lv_at hl 0 rfl) ?_
    refine va_get (C := RX7) (T := TX7) (N := 34) (v := .ref (q 9)) hx hb hts iw7 hown hK hP 0 rfl rfl 8 (Nat.le_of_ble_eq_true rfl) lk19 (fun _ h9 => h9) rfl dX7_waits_15 ?_
    refine lv_iconst (v := 1) hx hb dX7_waits_18 (by decide) ?_
    obtain ⟨hi3, h⟩ := xb_some h
    refine va_iald hx hb hK hP 1 0 rfl rfl hi3 dX7_waits_19 ?_
    refine lv_iload_n hx hb dX7_waits_20 rfl (lv_at hl 1 rfl) ?_
    refine lv_iadd hx hb dX7_waits_21 ?_
    refine lv_sipush (v := 9999) hx hb dX7_waits_22 (by decide) ?_
    refine lv_icmp_le (tgt := 31) hx hb dX7_waits_25 (by decide) (fun c4 => ?_) (fun c4 => ?_)
    · have h := (if_pos c4).symm.trans h
      refine lv_aload_n hx hb dX7_waits_31 rfl (lv_at hl 0 rfl) ?_
      obtain ⟨r5, hr5, h⟩ := xk_some h
      refine vx_VV (As := []) (rest := []) (wr := []) (wn := [oX7 q v_size v_at v_begin v_token v_told r5.2 v_changed v_felt v_wents v_wish v_trace, rA (q 9) cI 4 v_now, rA (q 10) cI 40 r5.1]) hFx (k_X7_notes l D cI cZ cT q H.size v_size v_at v_begin v_token v_told v_undos v_changed v_felt v_wents v_wish v_trace v_now v_undone r5 fu hr5) (cwV 0 hts gX7_waits_X7_notes rfl rfl rfl (by decide +kernel) ⟨Nat.le_of_ble_eq_true rfl, Nat.le_of_ble_eq_true rfl⟩) hK hP hD hS hA [0, 1, 2] [] [0, 1, 2] rfl rfl rfl rfl (by decide) rfl rfl 7 0 rfl rfl rfl hl.1 rfl (Nat.le_of_ble_eq_true rfl) dX7_waits_32 ⟨Nat.zero_le _, Nat.zero_le _⟩ (fun H locs hP hD hS => ?_)
      refine lv_aload_n hx hb dX7_waits_35 rfl (lv_at hl 0 rfl) ?_
      refine va_get (C := RX7) (T := TX7) (N := 34) (v := .ref (q 9)) hx hb hts iw7 hown hK hP 0 rfl rfl 8 (Nat.le_of_ble_eq_true rfl) lk19 (fun _ h9 => h9) rfl dX7_waits_36 ?_
      refine lv_iconst (v := 1) hx hb dX7_waits_39 (by decide) ?_
      refine lv_dup2_11 hx hb dX7_waits_40 rfl rfl ?_
      obtain ⟨hi6, h⟩ := xb_some h
      refine va_iald hx hb hK hP 1 0 rfl rfl hi6 dX7_waits_41 ?_
      refine lv_iload_n hx hb dX7_waits_42 rfl (lv_at hl 1 rfl) ?_
      refine lv_iadd hx hb dX7_waits_43 ?_
      obtain ⟨hi7, h⟩ := xb_some h
      refine va_iast hx hb hK hP hD hS 1 0 rfl rfl hi7 dX7_waits_44 (fun H locs hP hD hS => ?_)
      have hP : va_P D vwCl [oX7 q v_size v_at v_begin v_token v_told r5.2 v_changed v_felt v_wents v_wish v_trace, rA (q 9) cI 4 (upd v_now (1 : Int32).toNatClampNeg ((v_now (1 : Int32).toNatClampNeg) + x1)), rA (q 10) cI 40 r5.1] H := hP
      have hD : va_D A [oX7 q v_size v_at v_begin v_token v_told r5.2 v_changed v_felt v_wents v_wish v_trace, rA (q 9) cI 4 (upd v_now (1 : Int32).toNatClampNeg ((v_now (1 : Int32).toNatClampNeg) + x1)), rA (q 10) cI 40 r5.1] := hD
      refine lv_aload_n hx hb dX7_waits_45 rfl (lv_at hl 0 rfl) ?_
      refine va_get (C := RX7) (T := TX7) (N := 34) (v := .ref (q 9)) hx hb hts iw7 hown hK hP 0 rfl rfl 8 (Nat.le_of_ble_eq_true rfl) lk19 (fun _ h9 => h9) rfl dX7_waits_46 ?_
      refine lv_iconst (v := 1) hx hb dX7_waits_49 (by decide) ?_
      obtain ⟨hi8, h⟩ := xb_some h
      refine va_iald hx hb hK hP 1 0 rfl rfl hi8 dX7_waits_50 ?_
      exact hret ((upd v_now (1 : Int32).toNatClampNeg ((v_now (1 : Int32).toNatClampNeg) + x1)) (1 : Int32).toNatClampNeg) ((upd v_now (1 : Int32).toNatClampNeg ((v_now (1 : Int32).toNatClampNeg) + x1), r5.1, r5.2)) H locs _ ls (Option.some.inj h) hP hD hS dX7_waits_51
    · have h := (if_neg c4).symm.trans h
      refine lv_bipush (v := (-2)) hx hb dX7_waits_28 (by decide) ?_
      exact hret (-2 : Int32) (v_now, v_undone, v_undos) H locs _ ls (Option.some.inj h) hP hD hS dX7_waits_30
  · have h := (if_pos c2).symm.trans h
    refine lv_iconst (v := (-1)) hx hb dX7_waits_12 (by decide) ?_
    exact hret (-1 : Int32) (v_now, v_undone, v_undos) H locs _ ls (Option.some.inj h) hP hD hS dX7_waits_13
abbrev rm_X7_undo : Room := { frames := 0, cells := 0, slots := 0, locals := 0 }
set_option maxHeartbeats 4000000 in
set_option maxRecDepth 100000 in
theorem k_X7_undo (l : Launch) (D : va_G) (cI cZ cT : ClassId) (q : Nat → Nat) (sz : Nat) (v_size : Int32) (v_at : Int32) (v_begin : Int32) (v_token : Int32) (v_told : Int32) (v_undos : Int32) (v_changed : Int32) (v_felt : Int32) (v_wents : Int32) (v_wish : Int32) (v_trace : Int64) (v_now : Nat → Int32) (v_undone : Nat → Int32) (res : R_X7_undo) (fu : Nat) (hf : f_X7_undo fu v_now v_undone v_undos = some res) : Met l yX7_undo wsX7_undo rm_X7_undo (cPre D (tyz cI cZ cT) [.ref (q 0)] sz [oX7 q v_size v_at v_begin v_token v_told v_undos v_changed v_felt v_wents v_wish v_trace, rA (q 9) cI 4 v_now, rA (q 10) cI 40 v_undone]) (cPi D (tyz cI cZ cT) (fun (r : Int32) (u : (Nat → Int32) × Int32) => (r, u) = res) (fun u => [oX7 q v_size v_at v_begin v_token v_told u.2 v_changed v_felt v_wents v_wish v_trace, rA (q 9) cI 4 u.1, rA (q 10) cI 40 v_undone]) [oX7 q v_size v_at v_begin v_token v_told v_undos v_changed v_felt v_wents v_wish v_trace, rA (q 9) cI 4 v_now, rA (q 10) cI 40 v_undone] sz) 0 0 (va_A [oX7 q v_size v_at v_begin v_token v_told v_undos v_changed v_felt v_wents v_wish v_trace, rA (q 9) cI 4 v_now, rA (q 10) cI 40 v_undone] sz) := by
  refine vx_meth_i (by decide) rfl (Nat.le_of_ble_eq_true rfl) ?_
  intro p e s m args below meth c A Q hx hb hml hown hts hK hP hD hA hS hret ls hl
  have hown : s.vm.findClass RX7 = some m.cls := hown
  have hl : lv_has ls 2 [(0, .ref (q 0))] := hl
  have hFx : CallFix p m c cX7_undo 2 s args wsX7_undo RX7 := ⟨hx, hb, hml, hown, hts⟩
  have lk166 := hts (.fieldLink RX7 166 "FogGuidesModel" "undos" "I") (by decide +kernel)
  have iw7 : ∀ w ∈ u_ws RX7 TX7 34, w ∈ wsX7_undo := by decide +kernel
  have lk19 := hts (.fieldLink RX7 19 "FogGuidesModel" "now" "[I") (by decide +kernel)
  have lk22 := hts (.fieldLink RX7 22 "FogGuidesModel" "undone" "[I") (by decide +kernel)
  have hL22 : ∀ (n22 : Nat), ∀ (v_now : (Nat → Int32)) (v_undos : Int32) (x1 : Int32) (H : Heap) (locs : List Loc) (ls : Array Slot), f_X7_undo_L22 fu n22 v_now v_undone v_undos x1 = some res → va_P D vwCl [oX7 q v_size v_at v_begin v_token v_told v_undos v_changed v_felt v_wents v_wish v_trace, rA (q 9) cI 4 v_now, rA (q 10) cI 40 v_undone] H → va_D A [oX7 q v_size v_at v_begin v_token v_told v_undos v_changed v_felt v_wents v_wish v_trace, rA (q 9) cI 4 v_now, rA (q 10) cI 40 v_undone] → va_S A s.heap H locs → lv_has ls 2 [(0, .ref (q 0)), (1, .int x1)] → W p l e rm_X7_undo s m args below meth c H locs 0 0 Q (F0 m 22 ls []) := by
    intro n22
    induction n22 with
    | zero =>
      intro v_now v_undos x1 H locs ls h hP hD hS hl
      cases (show (none : Option R_X7_undo) = some res from h)
    | succ n22 ih22 =>
      intro v_now v_undos x1 H locs ls h hP hD hS hl
      have h : f_X7_undo_L22b fu (f_X7_undo_L22 fu n22) v_now v_undone v_undos x1 = some res := h
      unfold f_X7_undo_L22b at h
      refine lv_iload_n hx hb dX7_undo_22 rfl (lv_at hl 1 rfl) ?_
      refine lv_iconst (v := 4) hx hb dX7_undo_23 (by decide) ?_
      refine lv_icmp_ge (tgt := 52) hx hb dX7_undo_24 (by decide) (fun c1 => ?_) (fun c1 => ?_)
      · have h := (if_pos c1).symm.trans h
        refine lv_aload_n hx hb dX7_undo_52 rfl (lv_at hl 0 rfl) ?_
        refine va_get (C := RX7) (T := TX7) (N := 34) (v := .int v_undos) hx hb hts iw7 hown hK hP 0 rfl rfl 10 (Nat.le_of_ble_eq_true rfl) lk166 (fun _ h9 => h9) rfl dX7_undo_53 ?_
        exact hret v_undos (v_now, v_undos) H locs _ ls (Option.some.inj h) hP hD hS dX7_undo_56
      · have h := (if_neg c1).symm.trans h
        refine lv_aload_n hx hb dX7_undo_27 rfl (lv_at hl 0 rfl) ?_
        refine va_get (C := RX7) (T := TX7) (N := 34) (v := .ref (q 9)) hx hb hts iw7 hown hK hP 0 rfl rfl 8 (Nat.le_of_ble_eq_true rfl) lk19 (fun _ h9 => h9) rfl dX7_undo_28 ?_
        refine lv_iload_n hx hb dX7_undo_31 rfl (lv_at hl 1 rfl) ?_
        refine lv_aload_n hx hb dX7_undo_32 rfl (lv_at hl 0 rfl) ?_
        refine va_get (C := RX7) (T := TX7) (N := 34) (v := .ref (q 10)) hx hb hts iw7 hown hK hP 0 rfl rfl 9 (Nat.le_of_ble_eq_true rfl) lk22 (fun _ h9 => h9) rfl dX7_undo_33 ?_
        refine lv_iconst (v := 4) hx hb dX7_undo_36 (by decide) ?_
        refine lv_aload_n hx hb dX7_undo_37 rfl (lv_at hl 0 rfl) ?_
        refine va_get (C := RX7) (T := TX7) (N := 34) (v := .int v_undos) hx hb hts iw7 hown hK hP 0 rfl rfl 10 (Nat.le_of_ble_eq_true rfl) lk166 (fun _ h9 => h9) rfl dX7_undo_38 ?_
        refine lv_imul hx hb dX7_undo_41 ?_
        refine lv_iload_n hx hb dX7_undo_42 rfl (lv_at hl 1 rfl) ?_
        refine lv_iadd hx hb dX7_undo_43 ?_
        obtain ⟨hi2, h⟩ := xb_some h
        refine va_iald hx hb hK hP 2 0 rfl rfl hi2 dX7_undo_44 ?_
        obtain ⟨hi3, h⟩ := xb_some h
        refine va_iast hx hb hK hP hD hS 1 0 rfl rfl hi3 dX7_undo_45 (fun H locs hP hD hS => ?_)
        have hP : va_P D vwCl [oX7 q v_size v_at v_begin v_token v_told v_undos v_changed v_felt v_wents v_wish v_trace, rA (q 9) cI 4 (upd v_now x1.toNatClampNeg (v_undone (((4 : Int32) * v_undos) + x1).toNatClampNeg)), rA (q 10) cI 40 v_undone] H := hP
        have hD : va_D A [oX7 q v_size v_at v_begin v_token v_told v_undos v_changed v_felt v_wents v_wish v_trace, rA (q 9) cI 4 (upd v_now x1.toNatClampNeg (v_undone (((4 : Int32) * v_undos) + x1).toNatClampNeg)), rA (q 10) cI 40 v_undone] := hD
        refine lv_iinc (v := x1 + 1) (lv' := [(1, .int (x1 + 1)), (0, .ref (q 0))]) hx hb dX7_undo_46 hl (k := 1) rfl rfl (by decide) rfl (fun ls hl => ?_)
        refine lv_goto (tgt := 22) hx hb dX7_undo_49 (by decide) ?_
        exact ih22 (upd v_now x1.toNatClampNeg (v_undone (((4 : Int32) * v_undos) + x1).toNatClampNeg)) v_undos (x1 + 1) H locs ls h hP hD hS (lv_sub hl [1, 0] rfl)
  have h := hf
  unfold f_X7_undo at h
  obtain ⟨H, eH⟩ : ∃ H, H = s.heap := ⟨_, rfl⟩
  rw [← eH] at hP ⊢
  obtain ⟨locs, el⟩ : ∃ locs : List Loc, locs = [] := ⟨_, rfl⟩
  rw [← el] at hS ⊢
  have hS : va_S A s.heap H locs := by rw [eH]; exact hS
  refine lv_aload_n hx hb dX7_undo_0 rfl (lv_at hl 0 rfl) ?_
  refine va_get (C := RX7) (T := TX7) (N := 34) (v := .int v_undos) hx hb hts iw7 hown hK hP 0 rfl rfl 10 (Nat.le_of_ble_eq_true rfl) lk166 (fun _ h9 => h9) rfl dX7_undo_1 ?_
  refine lv_if_ne (tgt := 10) hx hb dX7_undo_4 (by decide) (fun c4 => ?_) (fun c4 => ?_)
  · have h := (if_neg c4).symm.trans h
    refine lv_aload_n hx hb dX7_undo_10 rfl (lv_at hl 0 rfl) ?_
    refine lv_dup hx hb dX7_undo_11 rfl ?_
    refine va_get (C := RX7) (T := TX7) (N := 34) (v := .int v_undos) hx hb hts iw7 hown hK hP 0 rfl rfl 10 (Nat.le_of_ble_eq_true rfl) lk166 (fun _ h9 => h9) rfl dX7_undo_12 ?_
    refine lv_iconst (v := 1) hx hb dX7_undo_15 (by decide) ?_
    refine lv_isub hx hb dX7_undo_16 ?_
    refine va_put (C := RX7) (T := TX7) (N := 34) (v := .int (v_undos - (1 : Int32))) (ty := .int) hx hb hts iw7 tyX7 tyX7_ok nmX7 hown hK hP hD hS 0 rfl rfl 10 (Nat.le_of_ble_eq_true rfl) lk166 (fun _ h9 => h9) rfl (by decide +kernel) rfl rfl (Nat.le_of_ble_eq_true rfl) dX7_undo_17 (fun H locs hP hD hS => ?_)
    have hP : va_P D vwCl [oX7 q v_size v_at v_begin v_token v_told (v_undos - (1 : Int32)) v_changed v_felt v_wents v_wish v_trace, rA (q 9) cI 4 v_now, rA (q 10) cI 40 v_undone] H := hP
    have hD : va_D A [oX7 q v_size v_at v_begin v_token v_told (v_undos - (1 : Int32)) v_changed v_felt v_wents v_wish v_trace, rA (q 9) cI 4 v_now, rA (q 10) cI 40 v_undone] := hD
    refine lv_iconst (v := 0) hx hb dX7_undo_20 (by decide) ?_
    refine lv_istore_n (lv' := [(1, .int (0 : Int32)), (0, .ref (q 0))]) hx hb dX7_undo_21 rfl hl (by decide) rfl (fun ls hl => ?_)
    exact hL22 fu v_now (v_undos - (1 : Int32)) (0 : Int32) H locs ls h hP hD hS (lv_sub hl [1, 0] rfl)
  · have h := (if_pos c4).symm.trans h
    refine lv_bipush (v := (-2)) hx hb dX7_undo_7 (by decide) ?_
    exact hret (-2 : Int32) (v_now, v_undos) H locs _ ls (Option.some.inj h) hP hD hS dX7_undo_9
abbrev rm_X7_now : Room := { frames := 3, cells := 0, slots := 0, locals := 66 }
set_option maxHeartbeats 4000000 in
set_option maxRecDepth 100000 in
theorem k_X7_now (l : Launch) (D : va_G) (cI cZ cT : ClassId) (q : Nat → Nat) (sz : Nat) (v_size : Int32) (v_at : Int32) (v_begin : Int32) (v_token : Int32) (v_told : Int32) (v_undos : Int32) (v_changed : Int32) (v_felt : Int32) (v_wents : Int32) (v_wish : Int32) (v_trace : Int64) (v_town : Nat → Int32) (v_now : Nat → Int32) (x1 : Int32) (res : R_X7_now) (fu : Nat) (hf : f_X7_now fu v_town v_now x1 = some res) : Met l yX7_now wsX7_now rm_X7_now (cPre D (tyz cI cZ cT) [.ref (q 0), .int x1] sz [oX7 q v_size v_at v_begin v_token v_told v_undos v_changed v_felt v_wents v_wish v_trace, rA (q 8) cI 64 v_town, rA (q 9) cI 4 v_now]) (cPi D (tyz cI cZ cT) (fun (r : Int32) (_ : Unit) => r = res) (fun _ => [oX7 q v_size v_at v_begin v_token v_told v_undos v_changed v_felt v_wents v_wish v_trace, rA (q 8) cI 64 v_town, rA (q 9) cI 4 v_now]) [oX7 q v_size v_at v_begin v_token v_told v_undos v_changed v_felt v_wents v_wish v_trace, rA (q 8) cI 64 v_town, rA (q 9) cI 4 v_now] sz) 0 0 (va_A [oX7 q v_size v_at v_begin v_token v_told v_undos v_changed v_felt v_wents v_wish v_trace, rA (q 8) cI 64 v_town, rA (q 9) cI 4 v_now] sz) := by
  refine vx_meth_i (by decide) rfl (Nat.le_of_ble_eq_true rfl) ?_
  intro p e s m args below meth c A Q hx hb hml hown hts hK hP hD hA hS hret ls hl
  have hown : s.vm.findClass RX7 = some m.cls := hown
  have hl : lv_has ls 4 [(0, .ref (q 0)), (1, .int x1)] := hl
  have hFx : CallFix p m c cX7_now 4 s args wsX7_now RX7 := ⟨hx, hb, hml, hown, hts⟩
  have lk19 := hts (.fieldLink RX7 19 "FogGuidesModel" "now" "[I") (by decide +kernel)
  have iw7 : ∀ w ∈ u_ws RX7 TX7 34, w ∈ wsX7_now := by decide +kernel
  have lk16 := hts (.fieldLink RX7 16 "FogGuidesModel" "town" "[I") (by decide +kernel)
  have hJ92 : ∀ (x1 : Int32) (x2 : Int32) (H : Heap) (locs : List Loc) (ls : Array Slot), f_X7_now_J92 fu v_town v_now x1 x2 = some res → va_P D vwCl [oX7 q v_size v_at v_begin v_token v_told v_undos v_changed v_felt v_wents v_wish v_trace, rA (q 8) cI 64 v_town, rA (q 9) cI 4 v_now] H → va_D A [oX7 q v_size v_at v_begin v_token v_told v_undos v_changed v_felt v_wents v_wish v_trace, rA (q 8) cI 64 v_town, rA (q 9) cI 4 v_now] → va_S A s.heap H locs → lv_has ls 4 [(0, .ref (q 0)), (1, .int x1), (2, .int x2)] → W p l e rm_X7_now s m args below meth c H locs 0 0 Q (F0 m 92 ls []) := by
    intro x1 x2 H locs ls h hP hD hS hl
    unfold f_X7_now_J92 at h
    refine lv_iload_n hx hb dX7_now_92 rfl (lv_at hl 1 rfl) ?_
    refine lv_i2l hx hb dX7_now_93 rfl ?_
    refine lv_lconst (v := 0) hx hb dX7_now_94 (by decide) ?_
    refine lv_ldc2 (v := (3)) hx hb hown (hts (.constantLong RX7 184 (3)) (by decide +kernel)) dX7_now_95 ?_
    obtain ⟨r1, hr1, h⟩ := xk_some h
    refine vx_SJ (As := [.long x1.toInt64, .long (0 : Int64), .long (3 : Int64)]) (rest := []) hFx (k_X7_in l D cI cZ cT H.size x1.toInt64 (0 : Int64) (3 : Int64) r1 hr1) (vx_cwS 3 hts gX7_now_X7_in rfl rfl rfl (by decide +kernel) ⟨Nat.le_of_ble_eq_true rfl, Nat.le_of_ble_eq_true rfl⟩) hK hP hD hS hA rfl hl.1 rfl (Nat.le_of_ble_eq_true rfl) dX7_now_98 ⟨Nat.zero_le _, Nat.zero_le _⟩ (fun H locs hP hS => ?_)
    refine lv_if_eq (tgt := 113) hx hb dX7_now_101 (by decide) (fun c2 => ?_) (fun c2 => ?_)
    · have h := (if_pos c2).symm.trans h
      refine lv_iload_n hx hb dX7_now_113 rfl (lv_at hl 1 rfl) ?_
      refine lv_i2l hx hb dX7_now_114 rfl ?_
      refine lv_ldc2 (v := (4)) hx hb hown (hts (.constantLong RX7 228 (4)) (by decide +kernel)) dX7_now_115 ?_
      refine lv_ldc2 (v := (5)) hx hb hown (hts (.constantLong RX7 230 (5)) (by decide +kernel)) dX7_now_118 ?_
      obtain ⟨r3, hr3, h⟩ := xk_some h
      refine vx_SJ (As := [.long x1.toInt64, .long (4 : Int64), .long (5 : Int64)]) (rest := []) hFx (k_X7_in l D cI cZ cT H.size x1.toInt64 (4 : Int64) (5 : Int64) r3 hr3) (vx_cwS 3 hts gX7_now_X7_in rfl rfl rfl (by decide +kernel) ⟨Nat.le_of_ble_eq_true rfl, Nat.le_of_ble_eq_true rfl⟩) hK hP hD hS hA rfl hl.1 rfl (Nat.le_of_ble_eq_true rfl) dX7_now_121 ⟨Nat.zero_le _, Nat.zero_le _⟩ (fun H locs hP hS => ?_)
      refine lv_if_eq (tgt := 131) hx hb dX7_now_124 (by decide) (fun c4 => ?_) (fun c4 => ?_)
      · have h := (if_pos c4).symm.trans h
        refine lv_iconst (v := (-1)) hx hb dX7_now_131 (by decide) ?_
        exact hret (-1 : Int32) () H locs _ ls (Option.some.inj h) hP hD hS dX7_now_132
      · have h := (if_neg c4).symm.trans h
        refine lv_iload_n hx hb dX7_now_127 rfl (lv_at hl 2 rfl) ?_
        refine lv_goto (tgt := 132) hx hb dX7_now_128 (by decide) ?_
        exact hret x2 () H locs _ ls (Option.some.inj h) hP hD hS dX7_now_132
    · have h := (if_neg c2).symm.trans h
      refine lv_aload_n hx hb dX7_now_104 rfl (lv_at hl 0 rfl) ?_
      refine va_get (C := RX7) (T := TX7) (N := 34) (v := .ref (q 9)) hx hb hts iw7 hown hK hP 0 rfl rfl 8 (Nat.le_of_ble_eq_true rfl) lk19 (fun _ h9 => h9) rfl dX7_now_105 ?_
      refine lv_iload_n hx hb dX7_now_108 rfl (lv_at hl 1 rfl) ?_
      obtain ⟨hi5, h⟩ := xb_some h
      refine va_iald hx hb hK hP 2 0 rfl rfl hi5 dX7_now_109 ?_
      refine lv_goto (tgt := 132) hx hb dX7_now_110 (by decide) ?_
      exact hret (v_now x1.toNatClampNeg) () H locs _ ls (Option.some.inj h) hP hD hS dX7_now_132
  have hL53 : ∀ (n53 : Nat), ∀ (x1 : Int32) (x2 : Int32) (x3 : Int32) (H : Heap) (locs : List Loc) (ls : Array Slot), f_X7_now_L53 fu n53 v_town v_now x1 x2 x3 = some res → va_P D vwCl [oX7 q v_size v_at v_begin v_token v_told v_undos v_changed v_felt v_wents v_wish v_trace, rA (q 8) cI 64 v_town, rA (q 9) cI 4 v_now] H → va_D A [oX7 q v_size v_at v_begin v_token v_told v_undos v_changed v_felt v_wents v_wish v_trace, rA (q 8) cI 64 v_town, rA (q 9) cI 4 v_now] → va_S A s.heap H locs → lv_has ls 4 [(0, .ref (q 0)), (1, .int x1), (2, .int x2), (3, .int x3)] → W p l e rm_X7_now s m args below meth c H locs 0 0 Q (F0 m 53 ls []) := by
    intro n53
    induction n53 with
    | zero =>
      intro x1 x2 x3 H locs ls h hP hD hS hl
      cases (show (none : Option R_X7_now) = some res from h)
    | succ n53 ih53 =>
      intro x1 x2 x3 H locs ls h hP hD hS hl
      have h : f_X7_now_L53b fu (f_X7_now_L53 fu n53) v_town v_now x1 x2 x3 = some res := h
      unfold f_X7_now_L53b at h
      refine lv_iload_n hx hb dX7_now_53 rfl (lv_at hl 3 rfl) ?_
      refine lv_aload_n hx hb dX7_now_54 rfl (lv_at hl 0 rfl) ?_
      refine va_get (C := RX7) (T := TX7) (N := 34) (v := .ref (q 8)) hx hb hts iw7 hown hK hP 0 rfl rfl 7 (Nat.le_of_ble_eq_true rfl) lk16 (fun _ h9 => h9) rfl dX7_now_55 ?_
      refine lv_iconst (v := 2) hx hb dX7_now_58 (by decide) ?_
      obtain ⟨hi6, h⟩ := xb_some h
      refine va_iald hx hb hK hP 1 0 rfl rfl hi6 dX7_now_59 ?_
      refine lv_icmp_ge (tgt := 92) hx hb dX7_now_60 (by decide) (fun c7 => ?_) (fun c7 => ?_)
      · have h := (if_pos c7).symm.trans h
        exact hJ92 x1 x2 H locs ls h hP hD hS (lv_sub hl [0, 1, 2] rfl)
      · have h := (if_neg c7).symm.trans h
        refine lv_iload_n hx hb dX7_now_63 rfl (lv_at hl 1 rfl) ?_
        refine lv_iconst (v := 5) hx hb dX7_now_64 (by decide) ?_
        refine lv_icmp_ne (tgt := 92) hx hb dX7_now_65 (by decide) (fun c8 => ?_) (fun c8 => ?_)
        · have h := (if_neg c8).symm.trans h
          exact hJ92 x1 x2 H locs ls h hP hD hS (lv_sub hl [0, 1, 2] rfl)
        · have h := (if_pos c8).symm.trans h
          refine lv_iload_n hx hb dX7_now_68 rfl (lv_at hl 2 rfl) ?_
          refine lv_aload_n hx hb dX7_now_69 rfl (lv_at hl 0 rfl) ?_
          refine lv_iload_n hx hb dX7_now_70 rfl (lv_at hl 3 rfl) ?_
          obtain ⟨r9, hr9, h⟩ := xk_some h
          refine vx_VJ (As := [.int x3]) (rest := [.int x2]) hFx (k_X7_mayHire l D cI cZ cT q H.size v_size v_at v_begin v_token v_told v_undos v_changed v_felt v_wents v_wish v_trace v_town v_now x3 r9 hr9) (cwV 1 hts gX7_now_X7_mayHire rfl rfl rfl (by decide +kernel) ⟨Nat.le_of_ble_eq_true rfl, Nat.le_of_ble_eq_true rfl⟩) hK hP hD hS hA [0, 1, 2] rfl rfl 7 0 rfl rfl rfl hl.1 rfl (Nat.le_of_ble_eq_true rfl) dX7_now_71 ⟨Nat.zero_le _, Nat.zero_le _⟩ (fun H locs hP hS => ?_)
          refine lv_if_eq (tgt := 83) hx hb dX7_now_74 (by decide) (fun c10 => ?_) (fun c10 => ?_)
          · have h := (if_pos c10).symm.trans h
            refine lv_iconst (v := 0) hx hb dX7_now_83 (by decide) ?_
            refine lv_ior hx hb dX7_now_84 ?_
            refine lv_istore_n (lv' := [(2, .int (x2 ||| (0 : Int32))), (0, .ref (q 0)), (1, .int x1), (3, .int x3)]) hx hb dX7_now_85 rfl hl (by decide) rfl (fun ls hl => ?_)
            refine lv_iinc (v := x3 + 1) (lv' := [(3, .int (x3 + 1)), (2, .int (x2 ||| (0 : Int32))), (0, .ref (q 0)), (1, .int x1)]) hx hb dX7_now_86 hl (k := 3) rfl rfl (by decide) rfl (fun ls hl => ?_)
            refine lv_goto (tgt := 53) hx hb dX7_now_89 (by decide) ?_
            exact ih53 x1 (x2 ||| (0 : Int32)) (x3 + 1) H locs ls h hP hD hS (lv_sub hl [2, 3, 1, 0] rfl)
          · have h := (if_neg c10).symm.trans h
            refine lv_iconst (v := 1) hx hb dX7_now_77 (by decide) ?_
            refine lv_iload_n hx hb dX7_now_78 rfl (lv_at hl 3 rfl) ?_
            refine lv_ishl hx hb dX7_now_79 ?_
            refine lv_goto (tgt := 84) hx hb dX7_now_80 (by decide) ?_
            refine lv_ior hx hb dX7_now_84 ?_
            refine lv_istore_n (lv' := [(2, .int (x2 ||| ((1 : Int32) <<< (x3 &&& 31)))), (0, .ref (q 0)), (1, .int x1), (3, .int x3)]) hx hb dX7_now_85 rfl hl (by decide) rfl (fun ls hl => ?_)
            refine lv_iinc (v := x3 + 1) (lv' := [(3, .int (x3 + 1)), (2, .int (x2 ||| ((1 : Int32) <<< (x3 &&& 31)))), (0, .ref (q 0)), (1, .int x1)]) hx hb dX7_now_86 hl (k := 3) rfl rfl (by decide) rfl (fun ls hl => ?_)
            refine lv_goto (tgt := 53) hx hb dX7_now_89 (by decide) ?_
            exact ih53 x1 (x2 ||| ((1 : Int32) <<< (x3 &&& 31))) (x3 + 1) H locs ls h hP hD hS (lv_sub hl [2, 3, 1, 0] rfl)
  have hL4 : ∀ (n4 : Nat), ∀ (x1 : Int32) (x2 : Int32) (x3 : Int32) (H : Heap) (locs : List Loc) (ls : Array Slot), f_X7_now_L4 fu n4 v_town v_now x1 x2 x3 = some res → va_P D vwCl [oX7 q v_size v_at v_begin v_token v_told v_undos v_changed v_felt v_wents v_wish v_trace, rA (q 8) cI 64 v_town, rA (q 9) cI 4 v_now] H → va_D A [oX7 q v_size v_at v_begin v_token v_told v_undos v_changed v_felt v_wents v_wish v_trace, rA (q 8) cI 64 v_town, rA (q 9) cI 4 v_now] → va_S A s.heap H locs → lv_has ls 4 [(0, .ref (q 0)), (1, .int x1), (2, .int x2), (3, .int x3)] → W p l e rm_X7_now s m args below meth c H locs 0 0 Q (F0 m 4 ls []) := by
    intro n4
    induction n4 with
    | zero =>
      intro x1 x2 x3 H locs ls h hP hD hS hl
      cases (show (none : Option R_X7_now) = some res from h)
    | succ n4 ih4 =>
      have hJ36 : ∀ (x1 : Int32) (x3 : Int32) (z0 : Int32) (H : Heap) (locs : List Loc) (ls : Array Slot), f_X7_now_J36 fu (f_X7_now_L4 fu n4) v_town v_now x1 x3 z0 = some res → va_P D vwCl [oX7 q v_size v_at v_begin v_token v_told v_undos v_changed v_felt v_wents v_wish v_trace, rA (q 8) cI 64 v_town, rA (q 9) cI 4 v_now] H → va_D A [oX7 q v_size v_at v_begin v_token v_told v_undos v_changed v_felt v_wents v_wish v_trace, rA (q 8) cI 64 v_town, rA (q 9) cI 4 v_now] → va_S A s.heap H locs → lv_has ls 4 [(0, .ref (q 0)), (1, .int x1), (3, .int x3)] → W p l e rm_X7_now s m args below meth c H locs 0 0 Q (F0 m 36 ls [.int z0]) := by
        intro x1 x3 z0 H locs ls h hP hD hS hl
        unfold f_X7_now_J36 at h
        refine lv_iconst (v := 1) hx hb dX7_now_36 (by decide) ?_
        refine lv_iload_n hx hb dX7_now_37 rfl (lv_at hl 2 rfl) ?_
        refine lv_ishl hx hb dX7_now_38 ?_
        refine lv_goto (tgt := 43) hx hb dX7_now_39 (by decide) ?_
        refine lv_ior hx hb dX7_now_43 ?_
        refine lv_istore_n (lv' := [(2, .int (z0 ||| ((1 : Int32) <<< (x3 &&& 31)))), (0, .ref (q 0)), (1, .int x1), (3, .int x3)]) hx hb dX7_now_44 rfl hl (by decide) rfl (fun ls hl => ?_)
        refine lv_iinc (v := x3 + 1) (lv' := [(3, .int (x3 + 1)), (2, .int (z0 ||| ((1 : Int32) <<< (x3 &&& 31)))), (0, .ref (q 0)), (1, .int x1)]) hx hb dX7_now_45 hl (k := 3) rfl rfl (by decide) rfl (fun ls hl => ?_)
        refine lv_goto (tgt := 4) hx hb dX7_now_48 (by decide) ?_
        exact ih4 x1 (z0 ||| ((1 : Int32) <<< (x3 &&& 31))) (x3 + 1) H locs ls h hP hD hS (lv_sub hl [2, 3, 1, 0] rfl)
      intro x1 x2 x3 H locs ls h hP hD hS hl
      have h : f_X7_now_L4b fu (f_X7_now_L4 fu n4) v_town v_now x1 x2 x3 = some res := h
      unfold f_X7_now_L4b at h
      refine lv_iload_n hx hb dX7_now_4 rfl (lv_at hl 3 rfl) ?_
      refine lv_aload_n hx hb dX7_now_5 rfl (lv_at hl 0 rfl) ?_
      refine va_get (C := RX7) (T := TX7) (N := 34) (v := .ref (q 8)) hx hb hts iw7 hown hK hP 0 rfl rfl 7 (Nat.le_of_ble_eq_true rfl) lk16 (fun _ h9 => h9) rfl dX7_now_6 ?_
      refine lv_iconst (v := 1) hx hb dX7_now_9 (by decide) ?_
      obtain ⟨hi11, h⟩ := xb_some h
      refine va_iald hx hb hK hP 1 0 rfl rfl hi11 dX7_now_10 ?_
      refine lv_icmp_ge (tgt := 51) hx hb dX7_now_11 (by decide) (fun c12 => ?_) (fun c12 => ?_)
      · have h := (if_pos c12).symm.trans h
        refine lv_iconst (v := 0) hx hb dX7_now_51 (by decide) ?_
        refine lv_istore_n (lv' := [(3, .int (0 : Int32)), (0, .ref (q 0)), (1, .int x1), (2, .int x2)]) hx hb dX7_now_52 rfl hl (by decide) rfl (fun ls hl => ?_)
        exact hL53 fu x1 x2 (0 : Int32) H locs ls h hP hD hS (lv_sub hl [1, 2, 3, 0] rfl)
      · have h := (if_neg c12).symm.trans h
        refine lv_iload_n hx hb dX7_now_14 rfl (lv_at hl 1 rfl) ?_
        refine lv_iconst (v := 4) hx hb dX7_now_15 (by decide) ?_
        refine lv_icmp_ne (tgt := 51) hx hb dX7_now_16 (by decide) (fun c13 => ?_) (fun c13 => ?_)
        · have h := (if_neg c13).symm.trans h
          refine lv_iconst (v := 0) hx hb dX7_now_51 (by decide) ?_
          refine lv_istore_n (lv' := [(3, .int (0 : Int32)), (0, .ref (q 0)), (1, .int x1), (2, .int x2)]) hx hb dX7_now_52 rfl hl (by decide) rfl (fun ls hl => ?_)
          exact hL53 fu x1 x2 (0 : Int32) H locs ls h hP hD hS (lv_sub hl [1, 2, 3, 0] rfl)
        · have h := (if_pos c13).symm.trans h
          refine lv_iload_n hx hb dX7_now_19 rfl (lv_at hl 2 rfl) ?_
          refine lv_aload_n hx hb dX7_now_20 rfl (lv_at hl 0 rfl) ?_
          refine lv_iload_n hx hb dX7_now_21 rfl (lv_at hl 3 rfl) ?_
          obtain ⟨r14, hr14, h⟩ := xk_some h
          refine vx_VJ (As := [.int x3]) (rest := [.int x2]) hFx (k_X7_mayLead l D cI cZ cT q H.size v_size v_at v_begin v_token v_told v_undos v_changed v_felt v_wents v_wish v_trace v_town v_now x3 r14 hr14) (cwV 1 hts gX7_now_X7_mayLead rfl rfl rfl (by decide +kernel) ⟨Nat.le_of_ble_eq_true rfl, Nat.le_of_ble_eq_true rfl⟩) hK hP hD hS hA [0, 1, 2] rfl rfl 7 0 rfl rfl rfl hl.1 rfl (Nat.le_of_ble_eq_true rfl) dX7_now_22 ⟨Nat.zero_le _, Nat.zero_le _⟩ (fun H locs hP hS => ?_)
          refine lv_if_ne (tgt := 36) hx hb dX7_now_25 (by decide) (fun c15 => ?_) (fun c15 => ?_)
          · have h := (if_neg c15).symm.trans h
            exact hJ36 x1 x3 x2 H locs ls h hP hD hS (lv_sub hl [0, 1, 3] rfl)
          · have h := (if_pos c15).symm.trans h
            refine lv_aload_n hx hb dX7_now_28 rfl (lv_at hl 0 rfl) ?_
            refine lv_iload_n hx hb dX7_now_29 rfl (lv_at hl 3 rfl) ?_
            obtain ⟨r16, hr16, h⟩ := xk_some h
            refine vx_VJ (As := [.int x3]) (rest := [.int x2]) hFx (k_X7_mayGo l D cI cZ cT q H.size v_size v_at v_begin v_token v_told v_undos v_changed v_felt v_wents v_wish v_trace v_town v_now x3 r16 fu hr16) (cwV 1 hts gX7_now_X7_mayGo rfl rfl rfl (by decide +kernel) ⟨Nat.le_of_ble_eq_true rfl, Nat.le_of_ble_eq_true rfl⟩) hK hP hD hS hA [0, 1, 2] rfl rfl 7 0 rfl rfl rfl hl.1 rfl (Nat.le_of_ble_eq_true rfl) dX7_now_30 ⟨Nat.zero_le _, Nat.zero_le _⟩ (fun H locs hP hS => ?_)
            refine lv_if_eq (tgt := 42) hx hb dX7_now_33 (by decide) (fun c17 => ?_) (fun c17 => ?_)
            · have h := (if_pos c17).symm.trans h
              refine lv_iconst (v := 0) hx hb dX7_now_42 (by decide) ?_
              refine lv_ior hx hb dX7_now_43 ?_
              refine lv_istore_n (lv' := [(2, .int (x2 ||| (0 : Int32))), (0, .ref (q 0)), (1, .int x1), (3, .int x3)]) hx hb dX7_now_44 rfl hl (by decide) rfl (fun ls hl => ?_)
              refine lv_iinc (v := x3 + 1) (lv' := [(3, .int (x3 + 1)), (2, .int (x2 ||| (0 : Int32))), (0, .ref (q 0)), (1, .int x1)]) hx hb dX7_now_45 hl (k := 3) rfl rfl (by decide) rfl (fun ls hl => ?_)
              refine lv_goto (tgt := 4) hx hb dX7_now_48 (by decide) ?_
              exact ih4 x1 (x2 ||| (0 : Int32)) (x3 + 1) H locs ls h hP hD hS (lv_sub hl [2, 3, 1, 0] rfl)
            · have h := (if_neg c17).symm.trans h
              exact hJ36 x1 x3 x2 H locs ls h hP hD hS (lv_sub hl [0, 1, 3] rfl)
  have h := hf
  unfold f_X7_now at h
  obtain ⟨H, eH⟩ : ∃ H, H = s.heap := ⟨_, rfl⟩
  rw [← eH] at hP ⊢
  obtain ⟨locs, el⟩ : ∃ locs : List Loc, locs = [] := ⟨_, rfl⟩
  rw [← el] at hS ⊢
  have hS : va_S A s.heap H locs := by rw [eH]; exact hS
  refine lv_iconst (v := 0) hx hb dX7_now_0 (by decide) ?_
  refine lv_istore_n (lv' := [(2, .int (0 : Int32)), (0, .ref (q 0)), (1, .int x1)]) hx hb dX7_now_1 rfl hl (by decide) rfl (fun ls hl => ?_)
  refine lv_iconst (v := 0) hx hb dX7_now_2 (by decide) ?_
  refine lv_istore_n (lv' := [(3, .int (0 : Int32)), (2, .int (0 : Int32)), (0, .ref (q 0)), (1, .int x1)]) hx hb dX7_now_3 rfl hl (by decide) rfl (fun ls hl => ?_)
  exact hL4 fu x1 (0 : Int32) (0 : Int32) H locs ls h hP hD hS (lv_sub hl [2, 3, 1, 0] rfl)
abbrev rm_X7_isLess : Room := { frames := 0, cells := 0, slots := 0, locals := 0 }
set_option maxHeartbeats 4000000 in
set_option maxRecDepth 100000 in
theorem k_X7_isLess (l : Launch) (D : va_G) (cI cZ cT : ClassId) (q : Nat → Nat) (sz : Nat) (v_size : Int32) (v_at : Int32) (v_begin : Int32) (v_token : Int32) (v_told : Int32) (v_undos : Int32) (v_changed : Int32) (v_felt : Int32) (v_wents : Int32) (v_wish : Int32) (v_trace : Int64) (v_firsts : Nat → Int32) (v_thens : Nat → Int32) (v_begins : Nat → Int32) (x1 : Int32) (x2 : Int32) (x3 : Int32) (x4 : Int32) (res : R_X7_isLess) (hf : f_X7_isLess v_firsts v_thens v_begins x1 x2 x3 x4 = some res) : Met l yX7_isLess wsX7_isLess rm_X7_isLess (cPre D (tyz cI cZ cT) [.ref (q 0), .int x1, .int x2, .int x3, .int x4] sz [oX7 q v_size v_at v_begin v_token v_told v_undos v_changed v_felt v_wents v_wish v_trace, rA (q 12) cI 28 v_firsts, rA (q 13) cI 28 v_thens, rA (q 14) cI 28 v_begins]) (cPi D (tyz cI cZ cT) (fun (r : Int32) (_ : Unit) => r = res) (fun _ => [oX7 q v_size v_at v_begin v_token v_told v_undos v_changed v_felt v_wents v_wish v_trace, rA (q 12) cI 28 v_firsts, rA (q 13) cI 28 v_thens, rA (q 14) cI 28 v_begins]) [oX7 q v_size v_at v_begin v_token v_told v_undos v_changed v_felt v_wents v_wish v_trace, rA (q 12) cI 28 v_firsts, rA (q 13) cI 28 v_thens, rA (q 14) cI 28 v_begins] sz) 0 0 (va_A [oX7 q v_size v_at v_begin v_token v_told v_undos v_changed v_felt v_wents v_wish v_trace, rA (q 12) cI 28 v_firsts, rA (q 13) cI 28 v_thens, rA (q 14) cI 28 v_begins] sz) := by
  refine vx_meth_z (by decide) rfl (Nat.le_of_ble_eq_true rfl) ?_
  intro p e s m args below meth c A Q hx hb hml hown hts hK hP hD hA hS hret ls hl
  have hown : s.vm.findClass RX7 = some m.cls := hown
  have hl : lv_has ls 5 [(0, .ref (q 0)), (1, .int x1), (2, .int x2), (3, .int x3), (4, .int x4)] := hl
  have hFx : CallFix p m c cX7_isLess 5 s args wsX7_isLess RX7 := ⟨hx, hb, hml, hown, hts⟩
  have lk25 := hts (.fieldLink RX7 25 "FogGuidesModel" "firsts" "[I") (by decide +kernel)
  have iw7 : ∀ w ∈ u_ws RX7 TX7 34, w ∈ wsX7_isLess := by decide +kernel
  have lk28 := hts (.fieldLink RX7 28 "FogGuidesModel" "thens" "[I") (by decide +kernel)
  have lk31 := hts (.fieldLink RX7 31 "FogGuidesModel" "begins" "[I") (by decide +kernel)
  have h := hf
  unfold f_X7_isLess at h
  obtain ⟨H, eH⟩ : ∃ H, H = s.heap := ⟨_, rfl⟩
  rw [← eH] at hP ⊢
  obtain ⟨locs, el⟩ : ∃ locs : List Loc, locs = [] := ⟨_, rfl⟩
  rw [← el] at hS ⊢
  have hS : va_S A s.heap H locs := by rw [eH]; exact hS
  refine lv_iload_n hx hb dX7_isLess_0 rfl (lv_at hl 1 rfl) ?_
  refine lv_aload_n hx hb dX7_isLess_1 rfl (lv_at hl 0 rfl) ?_
  refine va_get (C := RX7) (T := TX7) (N := 34) (v := .ref (q 12)) hx hb hts iw7 hown hK hP 0 rfl rfl 11 (Nat.le_of_ble_eq_true rfl) lk25 (fun _ h9 => h9) rfl dX7_isLess_2 ?_
  refine lv_iload hx hb dX7_isLess_5 (lv_at hl 4 rfl) ?_
  obtain ⟨hi1, h⟩ := xb_some h
  refine va_iald hx hb hK hP 1 0 rfl rfl hi1 dX7_isLess_7 ?_
  refine lv_icmp_lt (tgt := 55) hx hb dX7_isLess_8 (by decide) (fun c2 => ?_) (fun c2 => ?_)
  · have h := (if_pos c2).symm.trans h
    refine lv_iconst (v := 1) hx hb dX7_isLess_55 (by decide) ?_
    refine lv_goto (tgt := 60) hx hb dX7_isLess_56 (by decide) ?_
    exact hret (1 : Int32) () H locs _ ls (Or.inr rfl) (Option.some.inj h) hP hD hS dX7_isLess_60
  · have h := (if_neg c2).symm.trans h
    refine lv_iload_n hx hb dX7_isLess_11 rfl (lv_at hl 1 rfl) ?_
    refine lv_aload_n hx hb dX7_isLess_12 rfl (lv_at hl 0 rfl) ?_
    refine va_get (C := RX7) (T := TX7) (N := 34) (v := .ref (q 12)) hx hb hts iw7 hown hK hP 0 rfl rfl 11 (Nat.le_of_ble_eq_true rfl) lk25 (fun _ h9 => h9) rfl dX7_isLess_13 ?_
    refine lv_iload hx hb dX7_isLess_16 (lv_at hl 4 rfl) ?_
    obtain ⟨hi3, h⟩ := xb_some h
    refine va_iald hx hb hK hP 1 0 rfl rfl hi3 dX7_isLess_18 ?_
    refine lv_icmp_ne (tgt := 59) hx hb dX7_isLess_19 (by decide) (fun c4 => ?_) (fun c4 => ?_)
    · have h := (if_neg c4).symm.trans h
      refine lv_iconst (v := 0) hx hb dX7_isLess_59 (by decide) ?_
      exact hret (0 : Int32) () H locs _ ls (Or.inl rfl) (Option.some.inj h) hP hD hS dX7_isLess_60
    · have h := (if_pos c4).symm.trans h
      refine lv_iload_n hx hb dX7_isLess_22 rfl (lv_at hl 2 rfl) ?_
      refine lv_aload_n hx hb dX7_isLess_23 rfl (lv_at hl 0 rfl) ?_
      refine va_get (C := RX7) (T := TX7) (N := 34) (v := .ref (q 13)) hx hb hts iw7 hown hK hP 0 rfl rfl 12 (Nat.le_of_ble_eq_true rfl) lk28 (fun _ h9 => h9) rfl dX7_isLess_24 ?_
      refine lv_iload hx hb dX7_isLess_27 (lv_at hl 4 rfl) ?_
      obtain ⟨hi5, h⟩ := xb_some h
      refine va_iald hx hb hK hP 2 0 rfl rfl hi5 dX7_isLess_29 ?_
      refine lv_icmp_lt (tgt := 55) hx hb dX7_isLess_30 (by decide) (fun c6 => ?_) (fun c6 => ?_)
      · have h := (if_pos c6).symm.trans h
        refine lv_iconst (v := 1) hx hb dX7_isLess_55 (by decide) ?_
        refine lv_goto (tgt := 60) hx hb dX7_isLess_56 (by decide) ?_
        exact hret (1 : Int32) () H locs _ ls (Or.inr rfl) (Option.some.inj h) hP hD hS dX7_isLess_60
      · have h := (if_neg c6).symm.trans h
        refine lv_iload_n hx hb dX7_isLess_33 rfl (lv_at hl 2 rfl) ?_
        refine lv_aload_n hx hb dX7_isLess_34 rfl (lv_at hl 0 rfl) ?_
        refine va_get (C := RX7) (T := TX7) (N := 34) (v := .ref (q 13)) hx hb hts iw7 hown hK hP 0 rfl rfl 12 (Nat.le_of_ble_eq_true rfl) lk28 (fun _ h9 => h9) rfl dX7_isLess_35 ?_
        refine lv_iload hx hb dX7_isLess_38 (lv_at hl 4 rfl) ?_
        obtain ⟨hi7, h⟩ := xb_some h
        refine va_iald hx hb hK hP 2 0 rfl rfl hi7 dX7_isLess_40 ?_
        refine lv_icmp_ne (tgt := 59) hx hb dX7_isLess_41 (by decide) (fun c8 => ?_) (fun c8 => ?_)
        · have h := (if_neg c8).symm.trans h
          refine lv_iconst (v := 0) hx hb dX7_isLess_59 (by decide) ?_
          exact hret (0 : Int32) () H locs _ ls (Or.inl rfl) (Option.some.inj h) hP hD hS dX7_isLess_60
        · have h := (if_pos c8).symm.trans h
          refine lv_iload_n hx hb dX7_isLess_44 rfl (lv_at hl 3 rfl) ?_
          refine lv_aload_n hx hb dX7_isLess_45 rfl (lv_at hl 0 rfl) ?_
          refine va_get (C := RX7) (T := TX7) (N := 34) (v := .ref (q 14)) hx hb hts iw7 hown hK hP 0 rfl rfl 13 (Nat.le_of_ble_eq_true rfl) lk31 (fun _ h9 => h9) rfl dX7_isLess_46 ?_
          refine lv_iload hx hb dX7_isLess_49 (lv_at hl 4 rfl) ?_
          obtain ⟨hi9, h⟩ := xb_some h
          refine va_iald hx hb hK hP 3 0 rfl rfl hi9 dX7_isLess_51 ?_
          refine lv_icmp_ge (tgt := 59) hx hb dX7_isLess_52 (by decide) (fun c10 => ?_) (fun c10 => ?_)
          · have h := (if_pos c10).symm.trans h
            refine lv_iconst (v := 0) hx hb dX7_isLess_59 (by decide) ?_
            exact hret (0 : Int32) () H locs _ ls (Or.inl rfl) (Option.some.inj h) hP hD hS dX7_isLess_60
          · have h := (if_neg c10).symm.trans h
            refine lv_iconst (v := 1) hx hb dX7_isLess_55 (by decide) ?_
            refine lv_goto (tgt := 60) hx hb dX7_isLess_56 (by decide) ?_
            exact hret (1 : Int32) () H locs _ ls (Or.inr rfl) (Option.some.inj h) hP hD hS dX7_isLess_60
abbrev rm_X7_lessens : Room := { frames := 1, cells := 0, slots := 0, locals := 24 }
set_option maxHeartbeats 4000000 in
set_option maxRecDepth 100000 in
theorem k_X7_lessens (l : Launch) (D : va_G) (cI cZ cT : ClassId) (q : Nat → Nat) (sz : Nat) (v_size : Int32) (v_at : Int32) (v_begin : Int32) (v_token : Int32) (v_told : Int32) (v_undos : Int32) (v_changed : Int32) (v_felt : Int32) (v_wents : Int32) (v_wish : Int32) (v_trace : Int64) (v_firsts : Nat → Int32) (v_thens : Nat → Int32) (v_begins : Nat → Int32) (x1 : Int32) (x2 : Int32) (x3 : Int32) (x4 : Int32) (res : R_X7_lessens) (hf : f_X7_lessens v_firsts v_thens v_begins v_changed x1 x2 x3 x4 = some res) : Met l yX7_lessens wsX7_lessens rm_X7_lessens (cPre D (tyz cI cZ cT) [.ref (q 0), .int x1, .int x2, .int x3, .int x4] sz [oX7 q v_size v_at v_begin v_token v_told v_undos v_changed v_felt v_wents v_wish v_trace, rA (q 12) cI 28 v_firsts, rA (q 13) cI 28 v_thens, rA (q 14) cI 28 v_begins]) (cPv D (tyz cI cZ cT) (fun (u : (Nat → Int32) × (Nat → Int32) × (Nat → Int32) × Int32) => u = res) (fun u => [oX7 q v_size v_at v_begin v_token v_told v_undos u.2.2.2 v_felt v_wents v_wish v_trace, rA (q 12) cI 28 u.1, rA (q 13) cI 28 u.2.1, rA (q 14) cI 28 u.2.2.1]) [oX7 q v_size v_at v_begin v_token v_told v_undos v_changed v_felt v_wents v_wish v_trace, rA (q 12) cI 28 v_firsts, rA (q 13) cI 28 v_thens, rA (q 14) cI 28 v_begins] sz) 0 0 (va_A [oX7 q v_size v_at v_begin v_token v_told v_undos v_changed v_felt v_wents v_wish v_trace, rA (q 12) cI 28 v_firsts, rA (q 13) cI 28 v_thens, rA (q 14) cI 28 v_begins] sz) := by
  refine vx_meth_v (by decide) rfl (Nat.le_of_ble_eq_true rfl) ?_
  intro p e s m args below meth c A Q hx hb hml hown hts hK hP hD hA hS hret ls hl
  have hown : s.vm.findClass RX7 = some m.cls := hown
  have hl : lv_has ls 5 [(0, .ref (q 0)), (1, .int x1), (2, .int x2), (3, .int x3), (4, .int x4)] := hl
  have hFx : CallFix p m c cX7_lessens 5 s args wsX7_lessens RX7 := ⟨hx, hb, hml, hown, hts⟩
  have lk25 := hts (.fieldLink RX7 25 "FogGuidesModel" "firsts" "[I") (by decide +kernel)
  have iw7 : ∀ w ∈ u_ws RX7 TX7 34, w ∈ wsX7_lessens := by decide +kernel
  have lk28 := hts (.fieldLink RX7 28 "FogGuidesModel" "thens" "[I") (by decide +kernel)
  have lk31 := hts (.fieldLink RX7 31 "FogGuidesModel" "begins" "[I") (by decide +kernel)
  have lk236 := hts (.fieldLink RX7 236 "FogGuidesModel" "changed" "Z") (by decide +kernel)
  have h := hf
  unfold f_X7_lessens at h
  obtain ⟨H, eH⟩ : ∃ H, H = s.heap := ⟨_, rfl⟩
  rw [← eH] at hP ⊢
  obtain ⟨locs, el⟩ : ∃ locs : List Loc, locs = [] := ⟨_, rfl⟩
  rw [← el] at hS ⊢
  have hS : va_S A s.heap H locs := by rw [eH]; exact hS
  refine lv_aload_n hx hb dX7_lessens_0 rfl (lv_at hl 0 rfl) ?_
  refine lv_iload_n hx hb dX7_lessens_1 rfl (lv_at hl 2 rfl) ?_
  refine lv_iload_n hx hb dX7_lessens_2 rfl (lv_at hl 3 rfl) ?_
  refine lv_iload hx hb dX7_lessens_3 (lv_at hl 4 rfl) ?_
  refine lv_iload_n hx hb dX7_lessens_5 rfl (lv_at hl 1 rfl) ?_
  obtain ⟨r1, hr1, h⟩ := xk_some h
  refine vx_VJ (As := [.int x2, .int x3, .int x4, .int x1]) (rest := []) hFx (k_X7_isLess l D cI cZ cT q H.size v_size v_at v_begin v_token v_told v_undos v_changed v_felt v_wents v_wish v_trace v_firsts v_thens v_begins x2 x3 x4 x1 r1 hr1) (cwV 4 hts gX7_lessens_X7_isLess rfl rfl rfl (by decide +kernel) ⟨Nat.le_of_ble_eq_true rfl, Nat.le_of_ble_eq_true rfl⟩) hK hP hD hS hA [0, 1, 2, 3] rfl rfl 7 0 rfl rfl rfl hl.1 rfl (Nat.le_of_ble_eq_true rfl) dX7_lessens_6 ⟨Nat.zero_le _, Nat.zero_le _⟩ (fun H locs hP hS => ?_)
  refine lv_if_eq (tgt := 39) hx hb dX7_lessens_9 (by decide) (fun c2 => ?_) (fun c2 => ?_)
  · have h := (if_pos c2).symm.trans h
    exact hret (v_firsts, v_thens, v_begins, v_changed) H locs _ ls (Option.some.inj h) hP hD hS dX7_lessens_39
  · have h := (if_neg c2).symm.trans h
    refine lv_aload_n hx hb dX7_lessens_12 rfl (lv_at hl 0 rfl) ?_
    refine va_get (C := RX7) (T := TX7) (N := 34) (v := .ref (q 12)) hx hb hts iw7 hown hK hP 0 rfl rfl 11 (Nat.le_of_ble_eq_true rfl) lk25 (fun _ h9 => h9) rfl dX7_lessens_13 ?_
    refine lv_iload_n hx hb dX7_lessens_16 rfl (lv_at hl 1 rfl) ?_
    refine lv_iload_n hx hb dX7_lessens_17 rfl (lv_at hl 2 rfl) ?_
    obtain ⟨hi3, h⟩ := xb_some h
    refine va_iast hx hb hK hP hD hS 1 0 rfl rfl hi3 dX7_lessens_18 (fun H locs hP hD hS => ?_)
    have hP : va_P D vwCl [oX7 q v_size v_at v_begin v_token v_told v_undos v_changed v_felt v_wents v_wish v_trace, rA (q 12) cI 28 (upd v_firsts x1.toNatClampNeg x2), rA (q 13) cI 28 v_thens, rA (q 14) cI 28 v_begins] H := hP
    have hD : va_D A [oX7 q v_size v_at v_begin v_token v_told v_undos v_changed v_felt v_wents v_wish v_trace, rA (q 12) cI 28 (upd v_firsts x1.toNatClampNeg x2), rA (q 13) cI 28 v_thens, rA (q 14) cI 28 v_begins] := hD
    refine lv_aload_n hx hb dX7_lessens_19 rfl (lv_at hl 0 rfl) ?_
    refine va_get (C := RX7) (T := TX7) (N := 34) (v := .ref (q 13)) hx hb hts iw7 hown hK hP 0 rfl rfl 12 (Nat.le_of_ble_eq_true rfl) lk28 (fun _ h9 => h9) rfl dX7_lessens_20 ?_
    refine lv_iload_n hx hb dX7_lessens_23 rfl (lv_at hl 1 rfl) ?_
    refine lv_iload_n hx hb dX7_lessens_24 rfl (lv_at hl 3 rfl) ?_
    obtain ⟨hi4, h⟩ := xb_some h
    refine va_iast hx hb hK hP hD hS 2 0 rfl rfl hi4 dX7_lessens_25 (fun H locs hP hD hS => ?_)
    have hP : va_P D vwCl [oX7 q v_size v_at v_begin v_token v_told v_undos v_changed v_felt v_wents v_wish v_trace, rA (q 12) cI 28 (upd v_firsts x1.toNatClampNeg x2), rA (q 13) cI 28 (upd v_thens x1.toNatClampNeg x3), rA (q 14) cI 28 v_begins] H := hP
    have hD : va_D A [oX7 q v_size v_at v_begin v_token v_told v_undos v_changed v_felt v_wents v_wish v_trace, rA (q 12) cI 28 (upd v_firsts x1.toNatClampNeg x2), rA (q 13) cI 28 (upd v_thens x1.toNatClampNeg x3), rA (q 14) cI 28 v_begins] := hD
    refine lv_aload_n hx hb dX7_lessens_26 rfl (lv_at hl 0 rfl) ?_
    refine va_get (C := RX7) (T := TX7) (N := 34) (v := .ref (q 14)) hx hb hts iw7 hown hK hP 0 rfl rfl 13 (Nat.le_of_ble_eq_true rfl) lk31 (fun _ h9 => h9) rfl dX7_lessens_27 ?_
    refine lv_iload_n hx hb dX7_lessens_30 rfl (lv_at hl 1 rfl) ?_
    refine lv_iload hx hb dX7_lessens_31 (lv_at hl 4 rfl) ?_
    obtain ⟨hi5, h⟩ := xb_some h
    refine va_iast hx hb hK hP hD hS 3 0 rfl rfl hi5 dX7_lessens_33 (fun H locs hP hD hS => ?_)
    have hP : va_P D vwCl [oX7 q v_size v_at v_begin v_token v_told v_undos v_changed v_felt v_wents v_wish v_trace, rA (q 12) cI 28 (upd v_firsts x1.toNatClampNeg x2), rA (q 13) cI 28 (upd v_thens x1.toNatClampNeg x3), rA (q 14) cI 28 (upd v_begins x1.toNatClampNeg x4)] H := hP
    have hD : va_D A [oX7 q v_size v_at v_begin v_token v_told v_undos v_changed v_felt v_wents v_wish v_trace, rA (q 12) cI 28 (upd v_firsts x1.toNatClampNeg x2), rA (q 13) cI 28 (upd v_thens x1.toNatClampNeg x3), rA (q 14) cI 28 (upd v_begins x1.toNatClampNeg x4)] := hD
    refine lv_aload_n hx hb dX7_lessens_34 rfl (lv_at hl 0 rfl) ?_
    refine lv_iconst (v := 1) hx hb dX7_lessens_35 (by decide) ?_
    refine va_put (C := RX7) (T := TX7) (N := 34) (v := .int (1 : Int32)) (ty := .boolean) hx hb hts iw7 tyX7 tyX7_ok nmX7 hown hK hP hD hS 0 rfl rfl 14 (Nat.le_of_ble_eq_true rfl) lk236 (fun _ h9 => h9) rfl (by decide +kernel) (by decide +kernel) rfl (Nat.le_of_ble_eq_true rfl) dX7_lessens_36 (fun H locs hP hD hS => ?_)
    have hP : va_P D vwCl [oX7 q v_size v_at v_begin v_token v_told v_undos (1 : Int32) v_felt v_wents v_wish v_trace, rA (q 12) cI 28 (upd v_firsts x1.toNatClampNeg x2), rA (q 13) cI 28 (upd v_thens x1.toNatClampNeg x3), rA (q 14) cI 28 (upd v_begins x1.toNatClampNeg x4)] H := hP
    have hD : va_D A [oX7 q v_size v_at v_begin v_token v_told v_undos (1 : Int32) v_felt v_wents v_wish v_trace, rA (q 12) cI 28 (upd v_firsts x1.toNatClampNeg x2), rA (q 13) cI 28 (upd v_thens x1.toNatClampNeg x3), rA (q 14) cI 28 (upd v_begins x1.toNatClampNeg x4)] := hD
    exact hret ((upd v_firsts x1.toNatClampNeg x2, upd v_thens x1.toNatClampNeg x3, upd v_begins x1.toNatClampNeg x4, (1 : Int32))) H locs _ ls (Option.some.inj h) hP hD hS dX7_lessens_39
abbrev rm_X7_goesOn : Room := { frames := 2, cells := 0, slots := 0, locals := 48 }
set_option maxHeartbeats 4000000 in
set_option maxRecDepth 100000 in
theorem k_X7_goesOn (l : Launch) (D : va_G) (cI cZ cT : ClassId) (q : Nat → Nat) (sz : Nat) (v_size : Int32) (v_at : Int32) (v_begin : Int32) (v_token : Int32) (v_told : Int32) (v_undos : Int32) (v_changed : Int32) (v_felt : Int32) (v_wents : Int32) (v_wish : Int32) (v_trace : Int64) (v_town : Nat → Int32) (v_firsts : Nat → Int32) (v_thens : Nat → Int32) (v_begins : Nat → Int32) (x1 : Int32) (x2 : Int32) (x3 : Int32) (res : R_X7_goesOn) (fu : Nat) (hf : f_X7_goesOn fu v_town v_firsts v_thens v_begins v_changed x1 x2 x3 = some res) : Met l yX7_goesOn wsX7_goesOn rm_X7_goesOn (cPre D (tyz cI cZ cT) [.ref (q 0), .int x1, .int x2, .int x3] sz [oX7 q v_size v_at v_begin v_token v_told v_undos v_changed v_felt v_wents v_wish v_trace, rA (q 8) cI 64 v_town, rA (q 12) cI 28 v_firsts, rA (q 13) cI 28 v_thens, rA (q 14) cI 28 v_begins]) (cPv D (tyz cI cZ cT) (fun (u : (Nat → Int32) × (Nat → Int32) × (Nat → Int32) × Int32) => u = res) (fun u => [oX7 q v_size v_at v_begin v_token v_told v_undos u.2.2.2 v_felt v_wents v_wish v_trace, rA (q 8) cI 64 v_town, rA (q 12) cI 28 u.1, rA (q 13) cI 28 u.2.1, rA (q 14) cI 28 u.2.2.1]) [oX7 q v_size v_at v_begin v_token v_told v_undos v_changed v_felt v_wents v_wish v_trace, rA (q 8) cI 64 v_town, rA (q 12) cI 28 v_firsts, rA (q 13) cI 28 v_thens, rA (q 14) cI 28 v_begins] sz) 0 0 (va_A [oX7 q v_size v_at v_begin v_token v_told v_undos v_changed v_felt v_wents v_wish v_trace, rA (q 8) cI 64 v_town, rA (q 12) cI 28 v_firsts, rA (q 13) cI 28 v_thens, rA (q 14) cI 28 v_begins] sz) := by
  refine vx_meth_v (by decide) rfl (Nat.le_of_ble_eq_true rfl) ?_
  intro p e s m args below meth c A Q hx hb hml hown hts hK hP hD hA hS hret ls hl
  have hown : s.vm.findClass RX7 = some m.cls := hown
  have hl : lv_has ls 8 [(0, .ref (q 0)), (1, .int x1), (2, .int x2), (3, .int x3)] := hl
  have hFx : CallFix p m c cX7_goesOn 8 s args wsX7_goesOn RX7 := ⟨hx, hb, hml, hown, hts⟩
  have lk31 := hts (.fieldLink RX7 31 "FogGuidesModel" "begins" "[I") (by decide +kernel)
  have iw7 : ∀ w ∈ u_ws RX7 TX7 34, w ∈ wsX7_goesOn := by decide +kernel
  have lk28 := hts (.fieldLink RX7 28 "FogGuidesModel" "thens" "[I") (by decide +kernel)
  have lk16 := hts (.fieldLink RX7 16 "FogGuidesModel" "town" "[I") (by decide +kernel)
  have lk25 := hts (.fieldLink RX7 25 "FogGuidesModel" "firsts" "[I") (by decide +kernel)
  have hL140 : ∀ (n140 : Nat), ∀ (v_firsts : (Nat → Int32)) (v_thens : (Nat → Int32)) (v_begins : (Nat → Int32)) (v_changed : Int32) (x1 : Int32) (x2 : Int32) (x3 : Int32) (x4 : Int32) (x5 : Int32) (H : Heap) (locs : List Loc) (ls : Array Slot), f_X7_goesOn_L140 fu n140 v_town v_firsts v_thens v_begins v_changed x1 x2 x3 x4 x5 = some res → va_P D vwCl [oX7 q v_size v_at v_begin v_token v_told v_undos v_changed v_felt v_wents v_wish v_trace, rA (q 8) cI 64 v_town, rA (q 12) cI 28 v_firsts, rA (q 13) cI 28 v_thens, rA (q 14) cI 28 v_begins] H → va_D A [oX7 q v_size v_at v_begin v_token v_told v_undos v_changed v_felt v_wents v_wish v_trace, rA (q 8) cI 64 v_town, rA (q 12) cI 28 v_firsts, rA (q 13) cI 28 v_thens, rA (q 14) cI 28 v_begins] → va_S A s.heap H locs → lv_has ls 8 [(0, .ref (q 0)), (1, .int x1), (2, .int x2), (3, .int x3), (4, .int x4), (5, .int x5)] → W p l e rm_X7_goesOn s m args below meth c H locs 0 0 Q (F0 m 140 ls []) := by
    intro n140
    induction n140 with
    | zero =>
      intro v_firsts v_thens v_begins v_changed x1 x2 x3 x4 x5 H locs ls h hP hD hS hl
      cases (show (none : Option R_X7_goesOn) = some res from h)
    | succ n140 ih140 =>
      have hJ226 : ∀ (v_firsts : (Nat → Int32)) (v_thens : (Nat → Int32)) (v_begins : (Nat → Int32)) (v_changed : Int32) (x1 : Int32) (x2 : Int32) (x3 : Int32) (x4 : Int32) (x5 : Int32) (z1 : Int32) (z2 : Int32) (z3 : Int32) (z4 : Int32) (H : Heap) (locs : List Loc) (ls : Array Slot), f_X7_goesOn_J226 fu (f_X7_goesOn_L140 fu n140) v_town v_firsts v_thens v_begins v_changed x1 x2 x3 x4 x5 z1 z2 z3 z4 = some res → va_P D vwCl [oX7 q v_size v_at v_begin v_token v_told v_undos v_changed v_felt v_wents v_wish v_trace, rA (q 8) cI 64 v_town, rA (q 12) cI 28 v_firsts, rA (q 13) cI 28 v_thens, rA (q 14) cI 28 v_begins] H → va_D A [oX7 q v_size v_at v_begin v_token v_told v_undos v_changed v_felt v_wents v_wish v_trace, rA (q 8) cI 64 v_town, rA (q 12) cI 28 v_firsts, rA (q 13) cI 28 v_thens, rA (q 14) cI 28 v_begins] → va_S A s.heap H locs → lv_has ls 8 [(0, .ref (q 0)), (1, .int x1), (2, .int x2), (3, .int x3), (4, .int x4), (5, .int x5)] → W p l e rm_X7_goesOn s m args below meth c H locs 0 0 Q (F0 m 226 ls [.int z4, .int z3, .int z2, .int z1, .ref (q 0)]) := by
        intro v_firsts v_thens v_begins v_changed x1 x2 x3 x4 x5 z1 z2 z3 z4 H locs ls h hP hD hS hl
        unfold f_X7_goesOn_J226 at h
        refine lv_iadd hx hb dX7_goesOn_226 ?_
        refine lv_aload_n hx hb dX7_goesOn_227 rfl (lv_at hl 0 rfl) ?_
        refine va_get (C := RX7) (T := TX7) (N := 34) (v := .ref (q 14)) hx hb hts iw7 hown hK hP 0 rfl rfl 13 (Nat.le_of_ble_eq_true rfl) lk31 (fun _ h9 => h9) rfl dX7_goesOn_228 ?_
        refine lv_iload hx hb dX7_goesOn_231 (lv_at hl 4 rfl) ?_
        obtain ⟨hi1, h⟩ := xb_some h
        refine va_iald hx hb hK hP 4 0 rfl rfl hi1 dX7_goesOn_233 ?_
        obtain ⟨r2, hr2, h⟩ := xk_some h
        refine vx_VV (As := [.int z1, .int z2, .int (z3 + z4), .int (v_begins x4.toNatClampNeg)]) (rest := []) (wr := [rA (q 8) cI 64 v_town]) (wn := [oX7 q v_size v_at v_begin v_token v_told v_undos r2.2.2.2 v_felt v_wents v_wish v_trace, rA (q 8) cI 64 v_town, rA (q 12) cI 28 r2.1, rA (q 13) cI 28 r2.2.1, rA (q 14) cI 28 r2.2.2.1]) hFx (k_X7_lessens l D cI cZ cT q H.size v_size v_at v_begin v_token v_told v_undos v_changed v_felt v_wents v_wish v_trace v_firsts v_thens v_begins z1 z2 (z3 + z4) (v_begins x4.toNatClampNeg) r2 hr2) (cwV 4 hts gX7_goesOn_X7_lessens rfl rfl rfl (by decide +kernel) ⟨Nat.le_of_ble_eq_true rfl, Nat.le_of_ble_eq_true rfl⟩) hK hP hD hS hA [0, 2, 3, 4] [1] [1, 0, 2, 3, 4] rfl rfl rfl rfl (by decide) rfl rfl 7 0 rfl rfl rfl hl.1 rfl (Nat.le_of_ble_eq_true rfl) dX7_goesOn_234 ⟨Nat.zero_le _, Nat.zero_le _⟩ (fun H locs hP hD hS => ?_)
        refine lv_iinc (v := x5 + 1) (lv' := [(5, .int (x5 + 1)), (0, .ref (q 0)), (1, .int x1), (2, .int x2), (3, .int x3), (4, .int x4)]) hx hb dX7_goesOn_237 hl (k := 5) rfl rfl (by decide) rfl (fun ls hl => ?_)
        refine lv_goto (tgt := 140) hx hb dX7_goesOn_240 (by decide) ?_
        exact ih140 r2.1 r2.2.1 r2.2.2.1 r2.2.2.2 x1 x2 x3 x4 (x5 + 1) H locs ls h hP hD hS (lv_sub hl [1, 2, 3, 4, 5, 0] rfl)
      have hJ204 : ∀ (v_firsts : (Nat → Int32)) (v_thens : (Nat → Int32)) (v_begins : (Nat → Int32)) (v_changed : Int32) (x1 : Int32) (x2 : Int32) (x3 : Int32) (x4 : Int32) (x5 : Int32) (z1 : Int32) (z2 : Int32) (z3 : Int32) (H : Heap) (locs : List Loc) (ls : Array Slot), f_X7_goesOn_J204 fu (f_X7_goesOn_L140 fu n140) v_town v_firsts v_thens v_begins v_changed x1 x2 x3 x4 x5 z1 z2 z3 = some res → va_P D vwCl [oX7 q v_size v_at v_begin v_token v_told v_undos v_changed v_felt v_wents v_wish v_trace, rA (q 8) cI 64 v_town, rA (q 12) cI 28 v_firsts, rA (q 13) cI 28 v_thens, rA (q 14) cI 28 v_begins] H → va_D A [oX7 q v_size v_at v_begin v_token v_told v_undos v_changed v_felt v_wents v_wish v_trace, rA (q 8) cI 64 v_town, rA (q 12) cI 28 v_firsts, rA (q 13) cI 28 v_thens, rA (q 14) cI 28 v_begins] → va_S A s.heap H locs → lv_has ls 8 [(0, .ref (q 0)), (1, .int x1), (2, .int x2), (3, .int x3), (4, .int x4), (5, .int x5)] → W p l e rm_X7_goesOn s m args below meth c H locs 0 0 Q (F0 m 204 ls [.int z3, .int z2, .int z1, .ref (q 0)]) := by
        intro v_firsts v_thens v_begins v_changed x1 x2 x3 x4 x5 z1 z2 z3 H locs ls h hP hD hS hl
        unfold f_X7_goesOn_J204 at h
        refine lv_iadd hx hb dX7_goesOn_204 ?_
        refine lv_aload_n hx hb dX7_goesOn_205 rfl (lv_at hl 0 rfl) ?_
        refine va_get (C := RX7) (T := TX7) (N := 34) (v := .ref (q 13)) hx hb hts iw7 hown hK hP 0 rfl rfl 12 (Nat.le_of_ble_eq_true rfl) lk28 (fun _ h9 => h9) rfl dX7_goesOn_206 ?_
        refine lv_iload hx hb dX7_goesOn_209 (lv_at hl 4 rfl) ?_
        obtain ⟨hi3, h⟩ := xb_some h
        refine va_iald hx hb hK hP 3 0 rfl rfl hi3 dX7_goesOn_211 ?_
        refine lv_iload_n hx hb dX7_goesOn_212 rfl (lv_at hl 3 rfl) ?_
        refine lv_if_eq (tgt := 220) hx hb dX7_goesOn_213 (by decide) (fun c4 => ?_) (fun c4 => ?_)
        · have h := (if_pos c4).symm.trans h
          refine lv_aload_n hx hb dX7_goesOn_220 rfl (lv_at hl 0 rfl) ?_
          refine va_get (C := RX7) (T := TX7) (N := 34) (v := .ref (q 8)) hx hb hts iw7 hown hK hP 0 rfl rfl 7 (Nat.le_of_ble_eq_true rfl) lk16 (fun _ h9 => h9) rfl dX7_goesOn_221 ?_
          refine lv_iconst (v := 3) hx hb dX7_goesOn_224 (by decide) ?_
          obtain ⟨hi5, h⟩ := xb_some h
          refine va_iald hx hb hK hP 1 0 rfl rfl hi5 dX7_goesOn_225 ?_
          exact hJ226 v_firsts v_thens v_begins v_changed x1 x2 x3 x4 x5 z1 (z2 + z3) (v_thens x4.toNatClampNeg) (v_town (3 : Int32).toNatClampNeg) H locs ls h hP hD hS (lv_sub hl [0, 1, 2, 3, 4, 5] rfl)
        · have h := (if_neg c4).symm.trans h
          refine lv_iconst (v := 0) hx hb dX7_goesOn_216 (by decide) ?_
          refine lv_goto (tgt := 226) hx hb dX7_goesOn_217 (by decide) ?_
          exact hJ226 v_firsts v_thens v_begins v_changed x1 x2 x3 x4 x5 z1 (z2 + z3) (v_thens x4.toNatClampNeg) (0 : Int32) H locs ls h hP hD hS (lv_sub hl [0, 1, 2, 3, 4, 5] rfl)
      intro v_firsts v_thens v_begins v_changed x1 x2 x3 x4 x5 H locs ls h hP hD hS hl
      have h : f_X7_goesOn_L140b fu (f_X7_goesOn_L140 fu n140) v_town v_firsts v_thens v_begins v_changed x1 x2 x3 x4 x5 = some res := h
      unfold f_X7_goesOn_L140b at h
      refine lv_iload hx hb dX7_goesOn_140 (lv_at hl 5 rfl) ?_
      refine lv_aload_n hx hb dX7_goesOn_142 rfl (lv_at hl 0 rfl) ?_
      refine va_get (C := RX7) (T := TX7) (N := 34) (v := .ref (q 8)) hx hb hts iw7 hown hK hP 0 rfl rfl 7 (Nat.le_of_ble_eq_true rfl) lk16 (fun _ h9 => h9) rfl dX7_goesOn_143 ?_
      refine lv_iconst (v := 2) hx hb dX7_goesOn_146 (by decide) ?_
      obtain ⟨hi6, h⟩ := xb_some h
      refine va_iald hx hb hK hP 1 0 rfl rfl hi6 dX7_goesOn_147 ?_
      refine lv_icmp_ge (tgt := 243) hx hb dX7_goesOn_148 (by decide) (fun c7 => ?_) (fun c7 => ?_)
      · have h := (if_pos c7).symm.trans h
        exact hret (v_firsts, v_thens, v_begins, v_changed) H locs _ ls (Option.some.inj h) hP hD hS dX7_goesOn_243
      · have h := (if_neg c7).symm.trans h
        refine lv_iload hx hb dX7_goesOn_151 (lv_at hl 5 rfl) ?_
        refine lv_iload_n hx hb dX7_goesOn_153 rfl (lv_at hl 2 rfl) ?_
        refine lv_icmp_eq (tgt := 237) hx hb dX7_goesOn_154 (by decide) (fun c8 => ?_) (fun c8 => ?_)
        · have h := (if_pos c8).symm.trans h
          refine lv_iinc (v := x5 + 1) (lv' := [(5, .int (x5 + 1)), (0, .ref (q 0)), (1, .int x1), (2, .int x2), (3, .int x3), (4, .int x4)]) hx hb dX7_goesOn_237 hl (k := 5) rfl rfl (by decide) rfl (fun ls hl => ?_)
          refine lv_goto (tgt := 140) hx hb dX7_goesOn_240 (by decide) ?_
          exact ih140 v_firsts v_thens v_begins v_changed x1 x2 x3 x4 (x5 + 1) H locs ls h hP hD hS (lv_sub hl [1, 2, 3, 4, 5, 0] rfl)
        · have h := (if_neg c8).symm.trans h
          refine lv_aload_n hx hb dX7_goesOn_157 rfl (lv_at hl 0 rfl) ?_
          refine lv_iload_n hx hb dX7_goesOn_158 rfl (lv_at hl 2 rfl) ?_
          refine lv_iload_n hx hb dX7_goesOn_159 rfl (lv_at hl 1 rfl) ?_
          obtain ⟨r9, hr9, h⟩ := xk_some h
          refine vx_VJ (As := [.int x2, .int x1]) (rest := []) hFx (k_X7_isHis l D cI cZ cT q H.size v_size v_at v_begin v_token v_told v_undos v_changed v_felt v_wents v_wish v_trace v_town x2 x1 r9 hr9) (cwV 2 hts gX7_goesOn_X7_isHis rfl rfl rfl (by decide +kernel) ⟨Nat.le_of_ble_eq_true rfl, Nat.le_of_ble_eq_true rfl⟩) hK hP hD hS hA [0, 1] rfl rfl 7 0 rfl rfl rfl hl.1 rfl (Nat.le_of_ble_eq_true rfl) dX7_goesOn_160 ⟨Nat.zero_le _, Nat.zero_le _⟩ (fun H locs hP hS => ?_)
          refine lv_if_eq (tgt := 237) hx hb dX7_goesOn_163 (by decide) (fun c10 => ?_) (fun c10 => ?_)
          · have h := (if_pos c10).symm.trans h
            refine lv_iinc (v := x5 + 1) (lv' := [(5, .int (x5 + 1)), (0, .ref (q 0)), (1, .int x1), (2, .int x2), (3, .int x3), (4, .int x4)]) hx hb dX7_goesOn_237 hl (k := 5) rfl rfl (by decide) rfl (fun ls hl => ?_)
            refine lv_goto (tgt := 140) hx hb dX7_goesOn_240 (by decide) ?_
            exact ih140 v_firsts v_thens v_begins v_changed x1 x2 x3 x4 (x5 + 1) H locs ls h hP hD hS (lv_sub hl [1, 2, 3, 4, 5, 0] rfl)
          · have h := (if_neg c10).symm.trans h
            refine lv_aload_n hx hb dX7_goesOn_166 rfl (lv_at hl 0 rfl) ?_
            refine lv_iload hx hb dX7_goesOn_167 (lv_at hl 5 rfl) ?_
            refine lv_iload_n hx hb dX7_goesOn_169 rfl (lv_at hl 1 rfl) ?_
            obtain ⟨r11, hr11, h⟩ := xk_some h
            refine vx_VJ (As := [.int x5, .int x1]) (rest := []) hFx (k_X7_isHis l D cI cZ cT q H.size v_size v_at v_begin v_token v_told v_undos v_changed v_felt v_wents v_wish v_trace v_town x5 x1 r11 hr11) (cwV 2 hts gX7_goesOn_X7_isHis rfl rfl rfl (by decide +kernel) ⟨Nat.le_of_ble_eq_true rfl, Nat.le_of_ble_eq_true rfl⟩) hK hP hD hS hA [0, 1] rfl rfl 7 0 rfl rfl rfl hl.1 rfl (Nat.le_of_ble_eq_true rfl) dX7_goesOn_170 ⟨Nat.zero_le _, Nat.zero_le _⟩ (fun H locs hP hS => ?_)
            refine lv_if_eq (tgt := 237) hx hb dX7_goesOn_173 (by decide) (fun c12 => ?_) (fun c12 => ?_)
            · have h := (if_pos c12).symm.trans h
              refine lv_iinc (v := x5 + 1) (lv' := [(5, .int (x5 + 1)), (0, .ref (q 0)), (1, .int x1), (2, .int x2), (3, .int x3), (4, .int x4)]) hx hb dX7_goesOn_237 hl (k := 5) rfl rfl (by decide) rfl (fun ls hl => ?_)
              refine lv_goto (tgt := 140) hx hb dX7_goesOn_240 (by decide) ?_
              exact ih140 v_firsts v_thens v_begins v_changed x1 x2 x3 x4 (x5 + 1) H locs ls h hP hD hS (lv_sub hl [1, 2, 3, 4, 5, 0] rfl)
            · have h := (if_neg c12).symm.trans h
              refine lv_aload_n hx hb dX7_goesOn_176 rfl (lv_at hl 0 rfl) ?_
              refine lv_iconst (v := 4) hx hb dX7_goesOn_177 (by decide) ?_
              refine lv_iload_n hx hb dX7_goesOn_178 rfl (lv_at hl 1 rfl) ?_
              refine lv_imul hx hb dX7_goesOn_179 ?_
              refine lv_iload hx hb dX7_goesOn_180 (lv_at hl 5 rfl) ?_
              refine lv_iadd hx hb dX7_goesOn_182 ?_
              refine lv_aload_n hx hb dX7_goesOn_183 rfl (lv_at hl 0 rfl) ?_
              refine va_get (C := RX7) (T := TX7) (N := 34) (v := .ref (q 12)) hx hb hts iw7 hown hK hP 0 rfl rfl 11 (Nat.le_of_ble_eq_true rfl) lk25 (fun _ h9 => h9) rfl dX7_goesOn_184 ?_
              refine lv_iload hx hb dX7_goesOn_187 (lv_at hl 4 rfl) ?_
              obtain ⟨hi13, h⟩ := xb_some h
              refine va_iald hx hb hK hP 2 0 rfl rfl hi13 dX7_goesOn_189 ?_
              refine lv_iload_n hx hb dX7_goesOn_190 rfl (lv_at hl 3 rfl) ?_
              refine lv_if_eq (tgt := 203) hx hb dX7_goesOn_191 (by decide) (fun c14 => ?_) (fun c14 => ?_)
              · have h := (if_pos c14).symm.trans h
                refine lv_iconst (v := 0) hx hb dX7_goesOn_203 (by decide) ?_
                exact hJ204 v_firsts v_thens v_begins v_changed x1 x2 x3 x4 x5 (((4 : Int32) * x1) + x5) (v_firsts x4.toNatClampNeg) (0 : Int32) H locs ls h hP hD hS (lv_sub hl [0, 1, 2, 3, 4, 5] rfl)
              · have h := (if_neg c14).symm.trans h
                refine lv_aload_n hx hb dX7_goesOn_194 rfl (lv_at hl 0 rfl) ?_
                refine va_get (C := RX7) (T := TX7) (N := 34) (v := .ref (q 8)) hx hb hts iw7 hown hK hP 0 rfl rfl 7 (Nat.le_of_ble_eq_true rfl) lk16 (fun _ h9 => h9) rfl dX7_goesOn_195 ?_
                refine lv_iconst (v := 3) hx hb dX7_goesOn_198 (by decide) ?_
                obtain ⟨hi15, h⟩ := xb_some h
                refine va_iald hx hb hK hP 1 0 rfl rfl hi15 dX7_goesOn_199 ?_
                refine lv_goto (tgt := 204) hx hb dX7_goesOn_200 (by decide) ?_
                exact hJ204 v_firsts v_thens v_begins v_changed x1 x2 x3 x4 x5 (((4 : Int32) * x1) + x5) (v_firsts x4.toNatClampNeg) (v_town (3 : Int32).toNatClampNeg) H locs ls h hP hD hS (lv_sub hl [0, 1, 2, 3, 4, 5] rfl)
  have hL10 : ∀ (n10 : Nat), ∀ (v_firsts : (Nat → Int32)) (v_thens : (Nat → Int32)) (v_begins : (Nat → Int32)) (v_changed : Int32) (x1 : Int32) (x2 : Int32) (x3 : Int32) (x4 : Int32) (x5 : Int32) (H : Heap) (locs : List Loc) (ls : Array Slot), f_X7_goesOn_L10 fu n10 v_town v_firsts v_thens v_begins v_changed x1 x2 x3 x4 x5 = some res → va_P D vwCl [oX7 q v_size v_at v_begin v_token v_told v_undos v_changed v_felt v_wents v_wish v_trace, rA (q 8) cI 64 v_town, rA (q 12) cI 28 v_firsts, rA (q 13) cI 28 v_thens, rA (q 14) cI 28 v_begins] H → va_D A [oX7 q v_size v_at v_begin v_token v_told v_undos v_changed v_felt v_wents v_wish v_trace, rA (q 8) cI 64 v_town, rA (q 12) cI 28 v_firsts, rA (q 13) cI 28 v_thens, rA (q 14) cI 28 v_begins] → va_S A s.heap H locs → lv_has ls 8 [(0, .ref (q 0)), (1, .int x1), (2, .int x2), (3, .int x3), (4, .int x4), (5, .int x5)] → W p l e rm_X7_goesOn s m args below meth c H locs 0 0 Q (F0 m 10 ls []) := by
    intro n10
    induction n10 with
    | zero =>
      intro v_firsts v_thens v_begins v_changed x1 x2 x3 x4 x5 H locs ls h hP hD hS hl
      cases (show (none : Option R_X7_goesOn) = some res from h)
    | succ n10 ih10 =>
      have hJ120 : ∀ (v_firsts : (Nat → Int32)) (v_thens : (Nat → Int32)) (v_begins : (Nat → Int32)) (v_changed : Int32) (x1 : Int32) (x2 : Int32) (x3 : Int32) (x4 : Int32) (x5 : Int32) (z1 : Int32) (z2 : Int32) (z3 : Int32) (z4 : Int32) (H : Heap) (locs : List Loc) (ls : Array Slot), f_X7_goesOn_J120 fu (f_X7_goesOn_L10 fu n10) v_town v_firsts v_thens v_begins v_changed x1 x2 x3 x4 x5 z1 z2 z3 z4 = some res → va_P D vwCl [oX7 q v_size v_at v_begin v_token v_told v_undos v_changed v_felt v_wents v_wish v_trace, rA (q 8) cI 64 v_town, rA (q 12) cI 28 v_firsts, rA (q 13) cI 28 v_thens, rA (q 14) cI 28 v_begins] H → va_D A [oX7 q v_size v_at v_begin v_token v_told v_undos v_changed v_felt v_wents v_wish v_trace, rA (q 8) cI 64 v_town, rA (q 12) cI 28 v_firsts, rA (q 13) cI 28 v_thens, rA (q 14) cI 28 v_begins] → va_S A s.heap H locs → lv_has ls 8 [(0, .ref (q 0)), (1, .int x1), (2, .int x2), (3, .int x3), (4, .int x4), (5, .int x5)] → W p l e rm_X7_goesOn s m args below meth c H locs 0 0 Q (F0 m 120 ls [.int z4, .int z3, .int z2, .int z1, .ref (q 0)]) := by
        intro v_firsts v_thens v_begins v_changed x1 x2 x3 x4 x5 z1 z2 z3 z4 H locs ls h hP hD hS hl
        unfold f_X7_goesOn_J120 at h
        refine lv_iadd hx hb dX7_goesOn_120 ?_
        refine lv_aload_n hx hb dX7_goesOn_121 rfl (lv_at hl 0 rfl) ?_
        refine va_get (C := RX7) (T := TX7) (N := 34) (v := .ref (q 14)) hx hb hts iw7 hown hK hP 0 rfl rfl 13 (Nat.le_of_ble_eq_true rfl) lk31 (fun _ h9 => h9) rfl dX7_goesOn_122 ?_
        refine lv_iload hx hb dX7_goesOn_125 (lv_at hl 4 rfl) ?_
        obtain ⟨hi16, h⟩ := xb_some h
        refine va_iald hx hb hK hP 4 0 rfl rfl hi16 dX7_goesOn_127 ?_
        obtain ⟨r17, hr17, h⟩ := xk_some h
        refine vx_VV (As := [.int z1, .int z2, .int (z3 + z4), .int (v_begins x4.toNatClampNeg)]) (rest := []) (wr := [rA (q 8) cI 64 v_town]) (wn := [oX7 q v_size v_at v_begin v_token v_told v_undos r17.2.2.2 v_felt v_wents v_wish v_trace, rA (q 8) cI 64 v_town, rA (q 12) cI 28 r17.1, rA (q 13) cI 28 r17.2.1, rA (q 14) cI 28 r17.2.2.1]) hFx (k_X7_lessens l D cI cZ cT q H.size v_size v_at v_begin v_token v_told v_undos v_changed v_felt v_wents v_wish v_trace v_firsts v_thens v_begins z1 z2 (z3 + z4) (v_begins x4.toNatClampNeg) r17 hr17) (cwV 4 hts gX7_goesOn_X7_lessens rfl rfl rfl (by decide +kernel) ⟨Nat.le_of_ble_eq_true rfl, Nat.le_of_ble_eq_true rfl⟩) hK hP hD hS hA [0, 2, 3, 4] [1] [1, 0, 2, 3, 4] rfl rfl rfl rfl (by decide) rfl rfl 7 0 rfl rfl rfl hl.1 rfl (Nat.le_of_ble_eq_true rfl) dX7_goesOn_128 ⟨Nat.zero_le _, Nat.zero_le _⟩ (fun H locs hP hD hS => ?_)
        refine lv_iinc (v := x5 + 1) (lv' := [(5, .int (x5 + 1)), (0, .ref (q 0)), (1, .int x1), (2, .int x2), (3, .int x3), (4, .int x4)]) hx hb dX7_goesOn_131 hl (k := 5) rfl rfl (by decide) rfl (fun ls hl => ?_)
        refine lv_goto (tgt := 10) hx hb dX7_goesOn_134 (by decide) ?_
        exact ih10 r17.1 r17.2.1 r17.2.2.1 r17.2.2.2 x1 x2 x3 x4 (x5 + 1) H locs ls h hP hD hS (lv_sub hl [1, 2, 3, 4, 5, 0] rfl)
      have hJ101 : ∀ (v_firsts : (Nat → Int32)) (v_thens : (Nat → Int32)) (v_begins : (Nat → Int32)) (v_changed : Int32) (x1 : Int32) (x2 : Int32) (x3 : Int32) (x4 : Int32) (x5 : Int32) (x6 : Int32) (x7 : Int32) (z1 : Int32) (z2 : Int32) (z3 : Int32) (H : Heap) (locs : List Loc) (ls : Array Slot), f_X7_goesOn_J101 fu (f_X7_goesOn_L10 fu n10) v_town v_firsts v_thens v_begins v_changed x1 x2 x3 x4 x5 x6 x7 z1 z2 z3 = some res → va_P D vwCl [oX7 q v_size v_at v_begin v_token v_told v_undos v_changed v_felt v_wents v_wish v_trace, rA (q 8) cI 64 v_town, rA (q 12) cI 28 v_firsts, rA (q 13) cI 28 v_thens, rA (q 14) cI 28 v_begins] H → va_D A [oX7 q v_size v_at v_begin v_token v_told v_undos v_changed v_felt v_wents v_wish v_trace, rA (q 8) cI 64 v_town, rA (q 12) cI 28 v_firsts, rA (q 13) cI 28 v_thens, rA (q 14) cI 28 v_begins] → va_S A s.heap H locs → lv_has ls 8 [(0, .ref (q 0)), (1, .int x1), (2, .int x2), (3, .int x3), (4, .int x4), (5, .int x5), (6, .int x6), (7, .int x7)] → W p l e rm_X7_goesOn s m args below meth c H locs 0 0 Q (F0 m 101 ls [.int z3, .int z2, .int z1, .ref (q 0)]) := by
        intro v_firsts v_thens v_begins v_changed x1 x2 x3 x4 x5 x6 x7 z1 z2 z3 H locs ls h hP hD hS hl
        unfold f_X7_goesOn_J101 at h
        refine lv_iadd hx hb dX7_goesOn_101 ?_
        refine lv_aload_n hx hb dX7_goesOn_102 rfl (lv_at hl 0 rfl) ?_
        refine va_get (C := RX7) (T := TX7) (N := 34) (v := .ref (q 13)) hx hb hts iw7 hown hK hP 0 rfl rfl 12 (Nat.le_of_ble_eq_true rfl) lk28 (fun _ h9 => h9) rfl dX7_goesOn_103 ?_
        refine lv_iload hx hb dX7_goesOn_106 (lv_at hl 4 rfl) ?_
        obtain ⟨hi18, h⟩ := xb_some h
        refine va_iald hx hb hK hP 3 0 rfl rfl hi18 dX7_goesOn_108 ?_
        refine lv_iload_n hx hb dX7_goesOn_109 rfl (lv_at hl 3 rfl) ?_
        refine lv_if_eq (tgt := 118) hx hb dX7_goesOn_110 (by decide) (fun c19 => ?_) (fun c19 => ?_)
        · have h := (if_pos c19).symm.trans h
          refine lv_iload hx hb dX7_goesOn_118 (lv_at hl 6 rfl) ?_
          exact hJ120 v_firsts v_thens v_begins v_changed x1 x2 x3 x4 x5 z1 (z2 + z3) (v_thens x4.toNatClampNeg) x6 H locs ls h hP hD hS (lv_sub hl [0, 1, 2, 3, 4, 5] rfl)
        · have h := (if_neg c19).symm.trans h
          refine lv_iload hx hb dX7_goesOn_113 (lv_at hl 7 rfl) ?_
          refine lv_goto (tgt := 120) hx hb dX7_goesOn_115 (by decide) ?_
          exact hJ120 v_firsts v_thens v_begins v_changed x1 x2 x3 x4 x5 z1 (z2 + z3) (v_thens x4.toNatClampNeg) x7 H locs ls h hP hD hS (lv_sub hl [0, 1, 2, 3, 4, 5] rfl)
      intro v_firsts v_thens v_begins v_changed x1 x2 x3 x4 x5 H locs ls h hP hD hS hl
      have h : f_X7_goesOn_L10b fu (f_X7_goesOn_L10 fu n10) v_town v_firsts v_thens v_begins v_changed x1 x2 x3 x4 x5 = some res := h
      unfold f_X7_goesOn_L10b at h
      refine lv_iload hx hb dX7_goesOn_10 (lv_at hl 5 rfl) ?_
      refine lv_aload_n hx hb dX7_goesOn_12 rfl (lv_at hl 0 rfl) ?_
      refine va_get (C := RX7) (T := TX7) (N := 34) (v := .ref (q 8)) hx hb hts iw7 hown hK hP 0 rfl rfl 7 (Nat.le_of_ble_eq_true rfl) lk16 (fun _ h9 => h9) rfl dX7_goesOn_13 ?_
      refine lv_iconst (v := 1) hx hb dX7_goesOn_16 (by decide) ?_
      obtain ⟨hi20, h⟩ := xb_some h
      refine va_iald hx hb hK hP 1 0 rfl rfl hi20 dX7_goesOn_17 ?_
      refine lv_icmp_ge (tgt := 137) hx hb dX7_goesOn_18 (by decide) (fun c21 => ?_) (fun c21 => ?_)
      · have h := (if_pos c21).symm.trans h
        refine lv_iconst (v := 0) hx hb dX7_goesOn_137 (by decide) ?_
        refine lv_istore (lv' := [(5, .int (0 : Int32)), (0, .ref (q 0)), (1, .int x1), (2, .int x2), (3, .int x3), (4, .int x4)]) hx hb dX7_goesOn_138 hl (by decide) rfl (fun ls hl => ?_)
        exact hL140 fu v_firsts v_thens v_begins v_changed x1 x2 x3 x4 (0 : Int32) H locs ls h hP hD hS (lv_sub hl [1, 2, 3, 4, 5, 0] rfl)
      · have h := (if_neg c21).symm.trans h
        refine lv_aload_n hx hb dX7_goesOn_21 rfl (lv_at hl 0 rfl) ?_
        refine lv_iload hx hb dX7_goesOn_22 (lv_at hl 5 rfl) ?_
        refine lv_iload_n hx hb dX7_goesOn_24 rfl (lv_at hl 1 rfl) ?_
        obtain ⟨r22, hr22, h⟩ := xk_some h
        refine vx_VJ (As := [.int x5, .int x1]) (rest := []) hFx (k_X7_over l D cI cZ cT q H.size v_size v_at v_begin v_token v_told v_undos v_changed v_felt v_wents v_wish v_trace v_town x5 x1 r22 hr22) (cwV 2 hts gX7_goesOn_X7_over rfl rfl rfl (by decide +kernel) ⟨Nat.le_of_ble_eq_true rfl, Nat.le_of_ble_eq_true rfl⟩) hK hP hD hS hA [0, 1] rfl rfl 7 0 rfl rfl rfl hl.1 rfl (Nat.le_of_ble_eq_true rfl) dX7_goesOn_25 ⟨Nat.zero_le _, Nat.zero_le _⟩ (fun H locs hP hS => ?_)
        refine lv_bipush (v := (-9)) hx hb dX7_goesOn_28 (by decide) ?_
        refine lv_icmp_eq (tgt := 131) hx hb dX7_goesOn_30 (by decide) (fun c23 => ?_) (fun c23 => ?_)
        · have h := (if_pos c23).symm.trans h
          refine lv_iinc (v := x5 + 1) (lv' := [(5, .int (x5 + 1)), (0, .ref (q 0)), (1, .int x1), (2, .int x2), (3, .int x3), (4, .int x4)]) hx hb dX7_goesOn_131 hl (k := 5) rfl rfl (by decide) rfl (fun ls hl => ?_)
          refine lv_goto (tgt := 10) hx hb dX7_goesOn_134 (by decide) ?_
          exact ih10 v_firsts v_thens v_begins v_changed x1 x2 x3 x4 (x5 + 1) H locs ls h hP hD hS (lv_sub hl [1, 2, 3, 4, 5, 0] rfl)
        · have h := (if_neg c23).symm.trans h
          refine lv_aload_n hx hb dX7_goesOn_33 rfl (lv_at hl 0 rfl) ?_
          refine lv_iload_n hx hb dX7_goesOn_34 rfl (lv_at hl 2 rfl) ?_
          obtain ⟨r24, hr24, h⟩ := xk_some h
          refine vx_VJ (As := [.int x2]) (rest := []) hFx (k_X7_known l D cI cZ cT q H.size v_size v_at v_begin v_token v_told v_undos v_changed v_felt v_wents v_wish v_trace v_town x2 r24 hr24) (cwV 1 hts gX7_goesOn_X7_known rfl rfl rfl (by decide +kernel) ⟨Nat.le_of_ble_eq_true rfl, Nat.le_of_ble_eq_true rfl⟩) hK hP hD hS hA [0, 1] rfl rfl 7 0 rfl rfl rfl hl.1 rfl (Nat.le_of_ble_eq_true rfl) dX7_goesOn_35 ⟨Nat.zero_le _, Nat.zero_le _⟩ (fun H locs hP hS => ?_)
          refine lv_iload hx hb dX7_goesOn_38 (lv_at hl 5 rfl) ?_
          refine lv_ishr hx hb dX7_goesOn_40 ?_
          refine lv_iconst (v := 1) hx hb dX7_goesOn_41 (by decide) ?_
          refine lv_iand hx hb dX7_goesOn_42 ?_
          refine lv_iconst (v := 1) hx hb dX7_goesOn_43 (by decide) ?_
          refine lv_icmp_ne (tgt := 131) hx hb dX7_goesOn_44 (by decide) (fun c25 => ?_) (fun c25 => ?_)
          · have h := (if_neg c25).symm.trans h
            refine lv_iinc (v := x5 + 1) (lv' := [(5, .int (x5 + 1)), (0, .ref (q 0)), (1, .int x1), (2, .int x2), (3, .int x3), (4, .int x4)]) hx hb dX7_goesOn_131 hl (k := 5) rfl rfl (by decide) rfl (fun ls hl => ?_)
            refine lv_goto (tgt := 10) hx hb dX7_goesOn_134 (by decide) ?_
            exact ih10 v_firsts v_thens v_begins v_changed x1 x2 x3 x4 (x5 + 1) H locs ls h hP hD hS (lv_sub hl [1, 2, 3, 4, 5, 0] rfl)
          · have h := (if_pos c25).symm.trans h
            refine lv_aload_n hx hb dX7_goesOn_47 rfl (lv_at hl 0 rfl) ?_
            refine lv_iload hx hb dX7_goesOn_48 (lv_at hl 5 rfl) ?_
            obtain ⟨r26, hr26, h⟩ := xk_some h
            refine vx_VJ (As := [.int x5]) (rest := []) hFx (k_X7_length l D cI cZ cT q H.size v_size v_at v_begin v_token v_told v_undos v_changed v_felt v_wents v_wish v_trace v_town x5 r26 hr26) (cwV 1 hts gX7_goesOn_X7_length rfl rfl rfl (by decide +kernel) ⟨Nat.le_of_ble_eq_true rfl, Nat.le_of_ble_eq_true rfl⟩) hK hP hD hS hA [0, 1] rfl rfl 7 0 rfl rfl rfl hl.1 rfl (Nat.le_of_ble_eq_true rfl) dX7_goesOn_50 ⟨Nat.zero_le _, Nat.zero_le _⟩ (fun H locs hP hS => ?_)
            refine lv_aload_n hx hb dX7_goesOn_53 rfl (lv_at hl 0 rfl) ?_
            refine lv_iload_n hx hb dX7_goesOn_54 rfl (lv_at hl 2 rfl) ?_
            obtain ⟨r27, hr27, h⟩ := xk_some h
            refine vx_VJ (As := [.int x2]) (rest := [.int r26]) hFx (k_X7_pace l D cI cZ cT q H.size v_size v_at v_begin v_token v_told v_undos v_changed v_felt v_wents v_wish v_trace v_town x2 r27 hr27) (cwV 1 hts gX7_goesOn_X7_pace rfl rfl rfl (by decide +kernel) ⟨Nat.le_of_ble_eq_true rfl, Nat.le_of_ble_eq_true rfl⟩) hK hP hD hS hA [0, 1] rfl rfl 7 0 rfl rfl rfl hl.1 rfl (Nat.le_of_ble_eq_true rfl) dX7_goesOn_55 ⟨Nat.zero_le _, Nat.zero_le _⟩ (fun H locs hP hS => ?_)
            refine lv_iadd hx hb dX7_goesOn_58 ?_
            refine lv_istore (lv' := [(6, .int (r26 + r27)), (0, .ref (q 0)), (1, .int x1), (2, .int x2), (3, .int x3), (4, .int x4), (5, .int x5)]) hx hb dX7_goesOn_59 hl (by decide) rfl (fun ls hl => ?_)
            refine lv_aload_n hx hb dX7_goesOn_61 rfl (lv_at hl 1 rfl) ?_
            refine lv_iload_n hx hb dX7_goesOn_62 rfl (lv_at hl 3 rfl) ?_
            obtain ⟨r28, hr28, h⟩ := xk_some h
            refine vx_VJ (As := [.int x2]) (rest := []) hFx (k_X7_fee l D cI cZ cT q H.size v_size v_at v_begin v_token v_told v_undos v_changed v_felt v_wents v_wish v_trace v_town x2 r28 hr28) (cwV 1 hts gX7_goesOn_X7_fee rfl rfl rfl (by decide +kernel) ⟨Nat.le_of_ble_eq_true rfl, Nat.le_of_ble_eq_true rfl⟩) hK hP hD hS hA [0, 1] rfl rfl 7 0 rfl rfl rfl hl.1 rfl (Nat.le_of_ble_eq_true rfl) dX7_goesOn_63 ⟨Nat.zero_le _, Nat.zero_le _⟩ (fun H locs hP hS => ?_)
            refine lv_iload hx hb dX7_goesOn_66 (lv_at hl 0 rfl) ?_
            refine lv_imul hx hb dX7_goesOn_68 ?_
            refine lv_istore (lv' := [(7, .int (r28 * (r26 + r27))), (6, .int (r26 + r27)), (0, .ref (q 0)), (1, .int x1), (2, .int x2), (3, .int x3), (4, .int x4), (5, .int x5)]) hx hb dX7_goesOn_69 hl (by decide) rfl (fun ls hl => ?_)
            refine lv_aload_n hx hb dX7_goesOn_71 rfl (lv_at hl 2 rfl) ?_
            refine lv_iconst (v := 4) hx hb dX7_goesOn_72 (by decide) ?_
            refine lv_aload_n hx hb dX7_goesOn_73 rfl (lv_at hl 2 rfl) ?_
            refine lv_iload hx hb dX7_goesOn_74 (lv_at hl 7 rfl) ?_
            refine lv_iload_n hx hb dX7_goesOn_76 rfl (lv_at hl 3 rfl) ?_
            obtain ⟨r29, hr29, h⟩ := xk_some h
            refine vx_VJ (As := [.int x5, .int x1]) (rest := [.int (4 : Int32), .ref (q 0)]) hFx (k_X7_over l D cI cZ cT q H.size v_size v_at v_begin v_token v_told v_undos v_changed v_felt v_wents v_wish v_trace v_town x5 x1 r29 hr29) (cwV 2 hts gX7_goesOn_X7_over rfl rfl rfl (by decide +kernel) ⟨Nat.le_of_ble_eq_true rfl, Nat.le_of_ble_eq_true rfl⟩) hK hP hD hS hA [0, 1] rfl rfl 7 0 rfl rfl rfl hl.1 rfl (Nat.le_of_ble_eq_true rfl) dX7_goesOn_77 ⟨Nat.zero_le _, Nat.zero_le _⟩ (fun H locs hP hS => ?_)
            refine lv_imul hx hb dX7_goesOn_80 ?_
            refine lv_iload_n hx hb dX7_goesOn_81 rfl (lv_at hl 4 rfl) ?_
            refine lv_iadd hx hb dX7_goesOn_82 ?_
            refine lv_aload_n hx hb dX7_goesOn_83 rfl (lv_at hl 2 rfl) ?_
            refine va_get (C := RX7) (T := TX7) (N := 34) (v := .ref (q 12)) hx hb hts iw7 hown hK hP 0 rfl rfl 11 (Nat.le_of_ble_eq_true rfl) lk25 (fun _ h9 => h9) rfl dX7_goesOn_84 ?_
            refine lv_iload hx hb dX7_goesOn_87 (lv_at hl 6 rfl) ?_
            obtain ⟨hi30, h⟩ := xb_some h
            refine va_iald hx hb hK hP 2 0 rfl rfl hi30 dX7_goesOn_89 ?_
            refine lv_iload_n hx hb dX7_goesOn_90 rfl (lv_at hl 5 rfl) ?_
            refine lv_if_eq (tgt := 99) hx hb dX7_goesOn_91 (by decide) (fun c31 => ?_) (fun c31 => ?_)
            · have h := (if_pos c31).symm.trans h
              refine lv_iload hx hb dX7_goesOn_99 (lv_at hl 0 rfl) ?_
              exact hJ101 v_firsts v_thens v_begins v_changed x1 x2 x3 x4 x5 (r26 + r27) (r28 * (r26 + r27)) (((4 : Int32) * r29) + x2) (v_firsts x4.toNatClampNeg) (r28 * (r26 + r27)) H locs ls h hP hD hS (lv_sub hl [2, 3, 4, 5, 6, 7, 1, 0] rfl)
            · have h := (if_neg c31).symm.trans h
              refine lv_iload hx hb dX7_goesOn_94 (lv_at hl 1 rfl) ?_
              refine lv_goto (tgt := 101) hx hb dX7_goesOn_96 (by decide) ?_
              exact hJ101 v_firsts v_thens v_begins v_changed x1 x2 x3 x4 x5 (r26 + r27) (r28 * (r26 + r27)) (((4 : Int32) * r29) + x2) (v_firsts x4.toNatClampNeg) (r26 + r27) H locs ls h hP hD hS (lv_sub hl [2, 3, 4, 5, 6, 7, 1, 0] rfl)
  have h := hf
  unfold f_X7_goesOn at h
  obtain ⟨H, eH⟩ : ∃ H, H = s.heap := ⟨_, rfl⟩
  rw [← eH] at hP ⊢
  obtain ⟨locs, el⟩ : ∃ locs : List Loc, locs = [] := ⟨_, rfl⟩
  rw [← el] at hS ⊢
  have hS : va_S A s.heap H locs := by rw [eH]; exact hS
  refine lv_iconst (v := 4) hx hb dX7_goesOn_0 (by decide) ?_
  refine lv_iload_n hx hb dX7_goesOn_1 rfl (lv_at hl 1 rfl) ?_
  refine lv_imul hx hb dX7_goesOn_2 ?_
  refine lv_iload_n hx hb dX7_goesOn_3 rfl (lv_at hl 2 rfl) ?_
  refine lv_iadd hx hb dX7_goesOn_4 ?_
  refine lv_istore (lv' := [(4, .int (((4 : Int32) * x1) + x2)), (0, .ref (q 0)), (1, .int x1), (2, .int x2), (3, .int x3)]) hx hb dX7_goesOn_5 hl (by decide) rfl (fun ls hl => ?_)
  refine lv_iconst (v := 0) hx hb dX7_goesOn_7 (by decide) ?_
  refine lv_istore (lv' := [(5, .int (0 : Int32)), (4, .int (((4 : Int32) * x1) + x2)), (0, .ref (q 0)), (1, .int x1), (2, .int x2), (3, .int x3)]) hx hb dX7_goesOn_8 hl (by decide) rfl (fun ls hl => ?_)
  exact hL10 fu v_firsts v_thens v_begins v_changed x1 x2 x3 (((4 : Int32) * x1) + x2) (0 : Int32) H locs ls h hP hD hS (lv_sub hl [2, 3, 4, 5, 1, 0] rfl)
abbrev rm_X7_goes : Room := { frames := 3, cells := 0, slots := 0, locals := 75 }
set_option maxHeartbeats 4000000 in
set_option maxRecDepth 100000 in
theorem k_X7_goes (l : Launch) (D : va_G) (cI cZ cT : ClassId) (q : Nat → Nat) (sz : Nat) (v_size : Int32) (v_at : Int32) (v_begin : Int32) (v_token : Int32) (v_told : Int32) (v_undos : Int32) (v_changed : Int32) (v_felt : Int32) (v_wents : Int32) (v_wish : Int32) (v_trace : Int64) (v_town : Nat → Int32) (v_firsts : Nat → Int32) (v_thens : Nat → Int32) (v_begins : Nat → Int32) (x1 : Int32) (x2 : Int32) (res : R_X7_goes) (fu : Nat) (hf : f_X7_goes fu v_town v_firsts v_thens v_begins v_changed x1 x2 = some res) : Met l yX7_goes wsX7_goes rm_X7_goes (cPre D (tyz cI cZ cT) [.ref (q 0), .int x1, .int x2] sz [oX7 q v_size v_at v_begin v_token v_told v_undos v_changed v_felt v_wents v_wish v_trace, rA (q 8) cI 64 v_town, rA (q 12) cI 28 v_firsts, rA (q 13) cI 28 v_thens, rA (q 14) cI 28 v_begins]) (cPv D (tyz cI cZ cT) (fun (u : (Nat → Int32) × (Nat → Int32) × (Nat → Int32) × Int32) => u = res) (fun u => [oX7 q v_size v_at v_begin v_token v_told v_undos u.2.2.2 v_felt v_wents v_wish v_trace, rA (q 8) cI 64 v_town, rA (q 12) cI 28 u.1, rA (q 13) cI 28 u.2.1, rA (q 14) cI 28 u.2.2.1]) [oX7 q v_size v_at v_begin v_token v_told v_undos v_changed v_felt v_wents v_wish v_trace, rA (q 8) cI 64 v_town, rA (q 12) cI 28 v_firsts, rA (q 13) cI 28 v_thens, rA (q 14) cI 28 v_begins] sz) 0 0 (va_A [oX7 q v_size v_at v_begin v_token v_told v_undos v_changed v_felt v_wents v_wish v_trace, rA (q 8) cI 64 v_town, rA (q 12) cI 28 v_firsts, rA (q 13) cI 28 v_thens, rA (q 14) cI 28 v_begins] sz) := by
  refine vx_meth_v (by decide) rfl (Nat.le_of_ble_eq_true rfl) ?_
  intro p e s m args below meth c A Q hx hb hml hown hts hK hP hD hA hS hret ls hl
  have hown : s.vm.findClass RX7 = some m.cls := hown
  have hl : lv_has ls 5 [(0, .ref (q 0)), (1, .int x1), (2, .int x2)] := hl
  have hFx : CallFix p m c cX7_goes 5 s args wsX7_goes RX7 := ⟨hx, hb, hml, hown, hts⟩
  have lk16 := hts (.fieldLink RX7 16 "FogGuidesModel" "town" "[I") (by decide +kernel)
  have iw7 : ∀ w ∈ u_ws RX7 TX7 34, w ∈ wsX7_goes := by decide +kernel
  have lk25 := hts (.fieldLink RX7 25 "FogGuidesModel" "firsts" "[I") (by decide +kernel)
  have lk236 := hts (.fieldLink RX7 236 "FogGuidesModel" "changed" "Z") (by decide +kernel)
  have lk28 := hts (.fieldLink RX7 28 "FogGuidesModel" "thens" "[I") (by decide +kernel)
  have lk31 := hts (.fieldLink RX7 31 "FogGuidesModel" "begins" "[I") (by decide +kernel)
  have hL82 : ∀ (n82 : Nat), ∀ (v_firsts : (Nat → Int32)) (v_thens : (Nat → Int32)) (v_begins : (Nat → Int32)) (v_changed : Int32) (x2 : Int32) (H : Heap) (locs : List Loc) (ls : Array Slot), f_X7_goes_L82 fu n82 v_town v_firsts v_thens v_begins v_changed x2 = some res → va_P D vwCl [oX7 q v_size v_at v_begin v_token v_told v_undos v_changed v_felt v_wents v_wish v_trace, rA (q 8) cI 64 v_town, rA (q 12) cI 28 v_firsts, rA (q 13) cI 28 v_thens, rA (q 14) cI 28 v_begins] H → va_D A [oX7 q v_size v_at v_begin v_token v_told v_undos v_changed v_felt v_wents v_wish v_trace, rA (q 8) cI 64 v_town, rA (q 12) cI 28 v_firsts, rA (q 13) cI 28 v_thens, rA (q 14) cI 28 v_begins] → va_S A s.heap H locs → lv_has ls 5 [(0, .ref (q 0)), (2, .int x2)] → W p l e rm_X7_goes s m args below meth c H locs 0 0 Q (F0 m 82 ls []) := by
    intro n82
    induction n82 with
    | zero =>
      intro v_firsts v_thens v_begins v_changed x2 H locs ls h hP hD hS hl
      cases (show (none : Option R_X7_goes) = some res from h)
    | succ n82 ih82 =>
      have hL96 : ∀ (n96 : Nat), ∀ (v_firsts : (Nat → Int32)) (v_thens : (Nat → Int32)) (v_begins : (Nat → Int32)) (v_changed : Int32) (x2 : Int32) (x3 : Int32) (H : Heap) (locs : List Loc) (ls : Array Slot), f_X7_goes_L96 fu (f_X7_goes_L82 fu n82) n96 v_town v_firsts v_thens v_begins v_changed x2 x3 = some res → va_P D vwCl [oX7 q v_size v_at v_begin v_token v_told v_undos v_changed v_felt v_wents v_wish v_trace, rA (q 8) cI 64 v_town, rA (q 12) cI 28 v_firsts, rA (q 13) cI 28 v_thens, rA (q 14) cI 28 v_begins] H → va_D A [oX7 q v_size v_at v_begin v_token v_told v_undos v_changed v_felt v_wents v_wish v_trace, rA (q 8) cI 64 v_town, rA (q 12) cI 28 v_firsts, rA (q 13) cI 28 v_thens, rA (q 14) cI 28 v_begins] → va_S A s.heap H locs → lv_has ls 5 [(0, .ref (q 0)), (2, .int x2), (3, .int x3)] → W p l e rm_X7_goes s m args below meth c H locs 0 0 Q (F0 m 96 ls []) := by
        intro n96
        induction n96 with
        | zero =>
          intro v_firsts v_thens v_begins v_changed x2 x3 H locs ls h hP hD hS hl
          cases (show (none : Option R_X7_goes) = some res from h)
        | succ n96 ih96 =>
          have hL109 : ∀ (n109 : Nat), ∀ (v_firsts : (Nat → Int32)) (v_thens : (Nat → Int32)) (v_begins : (Nat → Int32)) (v_changed : Int32) (x2 : Int32) (x3 : Int32) (x4 : Int32) (H : Heap) (locs : List Loc) (ls : Array Slot), f_X7_goes_L109 fu (f_X7_goes_L82 fu n82) (f_X7_goes_L96 fu (f_X7_goes_L82 fu n82) n96) n109 v_town v_firsts v_thens v_begins v_changed x2 x3 x4 = some res → va_P D vwCl [oX7 q v_size v_at v_begin v_token v_told v_undos v_changed v_felt v_wents v_wish v_trace, rA (q 8) cI 64 v_town, rA (q 12) cI 28 v_firsts, rA (q 13) cI 28 v_thens, rA (q 14) cI 28 v_begins] H → va_D A [oX7 q v_size v_at v_begin v_token v_told v_undos v_changed v_felt v_wents v_wish v_trace, rA (q 8) cI 64 v_town, rA (q 12) cI 28 v_firsts, rA (q 13) cI 28 v_thens, rA (q 14) cI 28 v_begins] → va_S A s.heap H locs → lv_has ls 5 [(0, .ref (q 0)), (2, .int x2), (3, .int x3), (4, .int x4)] → W p l e rm_X7_goes s m args below meth c H locs 0 0 Q (F0 m 109 ls []) := by
            intro n109
            induction n109 with
            | zero =>
              intro v_firsts v_thens v_begins v_changed x2 x3 x4 H locs ls h hP hD hS hl
              cases (show (none : Option R_X7_goes) = some res from h)
            | succ n109 ih109 =>
              intro v_firsts v_thens v_begins v_changed x2 x3 x4 H locs ls h hP hD hS hl
              have h : f_X7_goes_L109b fu (f_X7_goes_L82 fu n82) (f_X7_goes_L96 fu (f_X7_goes_L82 fu n82) n96) (f_X7_goes_L109 fu (f_X7_goes_L82 fu n82) (f_X7_goes_L96 fu (f_X7_goes_L82 fu n82) n96) n109) v_town v_firsts v_thens v_begins v_changed x2 x3 x4 = some res := h
              unfold f_X7_goes_L109b at h
              refine lv_iload hx hb dX7_goes_109 (lv_at hl 3 rfl) ?_
              refine lv_aload_n hx hb dX7_goes_111 rfl (lv_at hl 0 rfl) ?_
              refine va_get (C := RX7) (T := TX7) (N := 34) (v := .ref (q 8)) hx hb hts iw7 hown hK hP 0 rfl rfl 7 (Nat.le_of_ble_eq_true rfl) lk16 (fun _ h9 => h9) rfl dX7_goes_112 ?_
              refine lv_iconst (v := 2) hx hb dX7_goes_115 (by decide) ?_
              obtain ⟨hi1, h⟩ := xb_some h
              refine va_iald hx hb hK hP 1 0 rfl rfl hi1 dX7_goes_116 ?_
              refine lv_icmp_ge (tgt := 150) hx hb dX7_goes_117 (by decide) (fun c2 => ?_) (fun c2 => ?_)
              · have h := (if_pos c2).symm.trans h
                refine lv_iinc (v := x3 + 1) (lv' := [(3, .int (x3 + 1)), (0, .ref (q 0)), (2, .int x2), (4, .int x4)]) hx hb dX7_goes_150 hl (k := 2) rfl rfl (by decide) rfl (fun ls hl => ?_)
                refine lv_goto (tgt := 96) hx hb dX7_goes_153 (by decide) ?_
                exact ih96 v_firsts v_thens v_begins v_changed x2 (x3 + 1) H locs ls h hP hD hS (lv_sub hl [1, 2, 0] rfl)
              · have h := (if_neg c2).symm.trans h
                refine lv_aload_n hx hb dX7_goes_120 rfl (lv_at hl 0 rfl) ?_
                refine va_get (C := RX7) (T := TX7) (N := 34) (v := .ref (q 12)) hx hb hts iw7 hown hK hP 0 rfl rfl 11 (Nat.le_of_ble_eq_true rfl) lk25 (fun _ h9 => h9) rfl dX7_goes_121 ?_
                refine lv_iconst (v := 4) hx hb dX7_goes_124 (by decide) ?_
                refine lv_iload_n hx hb dX7_goes_125 rfl (lv_at hl 2 rfl) ?_
                refine lv_imul hx hb dX7_goes_126 ?_
                refine lv_iload hx hb dX7_goes_127 (lv_at hl 3 rfl) ?_
                refine lv_iadd hx hb dX7_goes_129 ?_
                obtain ⟨hi3, h⟩ := xb_some h
                refine va_iald hx hb hK hP 2 0 rfl rfl hi3 dX7_goes_130 ?_
                refine lv_ldc (v := (99999999)) hx hb hown (hts (.constant RX7 240 (99999999)) (by decide +kernel)) dX7_goes_131 ?_
                refine lv_icmp_ge (tgt := 144) hx hb dX7_goes_133 (by decide) (fun c4 => ?_) (fun c4 => ?_)
                · have h := (if_pos c4).symm.trans h
                  refine lv_iinc (v := x4 + 1) (lv' := [(4, .int (x4 + 1)), (0, .ref (q 0)), (2, .int x2), (3, .int x3)]) hx hb dX7_goes_144 hl (k := 3) rfl rfl (by decide) rfl (fun ls hl => ?_)
                  refine lv_goto (tgt := 109) hx hb dX7_goes_147 (by decide) ?_
                  exact ih109 v_firsts v_thens v_begins v_changed x2 x3 (x4 + 1) H locs ls h hP hD hS (lv_sub hl [1, 2, 3, 0] rfl)
                · have h := (if_neg c4).symm.trans h
                  refine lv_aload_n hx hb dX7_goes_136 rfl (lv_at hl 0 rfl) ?_
                  refine lv_iload_n hx hb dX7_goes_137 rfl (lv_at hl 2 rfl) ?_
                  refine lv_iload hx hb dX7_goes_138 (lv_at hl 3 rfl) ?_
                  refine lv_iload_n hx hb dX7_goes_140 rfl (lv_at hl 1 rfl) ?_
                  obtain ⟨r5, hr5, h⟩ := xk_some h
                  refine vx_VV (As := [.int x3, .int x4, .int x2]) (rest := []) (wr := []) (wn := [oX7 q v_size v_at v_begin v_token v_told v_undos r5.2.2.2 v_felt v_wents v_wish v_trace, rA (q 8) cI 64 v_town, rA (q 12) cI 28 r5.1, rA (q 13) cI 28 r5.2.1, rA (q 14) cI 28 r5.2.2.1]) hFx (k_X7_goesOn l D cI cZ cT q H.size v_size v_at v_begin v_token v_told v_undos v_changed v_felt v_wents v_wish v_trace v_town v_firsts v_thens v_begins x3 x4 x2 r5 fu hr5) (cwV 3 hts gX7_goes_X7_goesOn rfl rfl rfl (by decide +kernel) ⟨Nat.le_of_ble_eq_true rfl, Nat.le_of_ble_eq_true rfl⟩) hK hP hD hS hA [0, 1, 2, 3, 4] [] [0, 1, 2, 3, 4] rfl rfl rfl rfl (by decide) rfl rfl 7 0 rfl rfl rfl hl.1 rfl (Nat.le_of_ble_eq_true rfl) dX7_goes_141 ⟨Nat.zero_le _, Nat.zero_le _⟩ (fun H locs hP hD hS => ?_)
                  refine lv_iinc (v := x4 + 1) (lv' := [(4, .int (x4 + 1)), (0, .ref (q 0)), (2, .int x2), (3, .int x3)]) hx hb dX7_goes_144 hl (k := 3) rfl rfl (by decide) rfl (fun ls hl => ?_)
                  refine lv_goto (tgt := 109) hx hb dX7_goes_147 (by decide) ?_
                  exact ih109 r5.1 r5.2.1 r5.2.2.1 r5.2.2.2 x2 x3 (x4 + 1) H locs ls h hP hD hS (lv_sub hl [1, 2, 3, 0] rfl)
          intro v_firsts v_thens v_begins v_changed x2 x3 H locs ls h hP hD hS hl
          have h : f_X7_goes_L96b fu (f_X7_goes_L82 fu n82) (f_X7_goes_L96 fu (f_X7_goes_L82 fu n82) n96) v_town v_firsts v_thens v_begins v_changed x2 x3 = some res := h
          unfold f_X7_goes_L96b at h
          refine lv_iload_n hx hb dX7_goes_96 rfl (lv_at hl 2 rfl) ?_
          refine lv_aload_n hx hb dX7_goes_97 rfl (lv_at hl 0 rfl) ?_
          refine va_get (C := RX7) (T := TX7) (N := 34) (v := .ref (q 8)) hx hb hts iw7 hown hK hP 0 rfl rfl 7 (Nat.le_of_ble_eq_true rfl) lk16 (fun _ h9 => h9) rfl dX7_goes_98 ?_
          refine lv_iconst (v := 0) hx hb dX7_goes_101 (by decide) ?_
          obtain ⟨hi6, h⟩ := xb_some h
          refine va_iald hx hb hK hP 1 0 rfl rfl hi6 dX7_goes_102 ?_
          refine lv_icmp_ge (tgt := 156) hx hb dX7_goes_103 (by decide) (fun c7 => ?_) (fun c7 => ?_)
          · have h := (if_pos c7).symm.trans h
            refine lv_goto (tgt := 82) hx hb dX7_goes_156 (by decide) ?_
            exact ih82 v_firsts v_thens v_begins v_changed x2 H locs ls h hP hD hS (lv_sub hl [0, 1] rfl)
          · have h := (if_neg c7).symm.trans h
            refine lv_iconst (v := 0) hx hb dX7_goes_106 (by decide) ?_
            refine lv_istore (lv' := [(4, .int (0 : Int32)), (0, .ref (q 0)), (2, .int x2), (3, .int x3)]) hx hb dX7_goes_107 hl (by decide) rfl (fun ls hl => ?_)
            exact hL109 fu v_firsts v_thens v_begins v_changed x2 x3 (0 : Int32) H locs ls h hP hD hS (lv_sub hl [1, 2, 3, 0] rfl)
      intro v_firsts v_thens v_begins v_changed x2 H locs ls h hP hD hS hl
      have h : f_X7_goes_L82b fu (f_X7_goes_L82 fu n82) v_town v_firsts v_thens v_begins v_changed x2 = some res := h
      unfold f_X7_goes_L82b at h
      refine lv_aload_n hx hb dX7_goes_82 rfl (lv_at hl 0 rfl) ?_
      refine va_get (C := RX7) (T := TX7) (N := 34) (v := .int v_changed) hx hb hts iw7 hown hK hP 0 rfl rfl 14 (Nat.le_of_ble_eq_true rfl) lk236 (fun _ h9 => h9) rfl dX7_goes_83 ?_
      refine lv_if_eq (tgt := 159) hx hb dX7_goes_86 (by decide) (fun c8 => ?_) (fun c8 => ?_)
      · have h := (if_pos c8).symm.trans h
        exact hret (v_firsts, v_thens, v_begins, v_changed) H locs _ ls (Option.some.inj h) hP hD hS dX7_goes_159
      · have h := (if_neg c8).symm.trans h
        refine lv_aload_n hx hb dX7_goes_89 rfl (lv_at hl 0 rfl) ?_
        refine lv_iconst (v := 0) hx hb dX7_goes_90 (by decide) ?_
        refine va_put (C := RX7) (T := TX7) (N := 34) (v := .int (0 : Int32)) (ty := .boolean) hx hb hts iw7 tyX7 tyX7_ok nmX7 hown hK hP hD hS 0 rfl rfl 14 (Nat.le_of_ble_eq_true rfl) lk236 (fun _ h9 => h9) rfl (by decide +kernel) (by decide +kernel) rfl (Nat.le_of_ble_eq_true rfl) dX7_goes_91 (fun H locs hP hD hS => ?_)
        have hP : va_P D vwCl [oX7 q v_size v_at v_begin v_token v_told v_undos (0 : Int32) v_felt v_wents v_wish v_trace, rA (q 8) cI 64 v_town, rA (q 12) cI 28 v_firsts, rA (q 13) cI 28 v_thens, rA (q 14) cI 28 v_begins] H := hP
        have hD : va_D A [oX7 q v_size v_at v_begin v_token v_told v_undos (0 : Int32) v_felt v_wents v_wish v_trace, rA (q 8) cI 64 v_town, rA (q 12) cI 28 v_firsts, rA (q 13) cI 28 v_thens, rA (q 14) cI 28 v_begins] := hD
        refine lv_iconst (v := 0) hx hb dX7_goes_94 (by decide) ?_
        refine lv_istore_n (lv' := [(3, .int (0 : Int32)), (0, .ref (q 0)), (2, .int x2)]) hx hb dX7_goes_95 rfl hl (by decide) rfl (fun ls hl => ?_)
        exact hL96 fu v_firsts v_thens v_begins (0 : Int32) x2 (0 : Int32) H locs ls h hP hD hS (lv_sub hl [1, 2, 0] rfl)
  have hL40 : ∀ (n40 : Nat), ∀ (v_firsts : (Nat → Int32)) (v_thens : (Nat → Int32)) (v_begins : (Nat → Int32)) (v_changed : Int32) (x1 : Int32) (x2 : Int32) (x3 : Int32) (H : Heap) (locs : List Loc) (ls : Array Slot), f_X7_goes_L40 fu n40 v_town v_firsts v_thens v_begins v_changed x1 x2 x3 = some res → va_P D vwCl [oX7 q v_size v_at v_begin v_token v_told v_undos v_changed v_felt v_wents v_wish v_trace, rA (q 8) cI 64 v_town, rA (q 12) cI 28 v_firsts, rA (q 13) cI 28 v_thens, rA (q 14) cI 28 v_begins] H → va_D A [oX7 q v_size v_at v_begin v_token v_told v_undos v_changed v_felt v_wents v_wish v_trace, rA (q 8) cI 64 v_town, rA (q 12) cI 28 v_firsts, rA (q 13) cI 28 v_thens, rA (q 14) cI 28 v_begins] → va_S A s.heap H locs → lv_has ls 5 [(0, .ref (q 0)), (1, .int x1), (2, .int x2), (3, .int x3)] → W p l e rm_X7_goes s m args below meth c H locs 0 0 Q (F0 m 40 ls []) := by
    intro n40
    induction n40 with
    | zero =>
      intro v_firsts v_thens v_begins v_changed x1 x2 x3 H locs ls h hP hD hS hl
      cases (show (none : Option R_X7_goes) = some res from h)
    | succ n40 ih40 =>
      intro v_firsts v_thens v_begins v_changed x1 x2 x3 H locs ls h hP hD hS hl
      have h : f_X7_goes_L40b fu (f_X7_goes_L40 fu n40) v_town v_firsts v_thens v_begins v_changed x1 x2 x3 = some res := h
      unfold f_X7_goes_L40b at h
      refine lv_iload_n hx hb dX7_goes_40 rfl (lv_at hl 3 rfl) ?_
      refine lv_aload_n hx hb dX7_goes_41 rfl (lv_at hl 0 rfl) ?_
      refine va_get (C := RX7) (T := TX7) (N := 34) (v := .ref (q 8)) hx hb hts iw7 hown hK hP 0 rfl rfl 7 (Nat.le_of_ble_eq_true rfl) lk16 (fun _ h9 => h9) rfl dX7_goes_42 ?_
      refine lv_iconst (v := 2) hx hb dX7_goes_45 (by decide) ?_
      obtain ⟨hi9, h⟩ := xb_some h
      refine va_iald hx hb hK hP 1 0 rfl rfl hi9 dX7_goes_46 ?_
      refine lv_icmp_ge (tgt := 77) hx hb dX7_goes_47 (by decide) (fun c10 => ?_) (fun c10 => ?_)
      · have h := (if_pos c10).symm.trans h
        refine lv_aload_n hx hb dX7_goes_77 rfl (lv_at hl 0 rfl) ?_
        refine lv_iconst (v := 1) hx hb dX7_goes_78 (by decide) ?_
        refine va_put (C := RX7) (T := TX7) (N := 34) (v := .int (1 : Int32)) (ty := .boolean) hx hb hts iw7 tyX7 tyX7_ok nmX7 hown hK hP hD hS 0 rfl rfl 14 (Nat.le_of_ble_eq_true rfl) lk236 (fun _ h9 => h9) rfl (by decide +kernel) (by decide +kernel) rfl (Nat.le_of_ble_eq_true rfl) dX7_goes_79 (fun H locs hP hD hS => ?_)
        have hP : va_P D vwCl [oX7 q v_size v_at v_begin v_token v_told v_undos (1 : Int32) v_felt v_wents v_wish v_trace, rA (q 8) cI 64 v_town, rA (q 12) cI 28 v_firsts, rA (q 13) cI 28 v_thens, rA (q 14) cI 28 v_begins] H := hP
        have hD : va_D A [oX7 q v_size v_at v_begin v_token v_told v_undos (1 : Int32) v_felt v_wents v_wish v_trace, rA (q 8) cI 64 v_town, rA (q 12) cI 28 v_firsts, rA (q 13) cI 28 v_thens, rA (q 14) cI 28 v_begins] := hD
        exact hL82 fu v_firsts v_thens v_begins (1 : Int32) x2 H locs ls h hP hD hS (lv_sub hl [0, 2] rfl)
      · have h := (if_neg c10).symm.trans h
        refine lv_aload_n hx hb dX7_goes_50 rfl (lv_at hl 0 rfl) ?_
        refine lv_iload_n hx hb dX7_goes_51 rfl (lv_at hl 3 rfl) ?_
        refine lv_iload_n hx hb dX7_goes_52 rfl (lv_at hl 1 rfl) ?_
        obtain ⟨r11, hr11, h⟩ := xk_some h
        refine vx_VJ (As := [.int x3, .int x1]) (rest := []) hFx (k_X7_isHis l D cI cZ cT q H.size v_size v_at v_begin v_token v_told v_undos v_changed v_felt v_wents v_wish v_trace v_town x3 x1 r11 hr11) (cwV 2 hts gX7_goes_X7_isHis rfl rfl rfl (by decide +kernel) ⟨Nat.le_of_ble_eq_true rfl, Nat.le_of_ble_eq_true rfl⟩) hK hP hD hS hA [0, 1] rfl rfl 7 0 rfl rfl rfl hl.1 rfl (Nat.le_of_ble_eq_true rfl) dX7_goes_53 ⟨Nat.zero_le _, Nat.zero_le _⟩ (fun H locs hP hS => ?_)
        refine lv_if_eq (tgt := 71) hx hb dX7_goes_56 (by decide) (fun c12 => ?_) (fun c12 => ?_)
        · have h := (if_pos c12).symm.trans h
          refine lv_iinc (v := x3 + 1) (lv' := [(3, .int (x3 + 1)), (0, .ref (q 0)), (1, .int x1), (2, .int x2)]) hx hb dX7_goes_71 hl (k := 3) rfl rfl (by decide) rfl (fun ls hl => ?_)
          refine lv_goto (tgt := 40) hx hb dX7_goes_74 (by decide) ?_
          exact ih40 v_firsts v_thens v_begins v_changed x1 x2 (x3 + 1) H locs ls h hP hD hS (lv_sub hl [1, 2, 3, 0] rfl)
        · have h := (if_neg c12).symm.trans h
          refine lv_aload_n hx hb dX7_goes_59 rfl (lv_at hl 0 rfl) ?_
          refine lv_iconst (v := 4) hx hb dX7_goes_60 (by decide) ?_
          refine lv_iload_n hx hb dX7_goes_61 rfl (lv_at hl 1 rfl) ?_
          refine lv_imul hx hb dX7_goes_62 ?_
          refine lv_iload_n hx hb dX7_goes_63 rfl (lv_at hl 3 rfl) ?_
          refine lv_iadd hx hb dX7_goes_64 ?_
          refine lv_iconst (v := 0) hx hb dX7_goes_65 (by decide) ?_
          refine lv_iconst (v := 0) hx hb dX7_goes_66 (by decide) ?_
          refine lv_iload_n hx hb dX7_goes_67 rfl (lv_at hl 3 rfl) ?_
          obtain ⟨r13, hr13, h⟩ := xk_some h
          refine vx_VV (As := [.int (((4 : Int32) * x1) + x3), .int (0 : Int32), .int (0 : Int32), .int x3]) (rest := []) (wr := [rA (q 8) cI 64 v_town]) (wn := [oX7 q v_size v_at v_begin v_token v_told v_undos r13.2.2.2 v_felt v_wents v_wish v_trace, rA (q 8) cI 64 v_town, rA (q 12) cI 28 r13.1, rA (q 13) cI 28 r13.2.1, rA (q 14) cI 28 r13.2.2.1]) hFx (k_X7_lessens l D cI cZ cT q H.size v_size v_at v_begin v_token v_told v_undos v_changed v_felt v_wents v_wish v_trace v_firsts v_thens v_begins (((4 : Int32) * x1) + x3) (0 : Int32) (0 : Int32) x3 r13 hr13) (cwV 4 hts gX7_goes_X7_lessens rfl rfl rfl (by decide +kernel) ⟨Nat.le_of_ble_eq_true rfl, Nat.le_of_ble_eq_true rfl⟩) hK hP hD hS hA [0, 2, 3, 4] [1] [1, 0, 2, 3, 4] rfl rfl rfl rfl (by decide) rfl rfl 7 0 rfl rfl rfl hl.1 rfl (Nat.le_of_ble_eq_true rfl) dX7_goes_68 ⟨Nat.zero_le _, Nat.zero_le _⟩ (fun H locs hP hD hS => ?_)
          refine lv_iinc (v := x3 + 1) (lv' := [(3, .int (x3 + 1)), (0, .ref (q 0)), (1, .int x1), (2, .int x2)]) hx hb dX7_goes_71 hl (k := 3) rfl rfl (by decide) rfl (fun ls hl => ?_)
          refine lv_goto (tgt := 40) hx hb dX7_goes_74 (by decide) ?_
          exact ih40 r13.1 r13.2.1 r13.2.2.1 r13.2.2.2 x1 x2 (x3 + 1) H locs ls h hP hD hS (lv_sub hl [1, 2, 3, 0] rfl)
  have hL2 : ∀ (n2 : Nat), ∀ (v_firsts : (Nat → Int32)) (v_thens : (Nat → Int32)) (v_begins : (Nat → Int32)) (v_changed : Int32) (x1 : Int32) (x2 : Int32) (x3 : Int32) (H : Heap) (locs : List Loc) (ls : Array Slot), f_X7_goes_L2 fu n2 v_town v_firsts v_thens v_begins v_changed x1 x2 x3 = some res → va_P D vwCl [oX7 q v_size v_at v_begin v_token v_told v_undos v_changed v_felt v_wents v_wish v_trace, rA (q 8) cI 64 v_town, rA (q 12) cI 28 v_firsts, rA (q 13) cI 28 v_thens, rA (q 14) cI 28 v_begins] H → va_D A [oX7 q v_size v_at v_begin v_token v_told v_undos v_changed v_felt v_wents v_wish v_trace, rA (q 8) cI 64 v_town, rA (q 12) cI 28 v_firsts, rA (q 13) cI 28 v_thens, rA (q 14) cI 28 v_begins] → va_S A s.heap H locs → lv_has ls 5 [(0, .ref (q 0)), (1, .int x1), (2, .int x2), (3, .int x3)] → W p l e rm_X7_goes s m args below meth c H locs 0 0 Q (F0 m 2 ls []) := by
    intro n2
    induction n2 with
    | zero =>
      intro v_firsts v_thens v_begins v_changed x1 x2 x3 H locs ls h hP hD hS hl
      cases (show (none : Option R_X7_goes) = some res from h)
    | succ n2 ih2 =>
      intro v_firsts v_thens v_begins v_changed x1 x2 x3 H locs ls h hP hD hS hl
      have h : f_X7_goes_L2b fu (f_X7_goes_L2 fu n2) v_town v_firsts v_thens v_begins v_changed x1 x2 x3 = some res := h
      unfold f_X7_goes_L2b at h
      refine lv_iload_n hx hb dX7_goes_2 rfl (lv_at hl 3 rfl) ?_
      refine lv_bipush (v := 28) hx hb dX7_goes_3 (by decide) ?_
      refine lv_icmp_ge (tgt := 38) hx hb dX7_goes_5 (by decide) (fun c14 => ?_) (fun c14 => ?_)
      · have h := (if_pos c14).symm.trans h
        refine lv_iconst (v := 0) hx hb dX7_goes_38 (by decide) ?_
        refine lv_istore_n (lv' := [(3, .int (0 : Int32)), (0, .ref (q 0)), (1, .int x1), (2, .int x2)]) hx hb dX7_goes_39 rfl hl (by decide) rfl (fun ls hl => ?_)
        exact hL40 fu v_firsts v_thens v_begins v_changed x1 x2 (0 : Int32) H locs ls h hP hD hS (lv_sub hl [1, 2, 3, 0] rfl)
      · have h := (if_neg c14).symm.trans h
        refine lv_aload_n hx hb dX7_goes_8 rfl (lv_at hl 0 rfl) ?_
        refine va_get (C := RX7) (T := TX7) (N := 34) (v := .ref (q 12)) hx hb hts iw7 hown hK hP 0 rfl rfl 11 (Nat.le_of_ble_eq_true rfl) lk25 (fun _ h9 => h9) rfl dX7_goes_9 ?_
        refine lv_iload_n hx hb dX7_goes_12 rfl (lv_at hl 3 rfl) ?_
        refine lv_ldc (v := (99999999)) hx hb hown (hts (.constant RX7 240 (99999999)) (by decide +kernel)) dX7_goes_13 ?_
        obtain ⟨hi15, h⟩ := xb_some h
        refine va_iast hx hb hK hP hD hS 2 0 rfl rfl hi15 dX7_goes_15 (fun H locs hP hD hS => ?_)
        have hP : va_P D vwCl [oX7 q v_size v_at v_begin v_token v_told v_undos v_changed v_felt v_wents v_wish v_trace, rA (q 8) cI 64 v_town, rA (q 12) cI 28 (upd v_firsts x3.toNatClampNeg (99999999 : Int32)), rA (q 13) cI 28 v_thens, rA (q 14) cI 28 v_begins] H := hP
        have hD : va_D A [oX7 q v_size v_at v_begin v_token v_told v_undos v_changed v_felt v_wents v_wish v_trace, rA (q 8) cI 64 v_town, rA (q 12) cI 28 (upd v_firsts x3.toNatClampNeg (99999999 : Int32)), rA (q 13) cI 28 v_thens, rA (q 14) cI 28 v_begins] := hD
        refine lv_aload_n hx hb dX7_goes_16 rfl (lv_at hl 0 rfl) ?_
        refine va_get (C := RX7) (T := TX7) (N := 34) (v := .ref (q 13)) hx hb hts iw7 hown hK hP 0 rfl rfl 12 (Nat.le_of_ble_eq_true rfl) lk28 (fun _ h9 => h9) rfl dX7_goes_17 ?_
        refine lv_iload_n hx hb dX7_goes_20 rfl (lv_at hl 3 rfl) ?_
        refine lv_ldc (v := (99999999)) hx hb hown (hts (.constant RX7 240 (99999999)) (by decide +kernel)) dX7_goes_21 ?_
        obtain ⟨hi16, h⟩ := xb_some h
        refine va_iast hx hb hK hP hD hS 3 0 rfl rfl hi16 dX7_goes_23 (fun H locs hP hD hS => ?_)
        have hP : va_P D vwCl [oX7 q v_size v_at v_begin v_token v_told v_undos v_changed v_felt v_wents v_wish v_trace, rA (q 8) cI 64 v_town, rA (q 12) cI 28 (upd v_firsts x3.toNatClampNeg (99999999 : Int32)), rA (q 13) cI 28 (upd v_thens x3.toNatClampNeg (99999999 : Int32)), rA (q 14) cI 28 v_begins] H := hP
        have hD : va_D A [oX7 q v_size v_at v_begin v_token v_told v_undos v_changed v_felt v_wents v_wish v_trace, rA (q 8) cI 64 v_town, rA (q 12) cI 28 (upd v_firsts x3.toNatClampNeg (99999999 : Int32)), rA (q 13) cI 28 (upd v_thens x3.toNatClampNeg (99999999 : Int32)), rA (q 14) cI 28 v_begins] := hD
        refine lv_aload_n hx hb dX7_goes_24 rfl (lv_at hl 0 rfl) ?_
        refine va_get (C := RX7) (T := TX7) (N := 34) (v := .ref (q 14)) hx hb hts iw7 hown hK hP 0 rfl rfl 13 (Nat.le_of_ble_eq_true rfl) lk31 (fun _ h9 => h9) rfl dX7_goes_25 ?_
        refine lv_iload_n hx hb dX7_goes_28 rfl (lv_at hl 3 rfl) ?_
        refine lv_ldc (v := (99999999)) hx hb hown (hts (.constant RX7 240 (99999999)) (by decide +kernel)) dX7_goes_29 ?_
        obtain ⟨hi17, h⟩ := xb_some h
        refine va_iast hx hb hK hP hD hS 4 0 rfl rfl hi17 dX7_goes_31 (fun H locs hP hD hS => ?_)
        have hP : va_P D vwCl [oX7 q v_size v_at v_begin v_token v_told v_undos v_changed v_felt v_wents v_wish v_trace, rA (q 8) cI 64 v_town, rA (q 12) cI 28 (upd v_firsts x3.toNatClampNeg (99999999 : Int32)), rA (q 13) cI 28 (upd v_thens x3.toNatClampNeg (99999999 : Int32)), rA (q 14) cI 28 (upd v_begins x3.toNatClampNeg (99999999 : Int32))] H := hP
        have hD : va_D A [oX7 q v_size v_at v_begin v_token v_told v_undos v_changed v_felt v_wents v_wish v_trace, rA (q 8) cI 64 v_town, rA (q 12) cI 28 (upd v_firsts x3.toNatClampNeg (99999999 : Int32)), rA (q 13) cI 28 (upd v_thens x3.toNatClampNeg (99999999 : Int32)), rA (q 14) cI 28 (upd v_begins x3.toNatClampNeg (99999999 : Int32))] := hD
        refine lv_iinc (v := x3 + 1) (lv' := [(3, .int (x3 + 1)), (0, .ref (q 0)), (1, .int x1), (2, .int x2)]) hx hb dX7_goes_32 hl (k := 3) rfl rfl (by decide) rfl (fun ls hl => ?_)
        refine lv_goto (tgt := 2) hx hb dX7_goes_35 (by decide) ?_
        exact ih2 (upd v_firsts x3.toNatClampNeg (99999999 : Int32)) (upd v_thens x3.toNatClampNeg (99999999 : Int32)) (upd v_begins x3.toNatClampNeg (99999999 : Int32)) v_changed x1 x2 (x3 + 1) H locs ls h hP hD hS (lv_sub hl [1, 2, 3, 0] rfl)
  have h := hf
  unfold f_X7_goes at h
  obtain ⟨H, eH⟩ : ∃ H, H = s.heap := ⟨_, rfl⟩
  rw [← eH] at hP ⊢
  obtain ⟨locs, el⟩ : ∃ locs : List Loc, locs = [] := ⟨_, rfl⟩
  rw [← el] at hS ⊢
  have hS : va_S A s.heap H locs := by rw [eH]; exact hS
  refine lv_iconst (v := 0) hx hb dX7_goes_0 (by decide) ?_
  refine lv_istore_n (lv' := [(3, .int (0 : Int32)), (0, .ref (q 0)), (1, .int x1), (2, .int x2)]) hx hb dX7_goes_1 rfl hl (by decide) rfl (fun ls hl => ?_)
  exact hL2 fu v_firsts v_thens v_begins v_changed x1 x2 (0 : Int32) H locs ls h hP hD hS (lv_sub hl [1, 2, 3, 0] rfl)
