abbrev R_X7_isLess : Type := Int32
def f_X7_isLess (v_firsts : (Nat → Int32)) (v_thens : (Nat → Int32)) (v_begins : (Nat → Int32)) (x1 : Int32) (x2 : Int32) (x3 : Int32) (x4 : Int32) : Option R_X7_isLess := xb x4 28 (if x1 < (v_firsts x4.toNatClampNeg) then (some (1 : Int32)) else (xb x4 28 (if x1 = (v_firsts x4.toNatClampNeg) then (xb x4 28 (if x2 < (v_thens x4.toNatClampNeg) then (some (1 : Int32)) else (xb x4 28 (if x2 = (v_thens x4.toNatClampNeg) then (xb x4 28 (if (v_begins x4.toNatClampNeg) ≤ x3 then (some (0 : Int32)) else (some (1 : Int32)))) else (some (0 : Int32)))))) else (some (0 : Int32)))))
abbrev rm_X7_isLess : Room := { frames := 0, cells := 0, slots := 0, locals := 0 }
set_option maxHeartbeats 4000000 in
set_option maxRecDepth 100000 in
theorem k_X7_isLess (l : Launch) (D : va_G) (cI cZ cT : ClassId) (q : Nat → Nat) (sz : Nat) (v_size : Int32) (v_at : Int32) (v_begin : Int32) (v_token : Int32) (v_told : Int32) (v_undos : Int32) (v_changed : Int32) (v_felt : Int32) (v_wents : Int32) (v_wish : Int32) (v_trace : Int64) (v_firsts : Nat → Int32) (v_thens : Nat → Int32) (v_begins : Nat → Int32) (x1 : Int32) (x2 : Int32) (x3 : Int32) (x4 : Int32) (res : R_X7_isLess) (hf : f_X7_isLess v_firsts v_thens v_begins x1 x2 x3 x4 = some res) : Met l yX7_isLess wsX7_isLess rm_X7_isLess (cPre D (tyz cI cZ cT) [.ref (q 0), .int x1, .int x2, .int x3, .int x4] sz [oX7 q v_size v_at v_begin v_token v_told v_undos v_changed v_felt v_wents v_wish v_trace, rA (q 12) cI 28 v_firsts, rA (q 13) cI 28 v_thens, rA (q 14) cI 28 v_begins]) (cPi D (tyz cI cZ cT) (fun (r : Int32) (_ : Unit) => r = res) (fun _ => [oX7 q v_size v_at v_begin v_token v_told v_undos v_changed v_felt v_wents v_wish v_trace, rA (q 12) cI 28 v_firsts, rA (q 13) cI 28 v_thens, rA (q 14) cI 28 v_begins]) [oX7 q v_size v_at v_begin v_token v_told v_undos v_changed v_felt v_wents v_wish v_trace, rA (q 12) cI 28 v_firsts, rA (q 13) cI 28 v_thens, rA (q 14) cI 28 v_begins] sz) 0 0 (va_A [oX7 q v_size v_at v_begin v_token v_told v_undos v_changed v_felt v_wents v_wish v_trace, rA (q 12) cI 28 v_firsts, rA (q 13) cI 28 v_thens, rA (q 14) cI 28 v_begins] sz) := by
  refine vx_meth_z (by decide) rfl (Nat.le_of_ble_eq_true rfl) ?_
  intro p e s m args below meth c A Q hx hb hml hown hts hK hP hD hA hS hret ls hl
  have hown : s.vm.findClass RX7 = some m.cls := hown
  have hl : lv_has ls 5 [(0, .ref (q 0)), (1, .int x1), (2, .int x2), (3, .int x3), (4, .int x4)] := hl
  have hFx : CallFix p m c cX7_isLess 5 s args wsX7_isLess RX7 := ⟨hx, hb, hml, hown, hts⟩
  have lk25 := hts (.fieldLink RX7 25 "FogGuidesModel" "firsts" "[I") (by decide +kernel)
  have iw7 : ∀ w ∈ u_ws RX7 TX7 34, w ∈ wsX7_isLess := by decide +kernel
  have lk28 := hts (.fieldLink RX7 28 "FogGuidesModel" "thens" "[I") (by decide +kernel)
  have lk31 := hts (.fieldLink RX7 31 "FogGuidesModel" "begins" "[I") (by decide +kernel)
  have h := hf
  unfold f_X7_isLess at h
  obtain ⟨H, eH⟩ : ∃ H, H = s.heap := ⟨_, rfl⟩
  rw [← eH] at hP ⊢
  obtain ⟨locs, el⟩ : ∃ locs : List Loc, locs = [] := ⟨_, rfl⟩
  rw [← el] at hS ⊢
  have hS : va_S A s.heap H locs := by rw [eH]; exact hS
  refine lv_iload_n hx hb dX7_isLess_0 rfl (lv_at hl 1 rfl) ?_
  refine lv_aload_n hx hb dX7_isLess_1 rfl (lv_at hl 0 rfl) ?_
  refine va_get (C := RX7) (T := TX7) (N := 34) (v := .ref (q 12)) hx hb hts iw7 hown hK hP 0 rfl rfl 11 (Nat.le_of_ble_eq_true rfl) lk25 (fun _ h9 => h9) rfl dX7_isLess_2 ?_
  refine lv_iload hx hb dX7_isLess_5 (lv_at hl 4 rfl) ?_
  obtain ⟨hi1, h⟩ := xb_some h
  refine va_iald hx hb hK hP 1 0 rfl rfl hi1 dX7_isLess_7 ?_
  refine lv_icmp_lt (tgt := 55) hx hb dX7_isLess_8 (by decide) (fun c2 => ?_) (fun c2 => ?_)
  · have h := (if_pos c2).symm.trans h
    refine lv_iconst (v := 1) hx hb dX7_isLess_55 (by decide) ?_
    refine lv_goto (tgt := 60) hx hb dX7_isLess_56 (by decide) ?_
    exact hret (1 : Int32) () H locs _ ls (Or.inr rfl) (Option.some.inj h) hP hD hS dX7_isLess_60
  · have h := (if_neg c2).symm.trans h
    refine lv_iload_n hx hb dX7_isLess_11 rfl (lv_at hl 1 rfl) ?_
    refine lv_aload_n hx hb dX7_isLess_12 rfl (lv_at hl 0 rfl) ?_
    refine va_get (C := RX7) (T := TX7) (N := 34) (v := .ref (q 12)) hx hb hts iw7 hown hK hP 0 rfl rfl 11 (Nat.le_of_ble_eq_true rfl) lk25 (fun _ h9 => h9) rfl dX7_isLess_13 ?_
    refine lv_iload hx hb dX7_isLess_16 (lv_at hl 4 rfl) ?_
    obtain ⟨hi3, h⟩ := xb_some h
    refine va_iald hx hb hK hP 1 0 rfl rfl hi3 dX7_isLess_18 ?_
    refine lv_icmp_ne (tgt := 59) hx hb dX7_isLess_19 (by decide) (fun c4 => ?_) (fun c4 => ?_)
    · have h := (if_neg c4).symm.trans h
      refine lv_iconst (v := 0) hx hb dX7_isLess_59 (by decide) ?_
      exact hret (0 : Int32) () H locs _ ls (Or.inl rfl) (Option.some.inj h) hP hD hS dX7_isLess_60
    · have h := (if_pos c4).symm.trans h
      refine lv_iload_n hx hb dX7_isLess_22 rfl (lv_at hl 2 rfl) ?_
      refine lv_aload_n hx hb dX7_isLess_23 rfl (lv_at hl 0 rfl) ?_
      refine va_get (C := RX7) (T := TX7) (N := 34) (v := .ref (q 13)) hx hb hts iw7 hown hK hP 0 rfl rfl 12 (Nat.le_of_ble_eq_true rfl) lk28 (fun _ h9 => h9) rfl dX7_isLess_24 ?_
      refine lv_iload hx hb dX7_isLess_27 (lv_at hl 4 rfl) ?_
      obtain ⟨hi5, h⟩ := xb_some h
      refine va_iald hx hb hK hP 2 0 rfl rfl hi5 dX7_isLess_29 ?_
      refine lv_icmp_lt (tgt := 55) hx hb dX7_isLess_30 (by decide) (fun c6 => ?_) (fun c6 => ?_)
      · have h := (if_pos c6).symm.trans h
        refine lv_iconst (v := 1) hx hb dX7_isLess_55 (by decide) ?_
        refine lv_goto (tgt := 60) hx hb dX7_isLess_56 (by decide) ?_
        exact hret (1 : Int32) () H locs _ ls (Or.inr rfl) (Option.some.inj h) hP hD hS dX7_isLess_60
      · have h := (if_neg c6).symm.trans h
        refine lv_iload_n hx hb dX7_isLess_33 rfl (lv_at hl 2 rfl) ?_
        refine lv_aload_n hx hb dX7_isLess_34 rfl (lv_at hl 0 rfl) ?_
        refine va_get (C := RX7) (T := TX7) (N := 34) (v := .ref (q 13)) hx hb hts iw7 hown hK hP 0 rfl rfl 12 (Nat.le_of_ble_eq_true rfl) lk28 (fun _ h9 => h9) rfl dX7_isLess_35 ?_
        refine lv_iload hx hb dX7_isLess_38 (lv_at hl 4 rfl) ?_
        obtain ⟨hi7, h⟩ := xb_some h
        refine va_iald hx hb hK hP 2 0 rfl rfl hi7 dX7_isLess_40 ?_
        refine lv_icmp_ne (tgt := 59) hx hb dX7_isLess_41 (by decide) (fun c8 => ?_) (fun c8 => ?_)
        · have h := (if_neg c8).symm.trans h
          refine lv_iconst (v := 0) hx hb dX7_isLess_59 (by decide) ?_
          exact hret (0 : Int32) () H locs _ ls (Or.inl rfl) (Option.some.inj h) hP hD hS dX7_isLess_60
        · have h := (if_pos c8).symm.trans h
          refine lv_iload_n hx hb dX7_isLess_44 rfl (lv_at hl 3 rfl) ?_
          refine lv_aload_n hx hb dX7_isLess_45 rfl (lv_at hl 0 rfl) ?_
          refine va_get (C := RX7) (T := TX7) (N := 34) (v := .ref (q 14)) hx hb hts iw7 hown hK hP 0 rfl rfl 13 (Nat.le_of_ble_eq_true rfl) lk31 (fun _ h9 => h9) rfl dX7_isLess_46 ?_
          refine lv_iload hx hb dX7_isLess_49 (lv_at hl 4 rfl) ?_
          obtain ⟨hi9, h⟩ := xb_some h
          refine va_iald hx hb hK hP 3 0 rfl rfl hi9 dX7_isLess_51 ?_
          refine lv_icmp_ge (tgt := 59) hx hb dX7_isLess_52 (by decide) (fun c10 => ?_) (fun c10 => ?_)
          · have h := (if_pos c10).symm.trans h
            refine lv_iconst (v := 0) hx hb dX7_isLess_59 (by decide) ?_
            exact hret (0 : Int32) () H locs _ ls (Or.inl rfl) (Option.some.inj h) hP hD hS dX7_isLess_60
          · have h := (if_neg c10).symm.trans h
            refine lv_iconst (v := 1) hx hb dX7_isLess_55 (by decide) ?_
            refine lv_goto (tgt := 60) hx hb dX7_isLess_56 (by decide) ?_
            exact hret (1 : Int32) () H locs _ ls (Or.inr rfl) (Option.some.inj h) hP hD hS dX7_isLess_60
abbrev R_X7_in : Type := Int32
def f_X7_in (x0 : Int64) (x2 : Int64) (x4 : Int64) : Option R_X7_in := if (lg_cmp x0 x2) < (0 : Int32) then (some (0 : Int32)) else (if (0 : Int32) < (lg_cmp x0 x4) then (some (0 : Int32)) else (some (1 : Int32)))
abbrev rm_X7_in : Room := { frames := 0, cells := 0, slots := 0, locals := 0 }
set_option maxHeartbeats 4000000 in
set_option maxRecDepth 100000 in
theorem k_X7_in (l : Launch) (D : va_G) (cI cZ cT : ClassId) (sz : Nat) (x0 : Int64) (x2 : Int64) (x4 : Int64) (res : R_X7_in) (hf : f_X7_in x0 x2 x4 = some res) : Met l yX7_in wsX7_in rm_X7_in (cPre D (tyz cI cZ cT) [.long x0, .long x2, .long x4] sz []) (cPi D (tyz cI cZ cT) (fun (r : Int32) (_ : Unit) => r = res) (fun _ => []) [] sz) 0 0 (va_A [] sz) := by
  refine vx_meth_z (by decide) rfl (Nat.le_of_ble_eq_true rfl) ?_
  intro p e s m args below meth c A Q hx hb hml hown hts hK hP hD hA hS hret ls hl
  have hown : s.vm.findClass RX7 = some m.cls := hown
  have hl : lv_has ls 6 [(0, .long x0), (2, .long x2), (4, .long x4)] := hl
  have hFx : CallFix p m c cX7_in 6 s args wsX7_in RX7 := ⟨hx, hb, hml, hown, hts⟩
  have h := hf
  unfold f_X7_in at h
  obtain ⟨H, eH⟩ : ∃ H, H = s.heap := ⟨_, rfl⟩
  rw [← eH] at hP ⊢
  obtain ⟨locs, el⟩ : ∃ locs : List Loc, locs = [] := ⟨_, rfl⟩
  rw [← el] at hS ⊢
  have hS : va_S A s.heap H locs := by rw [eH]; exact hS
  refine lv_lload_n hx hb dX7_in_0 rfl (lv_at hl 0 rfl) ?_
  refine lv_lload_n hx hb dX7_in_1 rfl (lv_at hl 1 rfl) ?_
  refine W.lcmp hx hb dX7_in_2 ?_
  refine lv_if_lt (tgt := 17) hx hb dX7_in_3 (by decide) (fun c1 => ?_) (fun c1 => ?_)
  · have h := (if_pos c1).symm.trans h
    refine lv_iconst (v := 0) hx hb dX7_in_17 (by decide) ?_
    exact hret (0 : Int32) () H locs _ ls (Or.inl rfl) (Option.some.inj h) hP hD hS dX7_in_18
  · have h := (if_neg c1).symm.trans h
    refine lv_lload_n hx hb dX7_in_6 rfl (lv_at hl 0 rfl) ?_
    refine lv_lload hx hb dX7_in_7 (lv_at hl 2 rfl) ?_
    refine W.lcmp hx hb dX7_in_9 ?_
    refine lv_if_gt (tgt := 17) hx hb dX7_in_10 (by decide) (fun c2 => ?_) (fun c2 => ?_)
    · have h := (if_pos c2).symm.trans h
      refine lv_iconst (v := 0) hx hb dX7_in_17 (by decide) ?_
      exact hret (0 : Int32) () H locs _ ls (Or.inl rfl) (Option.some.inj h) hP hD hS dX7_in_18
    · have h := (if_neg c2).symm.trans h
      refine lv_iconst (v := 1) hx hb dX7_in_13 (by decide) ?_
      refine lv_goto (tgt := 18) hx hb dX7_in_14 (by decide) ?_
      exact hret (1 : Int32) () H locs _ ls (Or.inr rfl) (Option.some.inj h) hP hD hS dX7_in_18
abbrev R_X7_type : Type := Int32 × (Nat → Int32) × Int32
def f_X7_type (v_text : (Nat → Int32)) (v_size : Int32) (x1 : Int32) : Option R_X7_type := (f_X7_in x1.toInt64 (0 : Int64) (255 : Int64)).bind (fun r1 => if r1 = (0 : Int32) then (some ((-1 : Int32), v_text, v_size)) else (if v_size = (200 : Int32) then (some ((-3 : Int32), v_text, v_size)) else (xb v_size 200 (some (v_size + (1 : Int32), upd v_text v_size.toNatClampNeg x1, v_size + (1 : Int32))))))
abbrev rm_X7_type : Room := { frames := 1, cells := 0, slots := 0, locals := 25 }
set_option maxHeartbeats 4000000 in
set_option maxRecDepth 100000 in
theorem k_X7_type (l : Launch) (D : va_G) (cI cZ cT : ClassId) (q : Nat → Nat) (sz : Nat) (v_size : Int32) (v_at : Int32) (v_begin : Int32) (v_token : Int32) (v_told : Int32) (v_undos : Int32) (v_changed : Int32) (v_felt : Int32) (v_wents : Int32) (v_wish : Int32) (v_trace : Int64) (v_text : Nat → Int32) (x1 : Int32) (res : R_X7_type) (hf : f_X7_type v_text v_size x1 = some res) : Met l yX7_type wsX7_type rm_X7_type (cPre D (tyz cI cZ cT) [.ref (q 0), .int x1] sz [oX7 q v_size v_at v_begin v_token v_told v_undos v_changed v_felt v_wents v_wish v_trace, rA (q 1) cI 200 v_text]) (cPi D (tyz cI cZ cT) (fun (r : Int32) (u : (Nat → Int32) × Int32) => (r, u) = res) (fun u => [oX7 q u.2 v_at v_begin v_token v_told v_undos v_changed v_felt v_wents v_wish v_trace, rA (q 1) cI 200 u.1]) [oX7 q v_size v_at v_begin v_token v_told v_undos v_changed v_felt v_wents v_wish v_trace, rA (q 1) cI 200 v_text] sz) 0 0 (va_A [oX7 q v_size v_at v_begin v_token v_told v_undos v_changed v_felt v_wents v_wish v_trace, rA (q 1) cI 200 v_text] sz) := by
  refine vx_meth_i (by decide) rfl (Nat.le_of_ble_eq_true rfl) ?_
  intro p e s m args below meth c A Q hx hb hml hown hts hK hP hD hA hS hret ls hl
  have hown : s.vm.findClass RX7 = some m.cls := hown
  have hl : lv_has ls 2 [(0, .ref (q 0)), (1, .int x1)] := hl
  have hFx : CallFix p m c cX7_type 2 s args wsX7_type RX7 := ⟨hx, hb, hml, hown, hts⟩
  have lk91 := hts (.fieldLink RX7 91 "FogGuidesModel" "size" "I") (by decide +kernel)
  have iw7 : ∀ w ∈ u_ws RX7 TX7 34, w ∈ wsX7_type := by decide +kernel
  have lk7 := hts (.fieldLink RX7 7 "FogGuidesModel" "text" "[I") (by decide +kernel)
  have h := hf
  unfold f_X7_type at h
  obtain ⟨H, eH⟩ : ∃ H, H = s.heap := ⟨_, rfl⟩
  rw [← eH] at hP ⊢
  obtain ⟨locs, el⟩ : ∃ locs : List Loc, locs = [] := ⟨_, rfl⟩
  rw [← el] at hS ⊢
  have hS : va_S A s.heap H locs := by rw [eH]; exact hS
  refine lv_iload_n hx hb dX7_type_0 rfl (lv_at hl 1 rfl) ?_
  refine lv_i2l hx hb dX7_type_1 rfl ?_
  refine lv_lconst (v := 0) hx hb dX7_type_2 (by decide) ?_
  refine lv_ldc2 (v := (255)) hx hb hown (hts (.constantLong RX7 85 (255)) (by decide +kernel)) dX7_type_3 ?_
  obtain ⟨r1, hr1, h⟩ := xk_some h
  refine vx_SJ (As := [.long x1.toInt64, .long (0 : Int64), .long (255 : Int64)]) (rest := []) hFx (k_X7_in l D cI cZ cT H.size x1.toInt64 (0 : Int64) (255 : Int64) r1 hr1) (vx_cwS 3 hts gX7_type_X7_in rfl rfl rfl (by decide +kernel) ⟨Nat.le_of_ble_eq_true rfl, Nat.le_of_ble_eq_true rfl⟩) hK hP hD hS hA rfl hl.1 rfl (Nat.le_of_ble_eq_true rfl) dX7_type_6 ⟨Nat.zero_le _, Nat.zero_le _⟩ (fun H locs hP hS => ?_)
  refine lv_if_ne (tgt := 14) hx hb dX7_type_9 (by decide) (fun c2 => ?_) (fun c2 => ?_)
  · have h := (if_neg c2).symm.trans h
    refine lv_aload_n hx hb dX7_type_14 rfl (lv_at hl 0 rfl) ?_
    refine va_get (C := RX7) (T := TX7) (N := 34) (v := .int v_size) hx hb hts iw7 hown hK hP 0 rfl rfl 1 (Nat.le_of_ble_eq_true rfl) lk91 (fun _ h9 => h9) rfl dX7_type_15 ?_
    refine lv_sipush (v := 200) hx hb dX7_type_18 (by decide) ?_
    refine lv_icmp_ne (tgt := 27) hx hb dX7_type_21 (by decide) (fun c3 => ?_) (fun c3 => ?_)
    · have h := (if_neg c3).symm.trans h
      refine lv_aload_n hx hb dX7_type_27 rfl (lv_at hl 0 rfl) ?_
      refine va_get (C := RX7) (T := TX7) (N := 34) (v := .ref (q 1)) hx hb hts iw7 hown hK hP 0 rfl rfl 0 (Nat.le_of_ble_eq_true rfl) lk7 (fun _ h9 => h9) rfl dX7_type_28 ?_
      refine lv_aload_n hx hb dX7_type_31 rfl (lv_at hl 0 rfl) ?_
      refine va_get (C := RX7) (T := TX7) (N := 34) (v := .int v_size) hx hb hts iw7 hown hK hP 0 rfl rfl 1 (Nat.le_of_ble_eq_true rfl) lk91 (fun _ h9 => h9) rfl dX7_type_32 ?_
      refine lv_iload_n hx hb dX7_type_35 rfl (lv_at hl 1 rfl) ?_
      obtain ⟨hi4, h⟩ := xb_some h
      refine va_iast hx hb hK hP hD hS 1 0 rfl rfl hi4 dX7_type_36 (fun H locs hP hD hS => ?_)
      have hP : va_P D vwCl [oX7 q v_size v_at v_begin v_token v_told v_undos v_changed v_felt v_wents v_wish v_trace, rA (q 1) cI 200 (upd v_text v_size.toNatClampNeg x1)] H := hP
      have hD : va_D A [oX7 q v_size v_at v_begin v_token v_told v_undos v_changed v_felt v_wents v_wish v_trace, rA (q 1) cI 200 (upd v_text v_size.toNatClampNeg x1)] := hD
      refine lv_aload_n hx hb dX7_type_37 rfl (lv_at hl 0 rfl) ?_
      refine lv_dup hx hb dX7_type_38 rfl ?_
      refine va_get (C := RX7) (T := TX7) (N := 34) (v := .int v_size) hx hb hts iw7 hown hK hP 0 rfl rfl 1 (Nat.le_of_ble_eq_true rfl) lk91 (fun _ h9 => h9) rfl dX7_type_39 ?_
      refine lv_iconst (v := 1) hx hb dX7_type_42 (by decide) ?_
      refine lv_iadd hx hb dX7_type_43 ?_
      refine va_put (C := RX7) (T := TX7) (N := 34) (v := .int (v_size + (1 : Int32))) (ty := .int) hx hb hts iw7 tyX7 tyX7_ok nmX7 hown hK hP hD hS 0 rfl rfl 1 (Nat.le_of_ble_eq_true rfl) lk91 (fun _ h9 => h9) rfl (by decide +kernel) rfl rfl (Nat.le_of_ble_eq_true rfl) dX7_type_44 (fun H locs hP hD hS => ?_)
      have hP : va_P D vwCl [oX7 q (v_size + (1 : Int32)) v_at v_begin v_token v_told v_undos v_changed v_felt v_wents v_wish v_trace, rA (q 1) cI 200 (upd v_text v_size.toNatClampNeg x1)] H := hP
      have hD : va_D A [oX7 q (v_size + (1 : Int32)) v_at v_begin v_token v_told v_undos v_changed v_felt v_wents v_wish v_trace, rA (q 1) cI 200 (upd v_text v_size.toNatClampNeg x1)] := hD
      refine lv_aload_n hx hb dX7_type_47 rfl (lv_at hl 0 rfl) ?_
      refine va_get (C := RX7) (T := TX7) (N := 34) (v := .int (v_size + (1 : Int32))) hx hb hts iw7 hown hK hP 0 rfl rfl 1 (Nat.le_of_ble_eq_true rfl) lk91 (fun _ h9 => h9) rfl dX7_type_48 ?_
      exact hret (v_size + (1 : Int32)) ((upd v_text v_size.toNatClampNeg x1, v_size + (1 : Int32))) H locs _ ls (Option.some.inj h) hP hD hS dX7_type_51
    · have h := (if_pos c3).symm.trans h
      refine lv_bipush (v := (-3)) hx hb dX7_type_24 (by decide) ?_
      exact hret (-3 : Int32) (v_text, v_size) H locs _ ls (Option.some.inj h) hP hD hS dX7_type_26
  · have h := (if_pos c2).symm.trans h
    refine lv_iconst (v := (-1)) hx hb dX7_type_12 (by decide) ?_
    exact hret (-1 : Int32) (v_text, v_size) H locs _ ls (Option.some.inj h) hP hD hS dX7_type_13
abbrev R_X7_lessens : Type := (Nat → Int32) × (Nat → Int32) × (Nat → Int32) × Int32
def f_X7_lessens (v_firsts : (Nat → Int32)) (v_thens : (Nat → Int32)) (v_begins : (Nat → Int32)) (v_changed : Int32) (x1 : Int32) (x2 : Int32) (x3 : Int32) (x4 : Int32) : Option R_X7_lessens := (f_X7_isLess v_firsts v_thens v_begins x2 x3 x4 x1).bind (fun r1 => if r1 = (0 : Int32) then (some (v_firsts, v_thens, v_begins, v_changed)) else (xb x1 28 (xb x1 28 (xb x1 28 (some ((upd v_firsts x1.toNatClampNeg x2, upd v_thens x1.toNatClampNeg x3, upd v_begins x1.toNatClampNeg x4, (1 : Int32))))))))
abbrev rm_X7_lessens : Room := { frames := 1, cells := 0, slots := 0, locals := 24 }
set_option maxHeartbeats 4000000 in
set_option maxRecDepth 100000 in
theorem k_X7_lessens (l : Launch) (D : va_G) (cI cZ cT : ClassId) (q : Nat → Nat) (sz : Nat) (v_size : Int32) (v_at : Int32) (v_begin : Int32) (v_token : Int32) (v_told : Int32) (v_undos : Int32) (v_changed : Int32) (v_felt : Int32) (v_wents : Int32) (v_wish : Int32) (v_trace : Int64) (v_firsts : Nat → Int32) (v_thens : Nat → Int32) (v_begins : Nat → Int32) (x1 : Int32) (x2 : Int32) (x3 : Int32) (x4 : Int32) (res : R_X7_lessens) (hf : f_X7_lessens v_firsts v_thens v_begins v_changed x1 x2 x3 x4 = some res) : Met l yX7_lessens wsX7_lessens rm_X7_lessens (cPre D (tyz cI cZ cT) [.ref (q 0), .int x1, .int x2, .int x3, .int x4] sz [oX7 q v_size v_at v_begin v_token v_told v_undos v_changed v_felt v_wents v_wish v_trace, rA (q 12) cI 28 v_firsts, rA (q 13) cI 28 v_thens, rA (q 14) cI 28 v_begins]) (cPv D (tyz cI cZ cT) (fun (u : (Nat → Int32) × (Nat → Int32) × (Nat → Int32) × Int32) => u = res) (fun u => [oX7 q v_size v_at v_begin v_token v_told v_undos u.2.2.2 v_felt v_wents v_wish v_trace, rA (q 12) cI 28 u.1, rA (q 13) cI 28 u.2.1, rA (q 14) cI 28 u.2.2.1]) [oX7 q v_size v_at v_begin v_token v_told v_undos v_changed v_felt v_wents v_wish v_trace, rA (q 12) cI 28 v_firsts, rA (q 13) cI 28 v_thens, rA (q 14) cI 28 v_begins] sz) 0 0 (va_A [oX7 q v_size v_at v_begin v_token v_told v_undos v_changed v_felt v_wents v_wish v_trace, rA (q 12) cI 28 v_firsts, rA (q 13) cI 28 v_thens, rA (q 14) cI 28 v_begins] sz) := by
  refine vx_meth_v (by decide) rfl (Nat.le_of_ble_eq_true rfl) ?_
  intro p e s m args below meth c A Q hx hb hml hown hts hK hP hD hA hS hret ls hl
  have hown : s.vm.findClass RX7 = some m.cls := hown
  have hl : lv_has ls 5 [(0, .ref (q 0)), (1, .int x1), (2, .int x2), (3, .int x3), (4, .int x4)] := hl
  have hFx : CallFix p m c cX7_lessens 5 s args wsX7_lessens RX7 := ⟨hx, hb, hml, hown, hts⟩
  have lk25 := hts (.fieldLink RX7 25 "FogGuidesModel" "firsts" "[I") (by decide +kernel)
  have iw7 : ∀ w ∈ u_ws RX7 TX7 34, w ∈ wsX7_lessens := by decide +kernel
  have lk28 := hts (.fieldLink RX7 28 "FogGuidesModel" "thens" "[I") (by decide +kernel)
  have lk31 := hts (.fieldLink RX7 31 "FogGuidesModel" "begins" "[I") (by decide +kernel)
  have lk236 := hts (.fieldLink RX7 236 "FogGuidesModel" "changed" "Z") (by decide +kernel)
  have h := hf
  unfold f_X7_lessens at h
  obtain ⟨H, eH⟩ : ∃ H, H = s.heap := ⟨_, rfl⟩
  rw [← eH] at hP ⊢
  obtain ⟨locs, el⟩ : ∃ locs : List Loc, locs = [] := ⟨_, rfl⟩
  rw [← el] at hS ⊢
  have hS : va_S A s.heap H locs := by rw [eH]; exact hS
  refine lv_aload_n hx hb dX7_lessens_0 rfl (lv_at hl 0 rfl) ?_
  refine lv_iload_n hx hb dX7_lessens_1 rfl (lv_at hl 2 rfl) ?_
  refine lv_iload_n hx hb dX7_lessens_2 rfl (lv_at hl 3 rfl) ?_
  refine lv_iload hx hb dX7_lessens_3 (lv_at hl 4 rfl) ?_
  refine lv_iload_n hx hb dX7_lessens_5 rfl (lv_at hl 1 rfl) ?_
  obtain ⟨r1, hr1, h⟩ := xk_some h
  refine vx_VJ (As := [.int x2, .int x3, .int x4, .int x1]) (rest := []) hFx (k_X7_isLess l D cI cZ cT q H.size v_size v_at v_begin v_token v_told v_undos v_changed v_felt v_wents v_wish v_trace v_firsts v_thens v_begins x2 x3 x4 x1 r1 hr1) (cwV 4 hts gX7_lessens_X7_isLess rfl rfl rfl (by decide +kernel) ⟨Nat.le_of_ble_eq_true rfl, Nat.le_of_ble_eq_true rfl⟩) hK hP hD hS hA [0, 1, 2, 3] rfl rfl 7 0 rfl rfl rfl hl.1 rfl (Nat.le_of_ble_eq_true rfl) dX7_lessens_6 ⟨Nat.zero_le _, Nat.zero_le _⟩ (fun H locs hP hS => ?_)
  refine lv_if_eq (tgt := 39) hx hb dX7_lessens_9 (by decide) (fun c2 => ?_) (fun c2 => ?_)
  · have h := (if_pos c2).symm.trans h
    exact hret (v_firsts, v_thens, v_begins, v_changed) H locs _ ls (Option.some.inj h) hP hD hS dX7_lessens_39
  · have h := (if_neg c2).symm.trans h
    refine lv_aload_n hx hb dX7_lessens_12 rfl (lv_at hl 0 rfl) ?_
    refine va_get (C := RX7) (T := TX7) (N := 34) (v := .ref (q 12)) hx hb hts iw7 hown hK hP 0 rfl rfl 11 (Nat.le_of_ble_eq_true rfl) lk25 (fun _ h9 => h9) rfl dX7_lessens_13 ?_
    refine lv_iload_n hx hb dX7_lessens_16 rfl (lv_at hl 1 rfl) ?_
    refine lv_iload_n hx hb dX7_lessens_17 rfl (lv_at hl 2 rfl) ?_
    obtain ⟨hi3, h⟩ := xb_some h
    refine va_iast hx hb hK hP hD hS 1 0 rfl rfl hi3 dX7_lessens_18 (fun H locs hP hD hS => ?_)
    have hP : va_P D vwCl [oX7 q v_size v_at v_begin v_token v_told v_undos v_changed v_felt v_wents v_wish v_trace, rA (q 12) cI 28 (upd v_firsts x1.toNatClampNeg x2), rA (q 13) cI 28 v_thens, rA (q 14) cI 28 v_begins] H := hP
    have hD : va_D A [oX7 q v_size v_at v_begin v_token v_told v_undos v_changed v_felt v_wents v_wish v_trace, rA (q 12) cI 28 (upd v_firsts x1.toNatClampNeg x2), rA (q 13) cI 28 v_thens, rA (q 14) cI 28 v_begins] := hD
    refine lv_aload_n hx hb dX7_lessens_19 rfl (lv_at hl 0 rfl) ?_
    refine va_get (C := RX7) (T := TX7) (N := 34) (v := .ref (q 13)) hx hb hts iw7 hown hK hP 0 rfl rfl 12 (Nat.le_of_ble_eq_true rfl) lk28 (fun _ h9 => h9) rfl dX7_lessens_20 ?_
    refine lv_iload_n hx hb dX7_lessens_23 rfl (lv_at hl 1 rfl) ?_
    refine lv_iload_n hx hb dX7_lessens_24 rfl (lv_at hl 3 rfl) ?_
    obtain ⟨hi4, h⟩ := xb_some h
    refine va_iast hx hb hK hP hD hS 2 0 rfl rfl hi4 dX7_lessens_25 (fun H locs hP hD hS => ?_)
    have hP : va_P D vwCl [oX7 q v_size v_at v_begin v_token v_told v_undos v_changed v_felt v_wents v_wish v_trace, rA (q 12) cI 28 (upd v_firsts x1.toNatClampNeg x2), rA (q 13) cI 28 (upd v_thens x1.toNatClampNeg x3), rA (q 14) cI 28 v_begins] H := hP
    have hD : va_D A [oX7 q v_size v_at v_begin v_token v_told v_undos v_changed v_felt v_wents v_wish v_trace, rA (q 12) cI 28 (upd v_firsts x1.toNatClampNeg x2), rA (q 13) cI 28 (upd v_thens x1.toNatClampNeg x3), rA (q 14) cI 28 v_begins] := hD
    refine lv_aload_n hx hb dX7_lessens_26 rfl (lv_at hl 0 rfl) ?_
    refine va_get (C := RX7) (T := TX7) (N := 34) (v := .ref (q 14)) hx hb hts iw7 hown hK hP 0 rfl rfl 13 (Nat.le_of_ble_eq_true rfl) lk31 (fun _ h9 => h9) rfl dX7_lessens_27 ?_
    refine lv_iload_n hx hb dX7_lessens_30 rfl (lv_at hl 1 rfl) ?_
    refine lv_iload hx hb dX7_lessens_31 (lv_at hl 4 rfl) ?_
    obtain ⟨hi5, h⟩ := xb_some h
    refine va_iast hx hb hK hP hD hS 3 0 rfl rfl hi5 dX7_lessens_33 (fun H locs hP hD hS => ?_)
    have hP : va_P D vwCl [oX7 q v_size v_at v_begin v_token v_told v_undos v_changed v_felt v_wents v_wish v_trace, rA (q 12) cI 28 (upd v_firsts x1.toNatClampNeg x2), rA (q 13) cI 28 (upd v_thens x1.toNatClampNeg x3), rA (q 14) cI 28 (upd v_begins x1.toNatClampNeg x4)] H := hP
    have hD : va_D A [oX7 q v_size v_at v_begin v_token v_told v_undos v_changed v_felt v_wents v_wish v_trace, rA (q 12) cI 28 (upd v_firsts x1.toNatClampNeg x2), rA (q 13) cI 28 (upd v_thens x1.toNatClampNeg x3), rA (q 14) cI 28 (upd v_begins x1.toNatClampNeg x4)] := hD
    refine lv_aload_n hx hb dX7_lessens_34 rfl (lv_at hl 0 rfl) ?_
    refine lv_iconst (v := 1) hx hb dX7_lessens_35 (by decide) ?_
    refine va_put (C := RX7) (T := TX7) (N := 34) (v := .int (1 : Int32)) (ty := .boolean) hx hb hts iw7 tyX7 tyX7_ok nmX7 hown hK hP hD hS 0 rfl rfl 14 (Nat.le_of_ble_eq_true rfl) lk236 (fun _ h9 => h9) rfl (by decide +kernel) (by decide +kernel) rfl (Nat.le_of_ble_eq_true rfl) dX7_lessens_36 (fun H locs hP hD hS => ?_)
    have hP : va_P D vwCl [oX7 q v_size v_at v_begin v_token v_told v_undos (1 : Int32) v_felt v_wents v_wish v_trace, rA (q 12) cI 28 (upd v_firsts x1.toNatClampNeg x2), rA (q 13) cI 28 (upd v_thens x1.toNatClampNeg x3), rA (q 14) cI 28 (upd v_begins x1.toNatClampNeg x4)] H := hP
    have hD : va_D A [oX7 q v_size v_at v_begin v_token v_told v_undos (1 : Int32) v_felt v_wents v_wish v_trace, rA (q 12) cI 28 (upd v_firsts x1.toNatClampNeg x2), rA (q 13) cI 28 (upd v_thens x1.toNatClampNeg x3), rA (q 14) cI 28 (upd v_begins x1.toNatClampNeg x4)] := hD
    exact hret ((upd v_firsts x1.toNatClampNeg x2, upd v_thens x1.toNatClampNeg x3, upd v_begins x1.toNatClampNeg x4, (1 : Int32))) H locs _ ls (Option.some.inj h) hP hD hS dX7_lessens_39
