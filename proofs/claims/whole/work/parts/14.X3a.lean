abbrev rm_X3_forgetAll : Room := { frames := 0, cells := 0, slots := 0, locals := 0 }
set_option maxHeartbeats 4000000 in
set_option maxRecDepth 100000 in
theorem k_X3_forgetAll (l : Launch) (D : va_G) (cI cZ cT : ClassId) (q : Nat → Nat) (sz : Nat) (v_felt : Int32) (v_walked : Int32) (res : R_X3_forgetAll) (hf : f_X3_forgetAll v_felt v_walked = some res) : Met l yX3_forgetAll wsX3_forgetAll rm_X3_forgetAll (cPre D (tyz cI cZ cT) [.ref (q 0)] sz [oX3 q v_felt v_walked]) (cPv D (tyz cI cZ cT) (fun (u : Int32 × Int32) => u = res) (fun u => [oX3 q u.1 u.2]) [oX3 q v_felt v_walked] sz) 0 0 (va_A [oX3 q v_felt v_walked] sz) := by
  refine vx_meth_v (by decide) rfl (Nat.le_of_ble_eq_true rfl) ?_
  intro p e s m args below meth c A Q hx hb hml hown hts hK hP hD hA hS hret ls hl
  have hown : s.vm.findClass RX3 = some m.cls := hown
  have hl : lv_has ls 1 [(0, .ref (q 0))] := hl
  have hFx : CallFix p m c cX3_forgetAll 1 s args wsX3_forgetAll RX3 := ⟨hx, hb, hml, hown, hts⟩
  have lk24 := hts (.fieldLink RX3 24 "FogGuides$Touches" "felt" "I") (by decide +kernel)
  have iw3 : ∀ w ∈ u_ws RX3 TX3 6, w ∈ wsX3_forgetAll := by decide +kernel
  have lk28 := hts (.fieldLink RX3 28 "FogGuides$Touches" "walked" "I") (by decide +kernel)
  have h := hf
  unfold f_X3_forgetAll at h
  obtain ⟨H, eH⟩ : ∃ H, H = s.heap := ⟨_, rfl⟩
  rw [← eH] at hP ⊢
  obtain ⟨locs, el⟩ : ∃ locs : List Loc, locs = [] := ⟨_, rfl⟩
  rw [← el] at hS ⊢
  have hS : va_S A s.heap H locs := by rw [eH]; exact hS
  refine lv_aload_n hx hb dX3_forgetAll_0 rfl (lv_at hl 0 rfl) ?_
  refine lv_iconst (v := 0) hx hb dX3_forgetAll_1 (by decide) ?_
  refine va_put (C := RX3) (T := TX3) (N := 6) (v := .int (0 : Int32)) (ty := .int) hx hb hts iw3 tyX3 tyX3_ok nmX3 hown hK hP hD hS 0 rfl rfl 0 (Nat.le_of_ble_eq_true rfl) lk24 (fun _ h9 => h9) rfl (by decide +kernel) rfl rfl (Nat.le_of_ble_eq_true rfl) dX3_forgetAll_2 (fun H locs hP hD hS => ?_)
  have hP : va_P D vwCl [oX3 q (0 : Int32) v_walked] H := hP
  have hD : va_D A [oX3 q (0 : Int32) v_walked] := hD
  refine lv_aload_n hx hb dX3_forgetAll_5 rfl (lv_at hl 0 rfl) ?_
  refine lv_iconst (v := 0) hx hb dX3_forgetAll_6 (by decide) ?_
  refine va_put (C := RX3) (T := TX3) (N := 6) (v := .int (0 : Int32)) (ty := .int) hx hb hts iw3 tyX3 tyX3_ok nmX3 hown hK hP hD hS 0 rfl rfl 1 (Nat.le_of_ble_eq_true rfl) lk28 (fun _ h9 => h9) rfl (by decide +kernel) rfl rfl (Nat.le_of_ble_eq_true rfl) dX3_forgetAll_7 (fun H locs hP hD hS => ?_)
  have hP : va_P D vwCl [oX3 q (0 : Int32) (0 : Int32)] H := hP
  have hD : va_D A [oX3 q (0 : Int32) (0 : Int32)] := hD
  exact hret (((0 : Int32), (0 : Int32))) H locs _ ls (Option.some.inj h) hP hD hS dX3_forgetAll_10
abbrev rm_X3_addMark : Room := { frames := 0, cells := 0, slots := 0, locals := 0 }
set_option maxHeartbeats 4000000 in
set_option maxRecDepth 100000 in
theorem k_X3_addMark (l : Launch) (D : va_G) (cI cZ cT : ClassId) (q : Nat → Nat) (sz : Nat) (v_felt : Int32) (v_walked : Int32) (v_feltMarks : Nat → Int32) (x1 : Int32) (res : R_X3_addMark) (hf : f_X3_addMark v_felt v_feltMarks x1 = some res) : Met l yX3_addMark wsX3_addMark rm_X3_addMark (cPre D (tyz cI cZ cT) [.ref (q 0), .int x1] sz [oX3 q v_felt v_walked, rA (q 3) cI 6 v_feltMarks]) (cPi D (tyz cI cZ cT) (fun (r : Int32) (u : Int32 × (Nat → Int32)) => (r, u) = res) (fun u => [oX3 q u.1 v_walked, rA (q 3) cI 6 u.2]) [oX3 q v_felt v_walked, rA (q 3) cI 6 v_feltMarks] sz) 0 0 (va_A [oX3 q v_felt v_walked, rA (q 3) cI 6 v_feltMarks] sz) := by
  refine vx_meth_z (by decide) rfl (Nat.le_of_ble_eq_true rfl) ?_
  intro p e s m args below meth c A Q hx hb hml hown hts hK hP hD hA hS hret ls hl
  have hown : s.vm.findClass RX3 = some m.cls := hown
  have hl : lv_has ls 2 [(0, .ref (q 0)), (1, .int x1)] := hl
  have hFx : CallFix p m c cX3_addMark 2 s args wsX3_addMark RX3 := ⟨hx, hb, hml, hown, hts⟩
  have lk24 := hts (.fieldLink RX3 24 "FogGuides$Touches" "felt" "I") (by decide +kernel)
  have iw3 : ∀ w ∈ u_ws RX3 TX3 6, w ∈ wsX3_addMark := by decide +kernel
  have lk9 := hts (.fieldLink RX3 9 "FogGuides$Touches" "feltMarks" "[I") (by decide +kernel)
  have h := hf
  unfold f_X3_addMark at h
  obtain ⟨H, eH⟩ : ∃ H, H = s.heap := ⟨_, rfl⟩
  rw [← eH] at hP ⊢
  obtain ⟨locs, el⟩ : ∃ locs : List Loc, locs = [] := ⟨_, rfl⟩
  rw [← el] at hS ⊢
  have hS : va_S A s.heap H locs := by rw [eH]; exact hS
  refine lv_aload_n hx hb dX3_addMark_0 rfl (lv_at hl 0 rfl) ?_
  refine va_get (C := RX3) (T := TX3) (N := 6) (v := .int v_felt) hx hb hts iw3 hown hK hP 0 rfl rfl 0 (Nat.le_of_ble_eq_true rfl) lk24 (fun _ h9 => h9) rfl dX3_addMark_1 ?_
  refine lv_bipush (v := 6) hx hb dX3_addMark_4 (by decide) ?_
  refine lv_icmp_lt (tgt := 11) hx hb dX3_addMark_6 (by decide) (fun c1 => ?_) (fun c1 => ?_)
  · have h := (if_pos c1).symm.trans h
    refine lv_aload_n hx hb dX3_addMark_11 rfl (lv_at hl 0 rfl) ?_
    refine va_get (C := RX3) (T := TX3) (N := 6) (v := .ref (q 3)) hx hb hts iw3 hown hK hP 0 rfl rfl 2 (Nat.le_of_ble_eq_true rfl) lk9 (fun _ h9 => h9) rfl dX3_addMark_12 ?_
    refine lv_aload_n hx hb dX3_addMark_15 rfl (lv_at hl 0 rfl) ?_
    refine va_get (C := RX3) (T := TX3) (N := 6) (v := .int v_felt) hx hb hts iw3 hown hK hP 0 rfl rfl 0 (Nat.le_of_ble_eq_true rfl) lk24 (fun _ h9 => h9) rfl dX3_addMark_16 ?_
    refine lv_iload_n hx hb dX3_addMark_19 rfl (lv_at hl 1 rfl) ?_
    obtain ⟨hi2, h⟩ := xb_some h
    refine va_iast hx hb hK hP hD hS 1 0 rfl rfl hi2 dX3_addMark_20 (fun H locs hP hD hS => ?_)
    have hP : va_P D vwCl [oX3 q v_felt v_walked, rA (q 3) cI 6 (upd v_feltMarks v_felt.toNatClampNeg x1)] H := hP
    have hD : va_D A [oX3 q v_felt v_walked, rA (q 3) cI 6 (upd v_feltMarks v_felt.toNatClampNeg x1)] := hD
    refine lv_aload_n hx hb dX3_addMark_21 rfl (lv_at hl 0 rfl) ?_
    refine lv_dup hx hb dX3_addMark_22 rfl ?_
    refine va_get (C := RX3) (T := TX3) (N := 6) (v := .int v_felt) hx hb hts iw3 hown hK hP 0 rfl rfl 0 (Nat.le_of_ble_eq_true rfl) lk24 (fun _ h9 => h9) rfl dX3_addMark_23 ?_
    refine lv_iconst (v := 1) hx hb dX3_addMark_26 (by decide) ?_
    refine lv_iadd hx hb dX3_addMark_27 ?_
    refine va_put (C := RX3) (T := TX3) (N := 6) (v := .int (v_felt + (1 : Int32))) (ty := .int) hx hb hts iw3 tyX3 tyX3_ok nmX3 hown hK hP hD hS 0 rfl rfl 0 (Nat.le_of_ble_eq_true rfl) lk24 (fun _ h9 => h9) rfl (by decide +kernel) rfl rfl (Nat.le_of_ble_eq_true rfl) dX3_addMark_28 (fun H locs hP hD hS => ?_)
    have hP : va_P D vwCl [oX3 q (v_felt + (1 : Int32)) v_walked, rA (q 3) cI 6 (upd v_feltMarks v_felt.toNatClampNeg x1)] H := hP
    have hD : va_D A [oX3 q (v_felt + (1 : Int32)) v_walked, rA (q 3) cI 6 (upd v_feltMarks v_felt.toNatClampNeg x1)] := hD
    refine lv_iconst (v := 1) hx hb dX3_addMark_31 (by decide) ?_
    exact hret (1 : Int32) ((v_felt + (1 : Int32), upd v_feltMarks v_felt.toNatClampNeg x1)) H locs _ ls (Or.inr rfl) (Option.some.inj h) hP hD hS dX3_addMark_32
  · have h := (if_neg c1).symm.trans h
    refine lv_iconst (v := 0) hx hb dX3_addMark_9 (by decide) ?_
    exact hret (0 : Int32) (v_felt, v_feltMarks) H locs _ ls (Or.inl rfl) (Option.some.inj h) hP hD hS dX3_addMark_10
abbrev rm_X3_addCorner : Room := { frames := 0, cells := 0, slots := 0, locals := 0 }
set_option maxHeartbeats 4000000 in
set_option maxRecDepth 100000 in
theorem k_X3_addCorner (l : Launch) (D : va_G) (cI cZ cT : ClassId) (q : Nat → Nat) (sz : Nat) (v_felt : Int32) (v_walked : Int32) (v_walkedCorners : Nat → Int32) (x1 : Int32) (res : R_X3_addCorner) (hf : f_X3_addCorner v_walked v_walkedCorners x1 = some res) : Met l yX3_addCorner wsX3_addCorner rm_X3_addCorner (cPre D (tyz cI cZ cT) [.ref (q 0), .int x1] sz [oX3 q v_felt v_walked, rA (q 4) cI 6 v_walkedCorners]) (cPi D (tyz cI cZ cT) (fun (r : Int32) (u : Int32 × (Nat → Int32)) => (r, u) = res) (fun u => [oX3 q v_felt u.1, rA (q 4) cI 6 u.2]) [oX3 q v_felt v_walked, rA (q 4) cI 6 v_walkedCorners] sz) 0 0 (va_A [oX3 q v_felt v_walked, rA (q 4) cI 6 v_walkedCorners] sz) := by
  refine vx_meth_z (by decide) rfl (Nat.le_of_ble_eq_true rfl) ?_
  intro p e s m args below meth c A Q hx hb hml hown hts hK hP hD hA hS hret ls hl
  have hown : s.vm.findClass RX3 = some m.cls := hown
  have hl : lv_has ls 2 [(0, .ref (q 0)), (1, .int x1)] := hl
  have hFx : CallFix p m c cX3_addCorner 2 s args wsX3_addCorner RX3 := ⟨hx, hb, hml, hown, hts⟩
  have lk28 := hts (.fieldLink RX3 28 "FogGuides$Touches" "walked" "I") (by decide +kernel)
  have iw3 : ∀ w ∈ u_ws RX3 TX3 6, w ∈ wsX3_addCorner := by decide +kernel
  have lk15 := hts (.fieldLink RX3 15 "FogGuides$Touches" "walkedCorners" "[I") (by decide +kernel)
  have h := hf
  unfold f_X3_addCorner at h
  obtain ⟨H, eH⟩ : ∃ H, H = s.heap := ⟨_, rfl⟩
  rw [← eH] at hP ⊢
  obtain ⟨locs, el⟩ : ∃ locs : List Loc, locs = [] := ⟨_, rfl⟩
  rw [← el] at hS ⊢
  have hS : va_S A s.heap H locs := by rw [eH]; exact hS
  refine lv_aload_n hx hb dX3_addCorner_0 rfl (lv_at hl 0 rfl) ?_
  refine va_get (C := RX3) (T := TX3) (N := 6) (v := .int v_walked) hx hb hts iw3 hown hK hP 0 rfl rfl 1 (Nat.le_of_ble_eq_true rfl) lk28 (fun _ h9 => h9) rfl dX3_addCorner_1 ?_
  refine lv_bipush (v := 6) hx hb dX3_addCorner_4 (by decide) ?_
  refine lv_icmp_lt (tgt := 11) hx hb dX3_addCorner_6 (by decide) (fun c1 => ?_) (fun c1 => ?_)
  · have h := (if_pos c1).symm.trans h
    refine lv_aload_n hx hb dX3_addCorner_11 rfl (lv_at hl 0 rfl) ?_
    refine va_get (C := RX3) (T := TX3) (N := 6) (v := .ref (q 4)) hx hb hts iw3 hown hK hP 0 rfl rfl 3 (Nat.le_of_ble_eq_true rfl) lk15 (fun _ h9 => h9) rfl dX3_addCorner_12 ?_
    refine lv_aload_n hx hb dX3_addCorner_15 rfl (lv_at hl 0 rfl) ?_
    refine va_get (C := RX3) (T := TX3) (N := 6) (v := .int v_walked) hx hb hts iw3 hown hK hP 0 rfl rfl 1 (Nat.le_of_ble_eq_true rfl) lk28 (fun _ h9 => h9) rfl dX3_addCorner_16 ?_
    refine lv_iload_n hx hb dX3_addCorner_19 rfl (lv_at hl 1 rfl) ?_
    obtain ⟨hi2, h⟩ := xb_some h
    refine va_iast hx hb hK hP hD hS 1 0 rfl rfl hi2 dX3_addCorner_20 (fun H locs hP hD hS => ?_)
    have hP : va_P D vwCl [oX3 q v_felt v_walked, rA (q 4) cI 6 (upd v_walkedCorners v_walked.toNatClampNeg x1)] H := hP
    have hD : va_D A [oX3 q v_felt v_walked, rA (q 4) cI 6 (upd v_walkedCorners v_walked.toNatClampNeg x1)] := hD
    refine lv_aload_n hx hb dX3_addCorner_21 rfl (lv_at hl 0 rfl) ?_
    refine lv_dup hx hb dX3_addCorner_22 rfl ?_
    refine va_get (C := RX3) (T := TX3) (N := 6) (v := .int v_walked) hx hb hts iw3 hown hK hP 0 rfl rfl 1 (Nat.le_of_ble_eq_true rfl) lk28 (fun _ h9 => h9) rfl dX3_addCorner_23 ?_
    refine lv_iconst (v := 1) hx hb dX3_addCorner_26 (by decide) ?_
    refine lv_iadd hx hb dX3_addCorner_27 ?_
    refine va_put (C := RX3) (T := TX3) (N := 6) (v := .int (v_walked + (1 : Int32))) (ty := .int) hx hb hts iw3 tyX3 tyX3_ok nmX3 hown hK hP hD hS 0 rfl rfl 1 (Nat.le_of_ble_eq_true rfl) lk28 (fun _ h9 => h9) rfl (by decide +kernel) rfl rfl (Nat.le_of_ble_eq_true rfl) dX3_addCorner_28 (fun H locs hP hD hS => ?_)
    have hP : va_P D vwCl [oX3 q v_felt (v_walked + (1 : Int32)), rA (q 4) cI 6 (upd v_walkedCorners v_walked.toNatClampNeg x1)] H := hP
    have hD : va_D A [oX3 q v_felt (v_walked + (1 : Int32)), rA (q 4) cI 6 (upd v_walkedCorners v_walked.toNatClampNeg x1)] := hD
    refine lv_iconst (v := 1) hx hb dX3_addCorner_31 (by decide) ?_
    exact hret (1 : Int32) ((v_walked + (1 : Int32), upd v_walkedCorners v_walked.toNatClampNeg x1)) H locs _ ls (Or.inr rfl) (Option.some.inj h) hP hD hS dX3_addCorner_32
  · have h := (if_neg c1).symm.trans h
    refine lv_iconst (v := 0) hx hb dX3_addCorner_9 (by decide) ?_
    exact hret (0 : Int32) (v_walked, v_walkedCorners) H locs _ ls (Or.inl rfl) (Option.some.inj h) hP hD hS dX3_addCorner_10
abbrev rm_X3_lastWalked : Room := { frames := 0, cells := 0, slots := 0, locals := 0 }
set_option maxHeartbeats 4000000 in
set_option maxRecDepth 100000 in
theorem k_X3_lastWalked (l : Launch) (D : va_G) (cI cZ cT : ClassId) (q : Nat → Nat) (sz : Nat) (v_felt : Int32) (v_walked : Int32) (v_walkedCorners : Nat → Int32) (res : R_X3_lastWalked) (hf : f_X3_lastWalked v_walked v_walkedCorners = some res) : Met l yX3_lastWalked wsX3_lastWalked rm_X3_lastWalked (cPre D (tyz cI cZ cT) [.ref (q 0)] sz [oX3 q v_felt v_walked, rA (q 4) cI 6 v_walkedCorners]) (cPi D (tyz cI cZ cT) (fun (r : Int32) (_ : Unit) => r = res) (fun _ => [oX3 q v_felt v_walked, rA (q 4) cI 6 v_walkedCorners]) [oX3 q v_felt v_walked, rA (q 4) cI 6 v_walkedCorners] sz) 0 0 (va_A [oX3 q v_felt v_walked, rA (q 4) cI 6 v_walkedCorners] sz) := by
  refine vx_meth_i (by decide) rfl (Nat.le_of_ble_eq_true rfl) ?_
  intro p e s m args below meth c A Q hx hb hml hown hts hK hP hD hA hS hret ls hl
  have hown : s.vm.findClass RX3 = some m.cls := hown
  have hl : lv_has ls 1 [(0, .ref (q 0))] := hl
  have hFx : CallFix p m c cX3_lastWalked 1 s args wsX3_lastWalked RX3 := ⟨hx, hb, hml, hown, hts⟩
  have lk28 := hts (.fieldLink RX3 28 "FogGuides$Touches" "walked" "I") (by decide +kernel)
  have iw3 : ∀ w ∈ u_ws RX3 TX3 6, w ∈ wsX3_lastWalked := by decide +kernel
  have lk15 := hts (.fieldLink RX3 15 "FogGuides$Touches" "walkedCorners" "[I") (by decide +kernel)
  have h := hf
  unfold f_X3_lastWalked at h
  obtain ⟨H, eH⟩ : ∃ H, H = s.heap := ⟨_, rfl⟩
  rw [← eH] at hP ⊢
  obtain ⟨locs, el⟩ : ∃ locs : List Loc, locs = [] := ⟨_, rfl⟩
  rw [← el] at hS ⊢
  have hS : va_S A s.heap H locs := by rw [eH]; exact hS
  refine lv_aload_n hx hb dX3_lastWalked_0 rfl (lv_at hl 0 rfl) ?_
  refine va_get (C := RX3) (T := TX3) (N := 6) (v := .int v_walked) hx hb hts iw3 hown hK hP 0 rfl rfl 1 (Nat.le_of_ble_eq_true rfl) lk28 (fun _ h9 => h9) rfl dX3_lastWalked_1 ?_
  refine lv_if_le (tgt := 21) hx hb dX3_lastWalked_4 (by decide) (fun c1 => ?_) (fun c1 => ?_)
  · have h := (if_pos c1).symm.trans h
    refine lv_bipush (v := (-9)) hx hb dX3_lastWalked_21 (by decide) ?_
    exact hret (-9 : Int32) () H locs _ ls (Option.some.inj h) hP hD hS dX3_lastWalked_23
  · have h := (if_neg c1).symm.trans h
    refine lv_aload_n hx hb dX3_lastWalked_7 rfl (lv_at hl 0 rfl) ?_
    refine va_get (C := RX3) (T := TX3) (N := 6) (v := .ref (q 4)) hx hb hts iw3 hown hK hP 0 rfl rfl 3 (Nat.le_of_ble_eq_true rfl) lk15 (fun _ h9 => h9) rfl dX3_lastWalked_8 ?_
    refine lv_aload_n hx hb dX3_lastWalked_11 rfl (lv_at hl 0 rfl) ?_
    refine va_get (C := RX3) (T := TX3) (N := 6) (v := .int v_walked) hx hb hts iw3 hown hK hP 0 rfl rfl 1 (Nat.le_of_ble_eq_true rfl) lk28 (fun _ h9 => h9) rfl dX3_lastWalked_12 ?_
    refine lv_iconst (v := 1) hx hb dX3_lastWalked_15 (by decide) ?_
    refine lv_isub hx hb dX3_lastWalked_16 ?_
    obtain ⟨hi2, h⟩ := xb_some h
    refine va_iald hx hb hK hP 1 0 rfl rfl hi2 dX3_lastWalked_17 ?_
    refine lv_goto (tgt := 23) hx hb dX3_lastWalked_18 (by decide) ?_
    exact hret (v_walkedCorners (v_walked - (1 : Int32)).toNatClampNeg) () H locs _ ls (Option.some.inj h) hP hD hS dX3_lastWalked_23
abbrev rm_X3_rowsInto : Room := { frames := 2, cells := 0, slots := 0, locals := 45 }
set_option maxHeartbeats 4000000 in
set_option maxRecDepth 100000 in
theorem k_X3_rowsInto (l : Launch) (D : va_G) (cI cZ cT : ClassId) (q : Nat → Nat) (qm : Nat → Nat) (sz : Nat) (v_felt : Int32) (v_walked : Int32) (m_cornerCount : Int32) (m_streetCount : Int32) (m_guideCount : Int32) (m_bellCount : Int32) (m_hand : Int32) (m_handTold : Int32) (v_rows : Nat → Int32) (m_ends : Nat → Int32) (m_farEnds : Nat → Int32) (x2 : Int32) (res : R_X3_rowsInto) (fu : Nat) (hf : f_X3_rowsInto fu v_rows m_cornerCount m_streetCount m_ends m_farEnds x2 = some res) : Met l yX3_rowsInto wsX3_rowsInto rm_X3_rowsInto (cPre D (tyz cI cZ cT) [.ref (q 0), .ref (qm 0), .int x2] sz [oX3 q v_felt v_walked, rA (q 5) cI 7 v_rows, oX4 qm m_cornerCount m_streetCount m_guideCount m_bellCount m_hand m_handTold, rA (qm 8) cI 9 m_ends, rA (qm 9) cI 9 m_farEnds]) (cPi D (tyz cI cZ cT) (fun (r : Int32) (_ : Unit) => r = res) (fun _ => [oX3 q v_felt v_walked, rA (q 5) cI 7 v_rows, oX4 qm m_cornerCount m_streetCount m_guideCount m_bellCount m_hand m_handTold, rA (qm 8) cI 9 m_ends, rA (qm 9) cI 9 m_farEnds]) [oX3 q v_felt v_walked, rA (q 5) cI 7 v_rows, oX4 qm m_cornerCount m_streetCount m_guideCount m_bellCount m_hand m_handTold, rA (qm 8) cI 9 m_ends, rA (qm 9) cI 9 m_farEnds] sz) 0 0 (va_A [oX3 q v_felt v_walked, rA (q 5) cI 7 v_rows, oX4 qm m_cornerCount m_streetCount m_guideCount m_bellCount m_hand m_handTold, rA (qm 8) cI 9 m_ends, rA (qm 9) cI 9 m_farEnds] sz) := by
  refine vx_meth_i (by decide) rfl (Nat.le_of_ble_eq_true rfl) ?_
  intro p e s m args below meth c A Q hx hb hml hown hts hK hP hD hA hS hret ls hl
  have hown : s.vm.findClass RX3 = some m.cls := hown
  have hl : lv_has ls 6 [(0, .ref (q 0)), (1, .ref (qm 0)), (2, .int x2)] := hl
  have hFx : CallFix p m c cX3_rowsInto 6 s args wsX3_rowsInto RX3 := ⟨hx, hb, hml, hown, hts⟩
  have lk39 := hts (.fieldLink RX3 39 "FogGuides$TownMap" "cornerCount" "I") (by decide +kernel)
  have iw4 : ∀ w ∈ u_ws RX4 TX4 15, w ∈ wsX3_rowsInto := by decide +kernel
  have lk18 := hts (.fieldLink RX3 18 "FogGuides$Touches" "rows" "[I") (by decide +kernel)
  have iw3 : ∀ w ∈ u_ws RX3 TX3 6, w ∈ wsX3_rowsInto := by decide +kernel
  have hL12 : ∀ (n12 : Nat), ∀ (x3 : Int32) (x4 : Int32) (x5 : Int32) (H : Heap) (locs : List Loc) (ls : Array Slot), f_X3_rowsInto_L12 fu n12 v_rows m_cornerCount m_streetCount m_ends m_farEnds x3 x4 x5 = some res → va_P D vwCl [oX3 q v_felt v_walked, rA (q 5) cI 7 v_rows, oX4 qm m_cornerCount m_streetCount m_guideCount m_bellCount m_hand m_handTold, rA (qm 8) cI 9 m_ends, rA (qm 9) cI 9 m_farEnds] H → va_D A [oX3 q v_felt v_walked, rA (q 5) cI 7 v_rows, oX4 qm m_cornerCount m_streetCount m_guideCount m_bellCount m_hand m_handTold, rA (qm 8) cI 9 m_ends, rA (qm 9) cI 9 m_farEnds] → va_S A s.heap H locs → lv_has ls 6 [(0, .ref (q 0)), (1, .ref (qm 0)), (3, .int x3), (4, .int x4), (5, .int x5)] → W p l e rm_X3_rowsInto s m args below meth c H locs 0 0 Q (F0 m 12 ls []) := by
    intro n12
    induction n12 with
    | zero =>
      intro x3 x4 x5 H locs ls h hP hD hS hl
      cases (show (none : Option R_X3_rowsInto) = some res from h)
    | succ n12 ih12 =>
      intro x3 x4 x5 H locs ls h hP hD hS hl
      have h : f_X3_rowsInto_L12b fu (f_X3_rowsInto_L12 fu n12) v_rows m_cornerCount m_streetCount m_ends m_farEnds x3 x4 x5 = some res := h
      unfold f_X3_rowsInto_L12b at h
      refine lv_iload hx hb dX3_rowsInto_12 (lv_at hl 4 rfl) ?_
      refine lv_aload_n hx hb dX3_rowsInto_14 rfl (lv_at hl 1 rfl) ?_
      refine va_get (C := RX4) (T := TX4) (N := 15) (v := .int m_cornerCount) hx hb hts iw4 hown hK hP 2 rfl rfl 0 (Nat.le_of_ble_eq_true rfl) lk39 (fun _ h9 => h9) rfl dX3_rowsInto_15 ?_
      refine lv_icmp_ge (tgt := 49) hx hb dX3_rowsInto_18 (by decide) (fun c1 => ?_) (fun c1 => ?_)
      · have h := (if_pos c1).symm.trans h
        refine lv_iload hx hb dX3_rowsInto_49 (lv_at hl 3 rfl) ?_
        exact hret x4 () H locs _ ls (Option.some.inj h) hP hD hS dX3_rowsInto_51
      · have h := (if_neg c1).symm.trans h
        refine lv_iload_n hx hb dX3_rowsInto_21 rfl (lv_at hl 2 rfl) ?_
        refine lv_iload hx hb dX3_rowsInto_22 (lv_at hl 4 rfl) ?_
        refine lv_ishr hx hb dX3_rowsInto_24 ?_
        refine lv_iconst (v := 1) hx hb dX3_rowsInto_25 (by decide) ?_
        refine lv_iand hx hb dX3_rowsInto_26 ?_
        refine lv_iconst (v := 1) hx hb dX3_rowsInto_27 (by decide) ?_
        refine lv_icmp_ne (tgt := 43) hx hb dX3_rowsInto_28 (by decide) (fun c2 => ?_) (fun c2 => ?_)
        · have h := (if_neg c2).symm.trans h
          refine lv_iinc (v := x5 + 1) (lv' := [(5, .int (x5 + 1)), (0, .ref (q 0)), (1, .ref (qm 0)), (3, .int x3), (4, .int x4)]) hx hb dX3_rowsInto_43 hl (k := 4) rfl rfl (by decide) rfl (fun ls hl => ?_)
          refine lv_goto (tgt := 12) hx hb dX3_rowsInto_46 (by decide) ?_
          exact ih12 x3 x4 (x5 + 1) H locs ls h hP hD hS (lv_sub hl [1, 2, 3, 4, 0] rfl)
        · have h := (if_pos c2).symm.trans h
          refine lv_iload hx hb dX3_rowsInto_31 (lv_at hl 3 rfl) ?_
          refine lv_aload_n hx hb dX3_rowsInto_33 rfl (lv_at hl 0 rfl) ?_
          refine va_get (C := RX3) (T := TX3) (N := 6) (v := .ref (q 5)) hx hb hts iw3 hown hK hP 0 rfl rfl 4 (Nat.le_of_ble_eq_true rfl) lk18 (fun _ h9 => h9) rfl dX3_rowsInto_34 ?_
          refine lv_iload hx hb dX3_rowsInto_37 (lv_at hl 4 rfl) ?_
          obtain ⟨hi3, h⟩ := xb_some h
          refine va_iald hx hb hK hP 1 0 rfl rfl hi3 dX3_rowsInto_39 ?_
          refine lv_iadd hx hb dX3_rowsInto_40 ?_
          refine lv_istore (lv' := [(4, .int (x4 + (v_rows x5.toNatClampNeg))), (0, .ref (q 0)), (1, .ref (qm 0)), (3, .int x3), (5, .int x5)]) hx hb dX3_rowsInto_41 hl (by decide) rfl (fun ls hl => ?_)
          refine lv_iinc (v := x5 + 1) (lv' := [(5, .int (x5 + 1)), (4, .int (x4 + (v_rows x5.toNatClampNeg))), (0, .ref (q 0)), (1, .ref (qm 0)), (3, .int x3)]) hx hb dX3_rowsInto_43 hl (k := 4) rfl rfl (by decide) rfl (fun ls hl => ?_)
          refine lv_goto (tgt := 12) hx hb dX3_rowsInto_46 (by decide) ?_
          exact ih12 x3 (x4 + (v_rows x5.toNatClampNeg)) (x5 + 1) H locs ls h hP hD hS (lv_sub hl [2, 3, 4, 1, 0] rfl)
  have h := hf
  unfold f_X3_rowsInto at h
  obtain ⟨H, eH⟩ : ∃ H, H = s.heap := ⟨_, rfl⟩
  rw [← eH] at hP ⊢
  obtain ⟨locs, el⟩ : ∃ locs : List Loc, locs = [] := ⟨_, rfl⟩
  rw [← el] at hS ⊢
  have hS : va_S A s.heap H locs := by rw [eH]; exact hS
  refine lv_aload_n hx hb dX3_rowsInto_0 rfl (lv_at hl 1 rfl) ?_
  refine lv_iload_n hx hb dX3_rowsInto_1 rfl (lv_at hl 2 rfl) ?_
  obtain ⟨r4, hr4, h⟩ := xk_some h
  refine vx_VJ (As := [.int x2]) (rest := []) hFx (k_X4_nextTo l D cI cZ cT qm H.size m_cornerCount m_streetCount m_guideCount m_bellCount m_hand m_handTold m_ends m_farEnds x2 r4 fu hr4) (cwV 1 hts gX3_rowsInto_X4_nextTo rfl rfl rfl (by decide +kernel) ⟨Nat.le_of_ble_eq_true rfl, Nat.le_of_ble_eq_true rfl⟩) hK hP hD hS hA [2, 3, 4] rfl rfl 4 0 rfl rfl rfl hl.1 rfl (Nat.le_of_ble_eq_true rfl) dX3_rowsInto_2 ⟨Nat.zero_le _, Nat.zero_le _⟩ (fun H locs hP hS => ?_)
  refine lv_istore_n (lv' := [(3, .int r4), (0, .ref (q 0)), (1, .ref (qm 0)), (2, .int x2)]) hx hb dX3_rowsInto_5 rfl hl (by decide) rfl (fun ls hl => ?_)
  refine lv_iconst (v := 0) hx hb dX3_rowsInto_6 (by decide) ?_
  refine lv_istore (lv' := [(4, .int (0 : Int32)), (3, .int r4), (0, .ref (q 0)), (1, .ref (qm 0)), (2, .int x2)]) hx hb dX3_rowsInto_7 hl (by decide) rfl (fun ls hl => ?_)
  refine lv_iconst (v := 0) hx hb dX3_rowsInto_9 (by decide) ?_
  refine lv_istore (lv' := [(5, .int (0 : Int32)), (4, .int (0 : Int32)), (3, .int r4), (0, .ref (q 0)), (1, .ref (qm 0)), (2, .int x2)]) hx hb dX3_rowsInto_10 hl (by decide) rfl (fun ls hl => ?_)
  exact hL12 fu r4 (0 : Int32) (0 : Int32) H locs ls h hP hD hS (lv_sub hl [3, 4, 2, 1, 0] rfl)
abbrev rm_X3_countRows : Room := { frames := 3, cells := 0, slots := 0, locals := 70 }
set_option maxHeartbeats 4000000 in
set_option maxRecDepth 100000 in
theorem k_X3_countRows (l : Launch) (D : va_G) (cI cZ cT : ClassId) (q : Nat → Nat) (qm : Nat → Nat) (sz : Nat) (v_felt : Int32) (v_walked : Int32) (m_cornerCount : Int32) (m_streetCount : Int32) (m_guideCount : Int32) (m_bellCount : Int32) (m_hand : Int32) (m_handTold : Int32) (v_feltMarks : Nat → Int32) (v_rows : Nat → Int32) (v_nextRows : Nat → Int32) (m_marks : Nat → Int32) (m_ends : Nat → Int32) (m_farEnds : Nat → Int32) (x2 : Int32) (res : R_X3_countRows) (fu : Nat) (hf : f_X3_countRows fu v_felt v_feltMarks v_rows v_nextRows m_cornerCount m_streetCount m_marks m_ends m_farEnds x2 = some res) : Met l yX3_countRows wsX3_countRows rm_X3_countRows (cPre D (tyz cI cZ cT) [.ref (q 0), .ref (qm 0), .int x2] sz [oX3 q v_felt v_walked, rA (q 3) cI 6 v_feltMarks, rA (q 5) cI 7 v_rows, rA (q 6) cI 7 v_nextRows, oX4 qm m_cornerCount m_streetCount m_guideCount m_bellCount m_hand m_handTold, rA (qm 7) cI 7 m_marks, rA (qm 8) cI 9 m_ends, rA (qm 9) cI 9 m_farEnds]) (cPv D (tyz cI cZ cT) (fun (u : (Nat → Int32) × (Nat → Int32)) => u = res) (fun u => [oX3 q v_felt v_walked, rA (q 3) cI 6 v_feltMarks, rA (q 5) cI 7 u.1, rA (q 6) cI 7 u.2, oX4 qm m_cornerCount m_streetCount m_guideCount m_bellCount m_hand m_handTold, rA (qm 7) cI 7 m_marks, rA (qm 8) cI 9 m_ends, rA (qm 9) cI 9 m_farEnds]) [oX3 q v_felt v_walked, rA (q 3) cI 6 v_feltMarks, rA (q 5) cI 7 v_rows, rA (q 6) cI 7 v_nextRows, oX4 qm m_cornerCount m_streetCount m_guideCount m_bellCount m_hand m_handTold, rA (qm 7) cI 7 m_marks, rA (qm 8) cI 9 m_ends, rA (qm 9) cI 9 m_farEnds] sz) 0 0 (va_A [oX3 q v_felt v_walked, rA (q 3) cI 6 v_feltMarks, rA (q 5) cI 7 v_rows, rA (q 6) cI 7 v_nextRows, oX4 qm m_cornerCount m_streetCount m_guideCount m_bellCount m_hand m_handTold, rA (qm 7) cI 7 m_marks, rA (qm 8) cI 9 m_ends, rA (qm 9) cI 9 m_farEnds] sz) := by
  refine vx_meth_v (by decide) rfl (Nat.le_of_ble_eq_true rfl) ?_
  intro p e s m args below meth c A Q hx hb hml hown hts hK hP hD hA hS hret ls hl
  have hown : s.vm.findClass RX3 = some m.cls := hown
  have hl : lv_has ls 6 [(0, .ref (q 0)), (1, .ref (qm 0)), (2, .int x2)] := hl
  have hFx : CallFix p m c cX3_countRows 6 s args wsX3_countRows RX3 := ⟨hx, hb, hml, hown, hts⟩
  have lk39 := hts (.fieldLink RX3 39 "FogGuides$TownMap" "cornerCount" "I") (by decide +kernel)
  have iw4 : ∀ w ∈ u_ws RX4 TX4 15, w ∈ wsX3_countRows := by decide +kernel
  have lk21 := hts (.fieldLink RX3 21 "FogGuides$Touches" "nextRows" "[I") (by decide +kernel)
  have iw3 : ∀ w ∈ u_ws RX3 TX3 6, w ∈ wsX3_countRows := by decide +kernel
  have lk18 := hts (.fieldLink RX3 18 "FogGuides$Touches" "rows" "[I") (by decide +kernel)
  have lk44 := hts (.fieldLink RX3 44 "FogGuides$TownMap" "marks" "[I") (by decide +kernel)
  have lk24 := hts (.fieldLink RX3 24 "FogGuides$Touches" "felt" "I") (by decide +kernel)
  have lk9 := hts (.fieldLink RX3 9 "FogGuides$Touches" "feltMarks" "[I") (by decide +kernel)
  have hL23 : ∀ (n23 : Nat), ∀ (v_rows : (Nat → Int32)) (v_nextRows : (Nat → Int32)) (x2 : Int32) (x3 : Int32) (H : Heap) (locs : List Loc) (ls : Array Slot), f_X3_countRows_L23 fu n23 v_felt v_feltMarks v_rows v_nextRows m_cornerCount m_streetCount m_marks m_ends m_farEnds x2 x3 = some res → va_P D vwCl [oX3 q v_felt v_walked, rA (q 3) cI 6 v_feltMarks, rA (q 5) cI 7 v_rows, rA (q 6) cI 7 v_nextRows, oX4 qm m_cornerCount m_streetCount m_guideCount m_bellCount m_hand m_handTold, rA (qm 7) cI 7 m_marks, rA (qm 8) cI 9 m_ends, rA (qm 9) cI 9 m_farEnds] H → va_D A [oX3 q v_felt v_walked, rA (q 3) cI 6 v_feltMarks, rA (q 5) cI 7 v_rows, rA (q 6) cI 7 v_nextRows, oX4 qm m_cornerCount m_streetCount m_guideCount m_bellCount m_hand m_handTold, rA (qm 7) cI 7 m_marks, rA (qm 8) cI 9 m_ends, rA (qm 9) cI 9 m_farEnds] → va_S A s.heap H locs → lv_has ls 6 [(0, .ref (q 0)), (1, .ref (qm 0)), (2, .int x2), (3, .int x3)] → W p l e rm_X3_countRows s m args below meth c H locs 0 0 Q (F0 m 23 ls []) := by
    intro n23
    induction n23 with
    | zero =>
      intro v_rows v_nextRows x2 x3 H locs ls h hP hD hS hl
      cases (show (none : Option R_X3_countRows) = some res from h)
    | succ n23 ih23 =>
      have hL57 : ∀ (n57 : Nat), ∀ (v_rows : (Nat → Int32)) (v_nextRows : (Nat → Int32)) (x2 : Int32) (x3 : Int32) (x4 : Int32) (x5 : Int32) (H : Heap) (locs : List Loc) (ls : Array Slot), f_X3_countRows_L57 fu (f_X3_countRows_L23 fu n23) n57 v_felt v_feltMarks v_rows v_nextRows m_cornerCount m_streetCount m_marks m_ends m_farEnds x2 x3 x4 x5 = some res → va_P D vwCl [oX3 q v_felt v_walked, rA (q 3) cI 6 v_feltMarks, rA (q 5) cI 7 v_rows, rA (q 6) cI 7 v_nextRows, oX4 qm m_cornerCount m_streetCount m_guideCount m_bellCount m_hand m_handTold, rA (qm 7) cI 7 m_marks, rA (qm 8) cI 9 m_ends, rA (qm 9) cI 9 m_farEnds] H → va_D A [oX3 q v_felt v_walked, rA (q 3) cI 6 v_feltMarks, rA (q 5) cI 7 v_rows, rA (q 6) cI 7 v_nextRows, oX4 qm m_cornerCount m_streetCount m_guideCount m_bellCount m_hand m_handTold, rA (qm 7) cI 7 m_marks, rA (qm 8) cI 9 m_ends, rA (qm 9) cI 9 m_farEnds] → va_S A s.heap H locs → lv_has ls 6 [(0, .ref (q 0)), (1, .ref (qm 0)), (2, .int x2), (3, .int x3), (4, .int x4), (5, .int x5)] → W p l e rm_X3_countRows s m args below meth c H locs 0 0 Q (F0 m 57 ls []) := by
        intro n57
        induction n57 with
        | zero =>
          intro v_rows v_nextRows x2 x3 x4 x5 H locs ls h hP hD hS hl
          cases (show (none : Option R_X3_countRows) = some res from h)
        | succ n57 ih57 =>
          intro v_rows v_nextRows x2 x3 x4 x5 H locs ls h hP hD hS hl
          have h : f_X3_countRows_L57b fu (f_X3_countRows_L23 fu n23) (f_X3_countRows_L57 fu (f_X3_countRows_L23 fu n23) n57) v_felt v_feltMarks v_rows v_nextRows m_cornerCount m_streetCount m_marks m_ends m_farEnds x2 x3 x4 x5 = some res := h
          unfold f_X3_countRows_L57b at h
          refine lv_iload hx hb dX3_countRows_57 (lv_at hl 5 rfl) ?_
          refine lv_aload_n hx hb dX3_countRows_59 rfl (lv_at hl 1 rfl) ?_
          refine va_get (C := RX4) (T := TX4) (N := 15) (v := .int m_cornerCount) hx hb hts iw4 hown hK hP 4 rfl rfl 0 (Nat.le_of_ble_eq_true rfl) lk39 (fun _ h9 => h9) rfl dX3_countRows_60 ?_
          refine lv_icmp_ge (tgt := 110) hx hb dX3_countRows_63 (by decide) (fun c1 => ?_) (fun c1 => ?_)
          · have h := (if_pos c1).symm.trans h
            refine lv_aload_n hx hb dX3_countRows_110 rfl (lv_at hl 0 rfl) ?_
            refine va_get (C := RX3) (T := TX3) (N := 6) (v := .ref (q 6)) hx hb hts iw3 hown hK hP 0 rfl rfl 5 (Nat.le_of_ble_eq_true rfl) lk21 (fun _ h9 => h9) rfl dX3_countRows_111 ?_
            refine lv_iconst (v := 0) hx hb dX3_countRows_114 (by decide) ?_
            refine lv_aload_n hx hb dX3_countRows_115 rfl (lv_at hl 0 rfl) ?_
            refine va_get (C := RX3) (T := TX3) (N := 6) (v := .ref (q 5)) hx hb hts iw3 hown hK hP 0 rfl rfl 4 (Nat.le_of_ble_eq_true rfl) lk18 (fun _ h9 => h9) rfl dX3_countRows_116 ?_
            refine lv_iconst (v := 0) hx hb dX3_countRows_119 (by decide) ?_
            refine lv_aload_n hx hb dX3_countRows_120 rfl (lv_at hl 1 rfl) ?_
            refine va_get (C := RX4) (T := TX4) (N := 15) (v := .int m_cornerCount) hx hb hts iw4 hown hK hP 4 rfl rfl 0 (Nat.le_of_ble_eq_true rfl) lk39 (fun _ h9 => h9) rfl dX3_countRows_121 ?_
            have hy2 := xy_some h
            have h := hy2.2.2.2.2.2
            refine va_copyi (ty := .int) hx hb (hml.trans hl.1.symm) hown (hts (.methodLink RX3 51 arraycopyName) (by decide +kernel)) (hts (.native arraycopyName) (by decide +kernel)) (hts (.static arraycopyName) (by decide +kernel)) (hts (.initialized "java/lang/System") (by decide +kernel)) hK hP hD hS 3 2 0 0 rfl rfl rfl rfl rfl hy2.1 hy2.2.1 hy2.2.2.1 hy2.2.2.2.1 hy2.2.2.2.2.1 (fun _ _ => rfl) (Nat.le_of_ble_eq_true rfl) (by decide +kernel) dX3_countRows_124 (fun H locs hP hD hS => ?_)
            have hP : va_P D vwCl [oX3 q v_felt v_walked, rA (q 3) cI 6 v_feltMarks, rA (q 5) cI 7 (va_cpy v_nextRows v_rows (0 : Int32).toNatClampNeg (0 : Int32).toNatClampNeg m_cornerCount.toNatClampNeg), rA (q 6) cI 7 v_nextRows, oX4 qm m_cornerCount m_streetCount m_guideCount m_bellCount m_hand m_handTold, rA (qm 7) cI 7 m_marks, rA (qm 8) cI 9 m_ends, rA (qm 9) cI 9 m_farEnds] H := hP
            have hD : va_D A [oX3 q v_felt v_walked, rA (q 3) cI 6 v_feltMarks, rA (q 5) cI 7 (va_cpy v_nextRows v_rows (0 : Int32).toNatClampNeg (0 : Int32).toNatClampNeg m_cornerCount.toNatClampNeg), rA (q 6) cI 7 v_nextRows, oX4 qm m_cornerCount m_streetCount m_guideCount m_bellCount m_hand m_handTold, rA (qm 7) cI 7 m_marks, rA (qm 8) cI 9 m_ends, rA (qm 9) cI 9 m_farEnds] := hD
            refine lv_iinc (v := x3 + 1) (lv' := [(3, .int (x3 + 1)), (0, .ref (q 0)), (1, .ref (qm 0)), (2, .int x2), (4, .int x4), (5, .int x5)]) hx hb dX3_countRows_127 hl (k := 3) rfl rfl (by decide) rfl (fun ls hl => ?_)
            refine lv_goto (tgt := 23) hx hb dX3_countRows_130 (by decide) ?_
            exact ih23 (va_cpy v_nextRows v_rows (0 : Int32).toNatClampNeg (0 : Int32).toNatClampNeg m_cornerCount.toNatClampNeg) v_nextRows x2 (x3 + 1) H locs ls h hP hD hS (lv_sub hl [1, 2, 3, 0] rfl)
          · have h := (if_neg c1).symm.trans h
            refine lv_aload_n hx hb dX3_countRows_66 rfl (lv_at hl 0 rfl) ?_
            refine va_get (C := RX3) (T := TX3) (N := 6) (v := .ref (q 6)) hx hb hts iw3 hown hK hP 0 rfl rfl 5 (Nat.le_of_ble_eq_true rfl) lk21 (fun _ h9 => h9) rfl dX3_countRows_67 ?_
            refine lv_iload hx hb dX3_countRows_70 (lv_at hl 5 rfl) ?_
            refine lv_aload_n hx hb dX3_countRows_72 rfl (lv_at hl 1 rfl) ?_
            refine va_get (C := RX4) (T := TX4) (N := 15) (v := .ref (qm 7)) hx hb hts iw4 hown hK hP 4 rfl rfl 6 (Nat.le_of_ble_eq_true rfl) lk44 (fun _ h9 => h9) rfl dX3_countRows_73 ?_
            refine lv_iload hx hb dX3_countRows_76 (lv_at hl 5 rfl) ?_
            obtain ⟨hi3, h⟩ := xb_some h
            refine va_iald hx hb hK hP 5 0 rfl rfl hi3 dX3_countRows_78 ?_
            refine lv_iload hx hb dX3_countRows_79 (lv_at hl 4 rfl) ?_
            refine lv_icmp_eq (tgt := 88) hx hb dX3_countRows_81 (by decide) (fun c4 => ?_) (fun c4 => ?_)
            · have h := (if_pos c4).symm.trans h
              refine lv_iload_n hx hb dX3_countRows_88 rfl (lv_at hl 3 rfl) ?_
              refine lv_if_ne (tgt := 96) hx hb dX3_countRows_89 (by decide) (fun c5 => ?_) (fun c5 => ?_)
              · have h := (if_neg c5).symm.trans h
                refine lv_aload_n hx hb dX3_countRows_96 rfl (lv_at hl 0 rfl) ?_
                refine lv_aload_n hx hb dX3_countRows_97 rfl (lv_at hl 1 rfl) ?_
                refine lv_iload hx hb dX3_countRows_98 (lv_at hl 5 rfl) ?_
                obtain ⟨r6, hr6, h⟩ := xk_some h
                refine vx_VJ (As := [.ref (qm 0), .int x5]) (rest := [.int x5, .ref (q 6)]) hFx (k_X3_rowsInto l D cI cZ cT q qm H.size v_felt v_walked m_cornerCount m_streetCount m_guideCount m_bellCount m_hand m_handTold v_rows m_ends m_farEnds x5 r6 fu hr6) (cwV 2 hts gX3_countRows_X3_rowsInto rfl rfl rfl (by decide +kernel) ⟨Nat.le_of_ble_eq_true rfl, Nat.le_of_ble_eq_true rfl⟩) hK hP hD hS hA [0, 2, 4, 6, 7] rfl rfl 3 0 rfl rfl rfl hl.1 rfl (Nat.le_of_ble_eq_true rfl) dX3_countRows_100 ⟨Nat.zero_le _, Nat.zero_le _⟩ (fun H locs hP hS => ?_)
                obtain ⟨hi7, h⟩ := xb_some h
                refine va_iast hx hb hK hP hD hS 3 0 rfl rfl hi7 dX3_countRows_103 (fun H locs hP hD hS => ?_)
                have hP : va_P D vwCl [oX3 q v_felt v_walked, rA (q 3) cI 6 v_feltMarks, rA (q 5) cI 7 v_rows, rA (q 6) cI 7 (upd v_nextRows x5.toNatClampNeg r6), oX4 qm m_cornerCount m_streetCount m_guideCount m_bellCount m_hand m_handTold, rA (qm 7) cI 7 m_marks, rA (qm 8) cI 9 m_ends, rA (qm 9) cI 9 m_farEnds] H := hP
                have hD : va_D A [oX3 q v_felt v_walked, rA (q 3) cI 6 v_feltMarks, rA (q 5) cI 7 v_rows, rA (q 6) cI 7 (upd v_nextRows x5.toNatClampNeg r6), oX4 qm m_cornerCount m_streetCount m_guideCount m_bellCount m_hand m_handTold, rA (qm 7) cI 7 m_marks, rA (qm 8) cI 9 m_ends, rA (qm 9) cI 9 m_farEnds] := hD
                refine lv_iinc (v := x5 + 1) (lv' := [(5, .int (x5 + 1)), (0, .ref (q 0)), (1, .ref (qm 0)), (2, .int x2), (3, .int x3), (4, .int x4)]) hx hb dX3_countRows_104 hl (k := 5) rfl rfl (by decide) rfl (fun ls hl => ?_)
                refine lv_goto (tgt := 57) hx hb dX3_countRows_107 (by decide) ?_
                exact ih57 v_rows (upd v_nextRows x5.toNatClampNeg r6) x2 x3 x4 (x5 + 1) H locs ls h hP hD hS (lv_sub hl [1, 2, 3, 4, 5, 0] rfl)
              · have h := (if_pos c5).symm.trans h
                refine lv_iconst (v := 1) hx hb dX3_countRows_92 (by decide) ?_
                refine lv_goto (tgt := 103) hx hb dX3_countRows_93 (by decide) ?_
                obtain ⟨hi8, h⟩ := xb_some h
                refine va_iast hx hb hK hP hD hS 3 0 rfl rfl hi8 dX3_countRows_103 (fun H locs hP hD hS => ?_)
                have hP : va_P D vwCl [oX3 q v_felt v_walked, rA (q 3) cI 6 v_feltMarks, rA (q 5) cI 7 v_rows, rA (q 6) cI 7 (upd v_nextRows x5.toNatClampNeg (1 : Int32)), oX4 qm m_cornerCount m_streetCount m_guideCount m_bellCount m_hand m_handTold, rA (qm 7) cI 7 m_marks, rA (qm 8) cI 9 m_ends, rA (qm 9) cI 9 m_farEnds] H := hP
                have hD : va_D A [oX3 q v_felt v_walked, rA (q 3) cI 6 v_feltMarks, rA (q 5) cI 7 v_rows, rA (q 6) cI 7 (upd v_nextRows x5.toNatClampNeg (1 : Int32)), oX4 qm m_cornerCount m_streetCount m_guideCount m_bellCount m_hand m_handTold, rA (qm 7) cI 7 m_marks, rA (qm 8) cI 9 m_ends, rA (qm 9) cI 9 m_farEnds] := hD
                refine lv_iinc (v := x5 + 1) (lv' := [(5, .int (x5 + 1)), (0, .ref (q 0)), (1, .ref (qm 0)), (2, .int x2), (3, .int x3), (4, .int x4)]) hx hb dX3_countRows_104 hl (k := 5) rfl rfl (by decide) rfl (fun ls hl => ?_)
                refine lv_goto (tgt := 57) hx hb dX3_countRows_107 (by decide) ?_
                exact ih57 v_rows (upd v_nextRows x5.toNatClampNeg (1 : Int32)) x2 x3 x4 (x5 + 1) H locs ls h hP hD hS (lv_sub hl [1, 2, 3, 4, 5, 0] rfl)
            · have h := (if_neg c4).symm.trans h
              refine lv_iconst (v := 0) hx hb dX3_countRows_84 (by decide) ?_
              refine lv_goto (tgt := 103) hx hb dX3_countRows_85 (by decide) ?_
              obtain ⟨hi9, h⟩ := xb_some h
              refine va_iast hx hb hK hP hD hS 3 0 rfl rfl hi9 dX3_countRows_103 (fun H locs hP hD hS => ?_)
              have hP : va_P D vwCl [oX3 q v_felt v_walked, rA (q 3) cI 6 v_feltMarks, rA (q 5) cI 7 v_rows, rA (q 6) cI 7 (upd v_nextRows x5.toNatClampNeg (0 : Int32)), oX4 qm m_cornerCount m_streetCount m_guideCount m_bellCount m_hand m_handTold, rA (qm 7) cI 7 m_marks, rA (qm 8) cI 9 m_ends, rA (qm 9) cI 9 m_farEnds] H := hP
              have hD : va_D A [oX3 q v_felt v_walked, rA (q 3) cI 6 v_feltMarks, rA (q 5) cI 7 v_rows, rA (q 6) cI 7 (upd v_nextRows x5.toNatClampNeg (0 : Int32)), oX4 qm m_cornerCount m_streetCount m_guideCount m_bellCount m_hand m_handTold, rA (qm 7) cI 7 m_marks, rA (qm 8) cI 9 m_ends, rA (qm 9) cI 9 m_farEnds] := hD
              refine lv_iinc (v := x5 + 1) (lv' := [(5, .int (x5 + 1)), (0, .ref (q 0)), (1, .ref (qm 0)), (2, .int x2), (3, .int x3), (4, .int x4)]) hx hb dX3_countRows_104 hl (k := 5) rfl rfl (by decide) rfl (fun ls hl => ?_)
              refine lv_goto (tgt := 57) hx hb dX3_countRows_107 (by decide) ?_
              exact ih57 v_rows (upd v_nextRows x5.toNatClampNeg (0 : Int32)) x2 x3 x4 (x5 + 1) H locs ls h hP hD hS (lv_sub hl [1, 2, 3, 4, 5, 0] rfl)
      intro v_rows v_nextRows x2 x3 H locs ls h hP hD hS hl
      have h : f_X3_countRows_L23b fu (f_X3_countRows_L23 fu n23) v_felt v_feltMarks v_rows v_nextRows m_cornerCount m_streetCount m_marks m_ends m_farEnds x2 x3 = some res := h
      unfold f_X3_countRows_L23b at h
      refine lv_iload_n hx hb dX3_countRows_23 rfl (lv_at hl 3 rfl) ?_
      refine lv_aload_n hx hb dX3_countRows_24 rfl (lv_at hl 0 rfl) ?_
      refine va_get (C := RX3) (T := TX3) (N := 6) (v := .int v_felt) hx hb hts iw3 hown hK hP 0 rfl rfl 0 (Nat.le_of_ble_eq_true rfl) lk24 (fun _ h9 => h9) rfl dX3_countRows_25 ?_
      refine lv_icmp_ge (tgt := 133) hx hb dX3_countRows_28 (by decide) (fun c10 => ?_) (fun c10 => ?_)
      · have h := (if_pos c10).symm.trans h
        exact hret (v_rows, v_nextRows) H locs _ ls (Option.some.inj h) hP hD hS dX3_countRows_133
      · have h := (if_neg c10).symm.trans h
        refine lv_aload_n hx hb dX3_countRows_31 rfl (lv_at hl 0 rfl) ?_
        refine va_get (C := RX3) (T := TX3) (N := 6) (v := .ref (q 3)) hx hb hts iw3 hown hK hP 0 rfl rfl 2 (Nat.le_of_ble_eq_true rfl) lk9 (fun _ h9 => h9) rfl dX3_countRows_32 ?_
        refine lv_iload_n hx hb dX3_countRows_35 rfl (lv_at hl 2 rfl) ?_
        refine lv_if_eq (tgt := 50) hx hb dX3_countRows_36 (by decide) (fun c11 => ?_) (fun c11 => ?_)
        · have h := (if_pos c11).symm.trans h
          refine lv_iload_n hx hb dX3_countRows_50 rfl (lv_at hl 3 rfl) ?_
          obtain ⟨hi12, h⟩ := xb_some h
          refine va_iald hx hb hK hP 1 0 rfl rfl hi12 dX3_countRows_51 ?_
          refine lv_istore (lv' := [(4, .int (v_feltMarks x3.toNatClampNeg)), (0, .ref (q 0)), (1, .ref (qm 0)), (2, .int x2), (3, .int x3)]) hx hb dX3_countRows_52 hl (by decide) rfl (fun ls hl => ?_)
          refine lv_iconst (v := 0) hx hb dX3_countRows_54 (by decide) ?_
          refine lv_istore (lv' := [(5, .int (0 : Int32)), (4, .int (v_feltMarks x3.toNatClampNeg)), (0, .ref (q 0)), (1, .ref (qm 0)), (2, .int x2), (3, .int x3)]) hx hb dX3_countRows_55 hl (by decide) rfl (fun ls hl => ?_)
          exact hL57 fu v_rows v_nextRows x2 x3 (v_feltMarks x3.toNatClampNeg) (0 : Int32) H locs ls h hP hD hS (lv_sub hl [2, 3, 4, 5, 1, 0] rfl)
        · have h := (if_neg c11).symm.trans h
          refine lv_aload_n hx hb dX3_countRows_39 rfl (lv_at hl 0 rfl) ?_
          refine va_get (C := RX3) (T := TX3) (N := 6) (v := .int v_felt) hx hb hts iw3 hown hK hP 0 rfl rfl 0 (Nat.le_of_ble_eq_true rfl) lk24 (fun _ h9 => h9) rfl dX3_countRows_40 ?_
          refine lv_iconst (v := 1) hx hb dX3_countRows_43 (by decide) ?_
          refine lv_isub hx hb dX3_countRows_44 ?_
          refine lv_iload_n hx hb dX3_countRows_45 rfl (lv_at hl 3 rfl) ?_
          refine lv_isub hx hb dX3_countRows_46 ?_
          refine lv_goto (tgt := 51) hx hb dX3_countRows_47 (by decide) ?_
          obtain ⟨hi13, h⟩ := xb_some h
          refine va_iald hx hb hK hP 1 0 rfl rfl hi13 dX3_countRows_51 ?_
          refine lv_istore (lv' := [(4, .int (v_feltMarks ((v_felt - (1 : Int32)) - x3).toNatClampNeg)), (0, .ref (q 0)), (1, .ref (qm 0)), (2, .int x2), (3, .int x3)]) hx hb dX3_countRows_52 hl (by decide) rfl (fun ls hl => ?_)
          refine lv_iconst (v := 0) hx hb dX3_countRows_54 (by decide) ?_
          refine lv_istore (lv' := [(5, .int (0 : Int32)), (4, .int (v_feltMarks ((v_felt - (1 : Int32)) - x3).toNatClampNeg)), (0, .ref (q 0)), (1, .ref (qm 0)), (2, .int x2), (3, .int x3)]) hx hb dX3_countRows_55 hl (by decide) rfl (fun ls hl => ?_)
          exact hL57 fu v_rows v_nextRows x2 x3 (v_feltMarks ((v_felt - (1 : Int32)) - x3).toNatClampNeg) (0 : Int32) H locs ls h hP hD hS (lv_sub hl [2, 3, 4, 5, 1, 0] rfl)
  have hL2 : ∀ (n2 : Nat), ∀ (v_rows : (Nat → Int32)) (v_nextRows : (Nat → Int32)) (x2 : Int32) (x3 : Int32) (H : Heap) (locs : List Loc) (ls : Array Slot), f_X3_countRows_L2 fu n2 v_felt v_feltMarks v_rows v_nextRows m_cornerCount m_streetCount m_marks m_ends m_farEnds x2 x3 = some res → va_P D vwCl [oX3 q v_felt v_walked, rA (q 3) cI 6 v_feltMarks, rA (q 5) cI 7 v_rows, rA (q 6) cI 7 v_nextRows, oX4 qm m_cornerCount m_streetCount m_guideCount m_bellCount m_hand m_handTold, rA (qm 7) cI 7 m_marks, rA (qm 8) cI 9 m_ends, rA (qm 9) cI 9 m_farEnds] H → va_D A [oX3 q v_felt v_walked, rA (q 3) cI 6 v_feltMarks, rA (q 5) cI 7 v_rows, rA (q 6) cI 7 v_nextRows, oX4 qm m_cornerCount m_streetCount m_guideCount m_bellCount m_hand m_handTold, rA (qm 7) cI 7 m_marks, rA (qm 8) cI 9 m_ends, rA (qm 9) cI 9 m_farEnds] → va_S A s.heap H locs → lv_has ls 6 [(0, .ref (q 0)), (1, .ref (qm 0)), (2, .int x2), (3, .int x3)] → W p l e rm_X3_countRows s m args below meth c H locs 0 0 Q (F0 m 2 ls []) := by
    intro n2
    induction n2 with
    | zero =>
      intro v_rows v_nextRows x2 x3 H locs ls h hP hD hS hl
      cases (show (none : Option R_X3_countRows) = some res from h)
    | succ n2 ih2 =>
      intro v_rows v_nextRows x2 x3 H locs ls h hP hD hS hl
      have h : f_X3_countRows_L2b fu (f_X3_countRows_L2 fu n2) v_felt v_feltMarks v_rows v_nextRows m_cornerCount m_streetCount m_marks m_ends m_farEnds x2 x3 = some res := h
      unfold f_X3_countRows_L2b at h
      refine lv_iload_n hx hb dX3_countRows_2 rfl (lv_at hl 3 rfl) ?_
      refine lv_bipush (v := 7) hx hb dX3_countRows_3 (by decide) ?_
      refine lv_icmp_ge (tgt := 21) hx hb dX3_countRows_5 (by decide) (fun c14 => ?_) (fun c14 => ?_)
      · have h := (if_pos c14).symm.trans h
        refine lv_iconst (v := 0) hx hb dX3_countRows_21 (by decide) ?_
        refine lv_istore_n (lv' := [(3, .int (0 : Int32)), (0, .ref (q 0)), (1, .ref (qm 0)), (2, .int x2)]) hx hb dX3_countRows_22 rfl hl (by decide) rfl (fun ls hl => ?_)
        exact hL23 fu v_rows v_nextRows x2 (0 : Int32) H locs ls h hP hD hS (lv_sub hl [1, 2, 3, 0] rfl)
      · have h := (if_neg c14).symm.trans h
        refine lv_aload_n hx hb dX3_countRows_8 rfl (lv_at hl 0 rfl) ?_
        refine va_get (C := RX3) (T := TX3) (N := 6) (v := .ref (q 5)) hx hb hts iw3 hown hK hP 0 rfl rfl 4 (Nat.le_of_ble_eq_true rfl) lk18 (fun _ h9 => h9) rfl dX3_countRows_9 ?_
        refine lv_iload_n hx hb dX3_countRows_12 rfl (lv_at hl 3 rfl) ?_
        refine lv_iconst (v := 0) hx hb dX3_countRows_13 (by decide) ?_
        obtain ⟨hi15, h⟩ := xb_some h
        refine va_iast hx hb hK hP hD hS 2 0 rfl rfl hi15 dX3_countRows_14 (fun H locs hP hD hS => ?_)
        have hP : va_P D vwCl [oX3 q v_felt v_walked, rA (q 3) cI 6 v_feltMarks, rA (q 5) cI 7 (upd v_rows x3.toNatClampNeg (0 : Int32)), rA (q 6) cI 7 v_nextRows, oX4 qm m_cornerCount m_streetCount m_guideCount m_bellCount m_hand m_handTold, rA (qm 7) cI 7 m_marks, rA (qm 8) cI 9 m_ends, rA (qm 9) cI 9 m_farEnds] H := hP
        have hD : va_D A [oX3 q v_felt v_walked, rA (q 3) cI 6 v_feltMarks, rA (q 5) cI 7 (upd v_rows x3.toNatClampNeg (0 : Int32)), rA (q 6) cI 7 v_nextRows, oX4 qm m_cornerCount m_streetCount m_guideCount m_bellCount m_hand m_handTold, rA (qm 7) cI 7 m_marks, rA (qm 8) cI 9 m_ends, rA (qm 9) cI 9 m_farEnds] := hD
        refine lv_iinc (v := x3 + 1) (lv' := [(3, .int (x3 + 1)), (0, .ref (q 0)), (1, .ref (qm 0)), (2, .int x2)]) hx hb dX3_countRows_15 hl (k := 3) rfl rfl (by decide) rfl (fun ls hl => ?_)
        refine lv_goto (tgt := 2) hx hb dX3_countRows_18 (by decide) ?_
        exact ih2 (upd v_rows x3.toNatClampNeg (0 : Int32)) v_nextRows x2 (x3 + 1) H locs ls h hP hD hS (lv_sub hl [1, 2, 3, 0] rfl)
  have h := hf
  unfold f_X3_countRows at h
  obtain ⟨H, eH⟩ : ∃ H, H = s.heap := ⟨_, rfl⟩
  rw [← eH] at hP ⊢
  obtain ⟨locs, el⟩ : ∃ locs : List Loc, locs = [] := ⟨_, rfl⟩
  rw [← el] at hS ⊢
  have hS : va_S A s.heap H locs := by rw [eH]; exact hS
  refine lv_iconst (v := 0) hx hb dX3_countRows_0 (by decide) ?_
  refine lv_istore_n (lv' := [(3, .int (0 : Int32)), (0, .ref (q 0)), (1, .ref (qm 0)), (2, .int x2)]) hx hb dX3_countRows_1 rfl hl (by decide) rfl (fun ls hl => ?_)
  exact hL2 fu v_rows v_nextRows x2 (0 : Int32) H locs ls h hP hD hS (lv_sub hl [1, 2, 3, 0] rfl)
abbrev rm_X3_rowCount : Room := { frames := 4, cells := 0, slots := 0, locals := 95 }
set_option maxHeartbeats 4000000 in
set_option maxRecDepth 100000 in
theorem k_X3_rowCount (l : Launch) (D : va_G) (cI cZ cT : ClassId) (q : Nat → Nat) (qm : Nat → Nat) (sz : Nat) (v_felt : Int32) (v_walked : Int32) (m_cornerCount : Int32) (m_streetCount : Int32) (m_guideCount : Int32) (m_bellCount : Int32) (m_hand : Int32) (m_handTold : Int32) (v_feltMarks : Nat → Int32) (v_rows : Nat → Int32) (v_nextRows : Nat → Int32) (m_marks : Nat → Int32) (m_ends : Nat → Int32) (m_farEnds : Nat → Int32) (res : R_X3_rowCount) (fu : Nat) (hf : f_X3_rowCount fu v_felt v_feltMarks v_rows v_nextRows m_cornerCount m_streetCount m_marks m_ends m_farEnds = some res) : Met l yX3_rowCount wsX3_rowCount rm_X3_rowCount (cPre D (tyz cI cZ cT) [.ref (q 0), .ref (qm 0)] sz [oX3 q v_felt v_walked, rA (q 3) cI 6 v_feltMarks, rA (q 5) cI 7 v_rows, rA (q 6) cI 7 v_nextRows, oX4 qm m_cornerCount m_streetCount m_guideCount m_bellCount m_hand m_handTold, rA (qm 7) cI 7 m_marks, rA (qm 8) cI 9 m_ends, rA (qm 9) cI 9 m_farEnds]) (cPi D (tyz cI cZ cT) (fun (r : Int32) (u : (Nat → Int32) × (Nat → Int32)) => (r, u) = res) (fun u => [oX3 q v_felt v_walked, rA (q 3) cI 6 v_feltMarks, rA (q 5) cI 7 u.1, rA (q 6) cI 7 u.2, oX4 qm m_cornerCount m_streetCount m_guideCount m_bellCount m_hand m_handTold, rA (qm 7) cI 7 m_marks, rA (qm 8) cI 9 m_ends, rA (qm 9) cI 9 m_farEnds]) [oX3 q v_felt v_walked, rA (q 3) cI 6 v_feltMarks, rA (q 5) cI 7 v_rows, rA (q 6) cI 7 v_nextRows, oX4 qm m_cornerCount m_streetCount m_guideCount m_bellCount m_hand m_handTold, rA (qm 7) cI 7 m_marks, rA (qm 8) cI 9 m_ends, rA (qm 9) cI 9 m_farEnds] sz) 0 0 (va_A [oX3 q v_felt v_walked, rA (q 3) cI 6 v_feltMarks, rA (q 5) cI 7 v_rows, rA (q 6) cI 7 v_nextRows, oX4 qm m_cornerCount m_streetCount m_guideCount m_bellCount m_hand m_handTold, rA (qm 7) cI 7 m_marks, rA (qm 8) cI 9 m_ends, rA (qm 9) cI 9 m_farEnds] sz) := by
  refine vx_meth_i (by decide) rfl (Nat.le_of_ble_eq_true rfl) ?_
  intro p e s m args below meth c A Q hx hb hml hown hts hK hP hD hA hS hret ls hl
  have hown : s.vm.findClass RX3 = some m.cls := hown
  have hl : lv_has ls 4 [(0, .ref (q 0)), (1, .ref (qm 0))] := hl
  have hFx : CallFix p m c cX3_rowCount 4 s args wsX3_rowCount RX3 := ⟨hx, hb, hml, hown, hts⟩
  have lk18 := hts (.fieldLink RX3 18 "FogGuides$Touches" "rows" "[I") (by decide +kernel)
  have iw3 : ∀ w ∈ u_ws RX3 TX3 6, w ∈ wsX3_rowCount := by decide +kernel
  have hL10 : ∀ (n10 : Nat), ∀ (v_rows : (Nat → Int32)) (v_nextRows : (Nat → Int32)) (x2 : Int32) (x3 : Int32) (H : Heap) (locs : List Loc) (ls : Array Slot), f_X3_rowCount_L10 fu n10 v_felt v_feltMarks v_rows v_nextRows m_cornerCount m_streetCount m_marks m_ends m_farEnds x2 x3 = some res → va_P D vwCl [oX3 q v_felt v_walked, rA (q 3) cI 6 v_feltMarks, rA (q 5) cI 7 v_rows, rA (q 6) cI 7 v_nextRows, oX4 qm m_cornerCount m_streetCount m_guideCount m_bellCount m_hand m_handTold, rA (qm 7) cI 7 m_marks, rA (qm 8) cI 9 m_ends, rA (qm 9) cI 9 m_farEnds] H → va_D A [oX3 q v_felt v_walked, rA (q 3) cI 6 v_feltMarks, rA (q 5) cI 7 v_rows, rA (q 6) cI 7 v_nextRows, oX4 qm m_cornerCount m_streetCount m_guideCount m_bellCount m_hand m_handTold, rA (qm 7) cI 7 m_marks, rA (qm 8) cI 9 m_ends, rA (qm 9) cI 9 m_farEnds] → va_S A s.heap H locs → lv_has ls 4 [(0, .ref (q 0)), (2, .int x2), (3, .int x3)] → W p l e rm_X3_rowCount s m args below meth c H locs 0 0 Q (F0 m 10 ls []) := by
    intro n10
    induction n10 with
    | zero =>
      intro v_rows v_nextRows x2 x3 H locs ls h hP hD hS hl
      cases (show (none : Option R_X3_rowCount) = some res from h)
    | succ n10 ih10 =>
      intro v_rows v_nextRows x2 x3 H locs ls h hP hD hS hl
      have h : f_X3_rowCount_L10b fu (f_X3_rowCount_L10 fu n10) v_felt v_feltMarks v_rows v_nextRows m_cornerCount m_streetCount m_marks m_ends m_farEnds x2 x3 = some res := h
      unfold f_X3_rowCount_L10b at h
      refine lv_iload_n hx hb dX3_rowCount_10 rfl (lv_at hl 2 rfl) ?_
      refine lv_bipush (v := 7) hx hb dX3_rowCount_11 (by decide) ?_
      refine lv_icmp_ge (tgt := 31) hx hb dX3_rowCount_13 (by decide) (fun c1 => ?_) (fun c1 => ?_)
      · have h := (if_pos c1).symm.trans h
        refine lv_iload_n hx hb dX3_rowCount_31 rfl (lv_at hl 1 rfl) ?_
        exact hret x2 (v_rows, v_nextRows) H locs _ ls (Option.some.inj h) hP hD hS dX3_rowCount_32
      · have h := (if_neg c1).symm.trans h
        refine lv_iload_n hx hb dX3_rowCount_16 rfl (lv_at hl 1 rfl) ?_
        refine lv_aload_n hx hb dX3_rowCount_17 rfl (lv_at hl 0 rfl) ?_
        refine va_get (C := RX3) (T := TX3) (N := 6) (v := .ref (q 5)) hx hb hts iw3 hown hK hP 0 rfl rfl 4 (Nat.le_of_ble_eq_true rfl) lk18 (fun _ h9 => h9) rfl dX3_rowCount_18 ?_
        refine lv_iload_n hx hb dX3_rowCount_21 rfl (lv_at hl 2 rfl) ?_
        obtain ⟨hi2, h⟩ := xb_some h
        refine va_iald hx hb hK hP 2 0 rfl rfl hi2 dX3_rowCount_22 ?_
        refine lv_iadd hx hb dX3_rowCount_23 ?_
        refine lv_istore_n (lv' := [(2, .int (x2 + (v_rows x3.toNatClampNeg))), (0, .ref (q 0)), (3, .int x3)]) hx hb dX3_rowCount_24 rfl hl (by decide) rfl (fun ls hl => ?_)
        refine lv_iinc (v := x3 + 1) (lv' := [(3, .int (x3 + 1)), (2, .int (x2 + (v_rows x3.toNatClampNeg))), (0, .ref (q 0))]) hx hb dX3_rowCount_25 hl (k := 2) rfl rfl (by decide) rfl (fun ls hl => ?_)
        refine lv_goto (tgt := 10) hx hb dX3_rowCount_28 (by decide) ?_
        exact ih10 v_rows v_nextRows (x2 + (v_rows x3.toNatClampNeg)) (x3 + 1) H locs ls h hP hD hS (lv_sub hl [2, 1, 0] rfl)
  have h := hf
  unfold f_X3_rowCount at h
  obtain ⟨H, eH⟩ : ∃ H, H = s.heap := ⟨_, rfl⟩
  rw [← eH] at hP ⊢
  obtain ⟨locs, el⟩ : ∃ locs : List Loc, locs = [] := ⟨_, rfl⟩
  rw [← el] at hS ⊢
  have hS : va_S A s.heap H locs := by rw [eH]; exact hS
  refine lv_aload_n hx hb dX3_rowCount_0 rfl (lv_at hl 0 rfl) ?_
  refine lv_aload_n hx hb dX3_rowCount_1 rfl (lv_at hl 1 rfl) ?_
  refine lv_iconst (v := 0) hx hb dX3_rowCount_2 (by decide) ?_
  obtain ⟨r3, hr3, h⟩ := xk_some h
  refine vx_VV (As := [.ref (qm 0), .int (0 : Int32)]) (rest := []) (wr := []) (wn := [oX3 q v_felt v_walked, rA (q 3) cI 6 v_feltMarks, rA (q 5) cI 7 r3.1, rA (q 6) cI 7 r3.2, oX4 qm m_cornerCount m_streetCount m_guideCount m_bellCount m_hand m_handTold, rA (qm 7) cI 7 m_marks, rA (qm 8) cI 9 m_ends, rA (qm 9) cI 9 m_farEnds]) hFx (k_X3_countRows l D cI cZ cT q qm H.size v_felt v_walked m_cornerCount m_streetCount m_guideCount m_bellCount m_hand m_handTold v_feltMarks v_rows v_nextRows m_marks m_ends m_farEnds (0 : Int32) r3 fu hr3) (cwV 2 hts gX3_rowCount_X3_countRows rfl rfl rfl (by decide +kernel) ⟨Nat.le_of_ble_eq_true rfl, Nat.le_of_ble_eq_true rfl⟩) hK hP hD hS hA [0, 1, 2, 3, 4, 5, 6, 7] [] [0, 1, 2, 3, 4, 5, 6, 7] rfl rfl rfl rfl (by decide) rfl rfl 3 0 rfl rfl rfl hl.1 rfl (Nat.le_of_ble_eq_true rfl) dX3_rowCount_3 ⟨Nat.zero_le _, Nat.zero_le _⟩ (fun H locs hP hD hS => ?_)
  refine lv_iconst (v := 0) hx hb dX3_rowCount_6 (by decide) ?_
  refine lv_istore_n (lv' := [(2, .int (0 : Int32)), (0, .ref (q 0)), (1, .ref (qm 0))]) hx hb dX3_rowCount_7 rfl hl (by decide) rfl (fun ls hl => ?_)
  refine lv_iconst (v := 0) hx hb dX3_rowCount_8 (by decide) ?_
  refine lv_istore_n (lv' := [(3, .int (0 : Int32)), (2, .int (0 : Int32)), (0, .ref (q 0)), (1, .ref (qm 0))]) hx hb dX3_rowCount_9 rfl hl (by decide) rfl (fun ls hl => ?_)
  exact hL10 fu r3.1 r3.2 (0 : Int32) (0 : Int32) H locs ls h hP hD hS (lv_sub hl [2, 1, 0] rfl)
abbrev rm_X3_rowEnds : Room := { frames := 0, cells := 0, slots := 0, locals := 0 }
set_option maxHeartbeats 4000000 in
set_option maxRecDepth 100000 in
theorem k_X3_rowEnds (l : Launch) (D : va_G) (cI cZ cT : ClassId) (q : Nat → Nat) (sz : Nat) (v_felt : Int32) (v_walked : Int32) (v_rows : Nat → Int32) (res : R_X3_rowEnds) (fu : Nat) (hf : f_X3_rowEnds fu v_rows = some res) : Met l yX3_rowEnds wsX3_rowEnds rm_X3_rowEnds (cPre D (tyz cI cZ cT) [.ref (q 0)] sz [oX3 q v_felt v_walked, rA (q 5) cI 7 v_rows]) (cPi D (tyz cI cZ cT) (fun (r : Int32) (_ : Unit) => r = res) (fun _ => [oX3 q v_felt v_walked, rA (q 5) cI 7 v_rows]) [oX3 q v_felt v_walked, rA (q 5) cI 7 v_rows] sz) 0 0 (va_A [oX3 q v_felt v_walked, rA (q 5) cI 7 v_rows] sz) := by
  refine vx_meth_i (by decide) rfl (Nat.le_of_ble_eq_true rfl) ?_
  intro p e s m args below meth c A Q hx hb hml hown hts hK hP hD hA hS hret ls hl
  have hown : s.vm.findClass RX3 = some m.cls := hown
  have hl : lv_has ls 3 [(0, .ref (q 0))] := hl
  have hFx : CallFix p m c cX3_rowEnds 3 s args wsX3_rowEnds RX3 := ⟨hx, hb, hml, hown, hts⟩
  have lk18 := hts (.fieldLink RX3 18 "FogGuides$Touches" "rows" "[I") (by decide +kernel)
  have iw3 : ∀ w ∈ u_ws RX3 TX3 6, w ∈ wsX3_rowEnds := by decide +kernel
  have hL4 : ∀ (n4 : Nat), ∀ (x1 : Int32) (x2 : Int32) (H : Heap) (locs : List Loc) (ls : Array Slot), f_X3_rowEnds_L4 fu n4 v_rows x1 x2 = some res → va_P D vwCl [oX3 q v_felt v_walked, rA (q 5) cI 7 v_rows] H → va_D A [oX3 q v_felt v_walked, rA (q 5) cI 7 v_rows] → va_S A s.heap H locs → lv_has ls 3 [(0, .ref (q 0)), (1, .int x1), (2, .int x2)] → W p l e rm_X3_rowEnds s m args below meth c H locs 0 0 Q (F0 m 4 ls []) := by
    intro n4
    induction n4 with
    | zero =>
      intro x1 x2 H locs ls h hP hD hS hl
      cases (show (none : Option R_X3_rowEnds) = some res from h)
    | succ n4 ih4 =>
      intro x1 x2 H locs ls h hP hD hS hl
      have h : f_X3_rowEnds_L4b fu (f_X3_rowEnds_L4 fu n4) v_rows x1 x2 = some res := h
      unfold f_X3_rowEnds_L4b at h
      refine lv_iload_n hx hb dX3_rowEnds_4 rfl (lv_at hl 2 rfl) ?_
      refine lv_bipush (v := 7) hx hb dX3_rowEnds_5 (by decide) ?_
      refine lv_icmp_ge (tgt := 31) hx hb dX3_rowEnds_7 (by decide) (fun c1 => ?_) (fun c1 => ?_)
      · have h := (if_pos c1).symm.trans h
        refine lv_iload_n hx hb dX3_rowEnds_31 rfl (lv_at hl 1 rfl) ?_
        exact hret x1 () H locs _ ls (Option.some.inj h) hP hD hS dX3_rowEnds_32
      · have h := (if_neg c1).symm.trans h
        refine lv_aload_n hx hb dX3_rowEnds_10 rfl (lv_at hl 0 rfl) ?_
        refine va_get (C := RX3) (T := TX3) (N := 6) (v := .ref (q 5)) hx hb hts iw3 hown hK hP 0 rfl rfl 4 (Nat.le_of_ble_eq_true rfl) lk18 (fun _ h9 => h9) rfl dX3_rowEnds_11 ?_
        refine lv_iload_n hx hb dX3_rowEnds_14 rfl (lv_at hl 2 rfl) ?_
        obtain ⟨hi2, h⟩ := xb_some h
        refine va_iald hx hb hK hP 1 0 rfl rfl hi2 dX3_rowEnds_15 ?_
        refine lv_if_le (tgt := 25) hx hb dX3_rowEnds_16 (by decide) (fun c3 => ?_) (fun c3 => ?_)
        · have h := (if_pos c3).symm.trans h
          refine lv_iinc (v := x2 + 1) (lv' := [(2, .int (x2 + 1)), (0, .ref (q 0)), (1, .int x1)]) hx hb dX3_rowEnds_25 hl (k := 2) rfl rfl (by decide) rfl (fun ls hl => ?_)
          refine lv_goto (tgt := 4) hx hb dX3_rowEnds_28 (by decide) ?_
          exact ih4 x1 (x2 + 1) H locs ls h hP hD hS (lv_sub hl [1, 2, 0] rfl)
        · have h := (if_neg c3).symm.trans h
          refine lv_iload_n hx hb dX3_rowEnds_19 rfl (lv_at hl 1 rfl) ?_
          refine lv_iconst (v := 1) hx hb dX3_rowEnds_20 (by decide) ?_
          refine lv_iload_n hx hb dX3_rowEnds_21 rfl (lv_at hl 2 rfl) ?_
          refine lv_ishl hx hb dX3_rowEnds_22 ?_
          refine lv_ior hx hb dX3_rowEnds_23 ?_
          refine lv_istore_n (lv' := [(1, .int (x1 ||| ((1 : Int32) <<< (x2 &&& 31)))), (0, .ref (q 0)), (2, .int x2)]) hx hb dX3_rowEnds_24 rfl hl (by decide) rfl (fun ls hl => ?_)
          refine lv_iinc (v := x2 + 1) (lv' := [(2, .int (x2 + 1)), (1, .int (x1 ||| ((1 : Int32) <<< (x2 &&& 31)))), (0, .ref (q 0))]) hx hb dX3_rowEnds_25 hl (k := 2) rfl rfl (by decide) rfl (fun ls hl => ?_)
          refine lv_goto (tgt := 4) hx hb dX3_rowEnds_28 (by decide) ?_
          exact ih4 (x1 ||| ((1 : Int32) <<< (x2 &&& 31))) (x2 + 1) H locs ls h hP hD hS (lv_sub hl [2, 1, 0] rfl)
  have h := hf
  unfold f_X3_rowEnds at h
  obtain ⟨H, eH⟩ : ∃ H, H = s.heap := ⟨_, rfl⟩
  rw [← eH] at hP ⊢
  obtain ⟨locs, el⟩ : ∃ locs : List Loc, locs = [] := ⟨_, rfl⟩
  rw [← el] at hS ⊢
  have hS : va_S A s.heap H locs := by rw [eH]; exact hS
  refine lv_iconst (v := 0) hx hb dX3_rowEnds_0 (by decide) ?_
  refine lv_istore_n (lv' := [(1, .int (0 : Int32)), (0, .ref (q 0))]) hx hb dX3_rowEnds_1 rfl hl (by decide) rfl (fun ls hl => ?_)
  refine lv_iconst (v := 0) hx hb dX3_rowEnds_2 (by decide) ?_
  refine lv_istore_n (lv' := [(2, .int (0 : Int32)), (1, .int (0 : Int32)), (0, .ref (q 0))]) hx hb dX3_rowEnds_3 rfl hl (by decide) rfl (fun ls hl => ?_)
  exact hL4 fu (0 : Int32) (0 : Int32) H locs ls h hP hD hS (lv_sub hl [2, 1, 0] rfl)
abbrev rm_X3_lastCorners : Room := { frames := 4, cells := 0, slots := 0, locals := 95 }
set_option maxHeartbeats 4000000 in
set_option maxRecDepth 100000 in
theorem k_X3_lastCorners (l : Launch) (D : va_G) (cI cZ cT : ClassId) (q : Nat → Nat) (qm : Nat → Nat) (sz : Nat) (v_felt : Int32) (v_walked : Int32) (m_cornerCount : Int32) (m_streetCount : Int32) (m_guideCount : Int32) (m_bellCount : Int32) (m_hand : Int32) (m_handTold : Int32) (v_feltMarks : Nat → Int32) (v_rows : Nat → Int32) (v_nextRows : Nat → Int32) (m_marks : Nat → Int32) (m_ends : Nat → Int32) (m_farEnds : Nat → Int32) (res : R_X3_lastCorners) (fu : Nat) (hf : f_X3_lastCorners fu v_felt v_feltMarks v_rows v_nextRows m_cornerCount m_streetCount m_marks m_ends m_farEnds = some res) : Met l yX3_lastCorners wsX3_lastCorners rm_X3_lastCorners (cPre D (tyz cI cZ cT) [.ref (q 0), .ref (qm 0)] sz [oX3 q v_felt v_walked, rA (q 3) cI 6 v_feltMarks, rA (q 5) cI 7 v_rows, rA (q 6) cI 7 v_nextRows, oX4 qm m_cornerCount m_streetCount m_guideCount m_bellCount m_hand m_handTold, rA (qm 7) cI 7 m_marks, rA (qm 8) cI 9 m_ends, rA (qm 9) cI 9 m_farEnds]) (cPi D (tyz cI cZ cT) (fun (r : Int32) (u : (Nat → Int32) × (Nat → Int32)) => (r, u) = res) (fun u => [oX3 q v_felt v_walked, rA (q 3) cI 6 v_feltMarks, rA (q 5) cI 7 u.1, rA (q 6) cI 7 u.2, oX4 qm m_cornerCount m_streetCount m_guideCount m_bellCount m_hand m_handTold, rA (qm 7) cI 7 m_marks, rA (qm 8) cI 9 m_ends, rA (qm 9) cI 9 m_farEnds]) [oX3 q v_felt v_walked, rA (q 3) cI 6 v_feltMarks, rA (q 5) cI 7 v_rows, rA (q 6) cI 7 v_nextRows, oX4 qm m_cornerCount m_streetCount m_guideCount m_bellCount m_hand m_handTold, rA (qm 7) cI 7 m_marks, rA (qm 8) cI 9 m_ends, rA (qm 9) cI 9 m_farEnds] sz) 0 0 (va_A [oX3 q v_felt v_walked, rA (q 3) cI 6 v_feltMarks, rA (q 5) cI 7 v_rows, rA (q 6) cI 7 v_nextRows, oX4 qm m_cornerCount m_streetCount m_guideCount m_bellCount m_hand m_handTold, rA (qm 7) cI 7 m_marks, rA (qm 8) cI 9 m_ends, rA (qm 9) cI 9 m_farEnds] sz) := by
  refine vx_meth_i (by decide) rfl (Nat.le_of_ble_eq_true rfl) ?_
  intro p e s m args below meth c A Q hx hb hml hown hts hK hP hD hA hS hret ls hl
  have hown : s.vm.findClass RX3 = some m.cls := hown
  have hl : lv_has ls 2 [(0, .ref (q 0)), (1, .ref (qm 0))] := hl
  have hFx : CallFix p m c cX3_lastCorners 2 s args wsX3_lastCorners RX3 := ⟨hx, hb, hml, hown, hts⟩
  have h := hf
  unfold f_X3_lastCorners at h
  obtain ⟨H, eH⟩ : ∃ H, H = s.heap := ⟨_, rfl⟩
  rw [← eH] at hP ⊢
  obtain ⟨locs, el⟩ : ∃ locs : List Loc, locs = [] := ⟨_, rfl⟩
  rw [← el] at hS ⊢
  have hS : va_S A s.heap H locs := by rw [eH]; exact hS
  refine lv_aload_n hx hb dX3_lastCorners_0 rfl (lv_at hl 0 rfl) ?_
  refine lv_aload_n hx hb dX3_lastCorners_1 rfl (lv_at hl 1 rfl) ?_
  refine lv_iconst (v := 0) hx hb dX3_lastCorners_2 (by decide) ?_
  obtain ⟨r1, hr1, h⟩ := xk_some h
  refine vx_VV (As := [.ref (qm 0), .int (0 : Int32)]) (rest := []) (wr := []) (wn := [oX3 q v_felt v_walked, rA (q 3) cI 6 v_feltMarks, rA (q 5) cI 7 r1.1, rA (q 6) cI 7 r1.2, oX4 qm m_cornerCount m_streetCount m_guideCount m_bellCount m_hand m_handTold, rA (qm 7) cI 7 m_marks, rA (qm 8) cI 9 m_ends, rA (qm 9) cI 9 m_farEnds]) hFx (k_X3_countRows l D cI cZ cT q qm H.size v_felt v_walked m_cornerCount m_streetCount m_guideCount m_bellCount m_hand m_handTold v_feltMarks v_rows v_nextRows m_marks m_ends m_farEnds (0 : Int32) r1 fu hr1) (cwV 2 hts gX3_lastCorners_X3_countRows rfl rfl rfl (by decide +kernel) ⟨Nat.le_of_ble_eq_true rfl, Nat.le_of_ble_eq_true rfl⟩) hK hP hD hS hA [0, 1, 2, 3, 4, 5, 6, 7] [] [0, 1, 2, 3, 4, 5, 6, 7] rfl rfl rfl rfl (by decide) rfl rfl 3 0 rfl rfl rfl hl.1 rfl (Nat.le_of_ble_eq_true rfl) dX3_lastCorners_3 ⟨Nat.zero_le _, Nat.zero_le _⟩ (fun H locs hP hD hS => ?_)
  refine lv_aload_n hx hb dX3_lastCorners_6 rfl (lv_at hl 0 rfl) ?_
  obtain ⟨r2, hr2, h⟩ := xk_some h
  refine vx_VJ (As := []) (rest := []) hFx (k_X3_rowEnds l D cI cZ cT q H.size v_felt v_walked r1.1 r2 fu hr2) (cwV 0 hts gX3_lastCorners_X3_rowEnds rfl rfl rfl (by decide +kernel) ⟨Nat.le_of_ble_eq_true rfl, Nat.le_of_ble_eq_true rfl⟩) hK hP hD hS hA [0, 2] rfl rfl 3 0 rfl rfl rfl hl.1 rfl (Nat.le_of_ble_eq_true rfl) dX3_lastCorners_7 ⟨Nat.zero_le _, Nat.zero_le _⟩ (fun H locs hP hS => ?_)
  exact hret r2 (r1.1, r1.2) H locs _ ls (Option.some.inj h) hP hD hS dX3_lastCorners_10
abbrev rm_X3_firstCorners : Room := { frames := 4, cells := 0, slots := 0, locals := 95 }
set_option maxHeartbeats 4000000 in
set_option maxRecDepth 100000 in
theorem k_X3_firstCorners (l : Launch) (D : va_G) (cI cZ cT : ClassId) (q : Nat → Nat) (qm : Nat → Nat) (sz : Nat) (v_felt : Int32) (v_walked : Int32) (m_cornerCount : Int32) (m_streetCount : Int32) (m_guideCount : Int32) (m_bellCount : Int32) (m_hand : Int32) (m_handTold : Int32) (v_feltMarks : Nat → Int32) (v_rows : Nat → Int32) (v_nextRows : Nat → Int32) (m_marks : Nat → Int32) (m_ends : Nat → Int32) (m_farEnds : Nat → Int32) (res : R_X3_firstCorners) (fu : Nat) (hf : f_X3_firstCorners fu v_felt v_feltMarks v_rows v_nextRows m_cornerCount m_streetCount m_marks m_ends m_farEnds = some res) : Met l yX3_firstCorners wsX3_firstCorners rm_X3_firstCorners (cPre D (tyz cI cZ cT) [.ref (q 0), .ref (qm 0)] sz [oX3 q v_felt v_walked, rA (q 3) cI 6 v_feltMarks, rA (q 5) cI 7 v_rows, rA (q 6) cI 7 v_nextRows, oX4 qm m_cornerCount m_streetCount m_guideCount m_bellCount m_hand m_handTold, rA (qm 7) cI 7 m_marks, rA (qm 8) cI 9 m_ends, rA (qm 9) cI 9 m_farEnds]) (cPi D (tyz cI cZ cT) (fun (r : Int32) (u : (Nat → Int32) × (Nat → Int32)) => (r, u) = res) (fun u => [oX3 q v_felt v_walked, rA (q 3) cI 6 v_feltMarks, rA (q 5) cI 7 u.1, rA (q 6) cI 7 u.2, oX4 qm m_cornerCount m_streetCount m_guideCount m_bellCount m_hand m_handTold, rA (qm 7) cI 7 m_marks, rA (qm 8) cI 9 m_ends, rA (qm 9) cI 9 m_farEnds]) [oX3 q v_felt v_walked, rA (q 3) cI 6 v_feltMarks, rA (q 5) cI 7 v_rows, rA (q 6) cI 7 v_nextRows, oX4 qm m_cornerCount m_streetCount m_guideCount m_bellCount m_hand m_handTold, rA (qm 7) cI 7 m_marks, rA (qm 8) cI 9 m_ends, rA (qm 9) cI 9 m_farEnds] sz) 0 0 (va_A [oX3 q v_felt v_walked, rA (q 3) cI 6 v_feltMarks, rA (q 5) cI 7 v_rows, rA (q 6) cI 7 v_nextRows, oX4 qm m_cornerCount m_streetCount m_guideCount m_bellCount m_hand m_handTold, rA (qm 7) cI 7 m_marks, rA (qm 8) cI 9 m_ends, rA (qm 9) cI 9 m_farEnds] sz) := by
  refine vx_meth_i (by decide) rfl (Nat.le_of_ble_eq_true rfl) ?_
  intro p e s m args below meth c A Q hx hb hml hown hts hK hP hD hA hS hret ls hl
  have hown : s.vm.findClass RX3 = some m.cls := hown
  have hl : lv_has ls 2 [(0, .ref (q 0)), (1, .ref (qm 0))] := hl
  have hFx : CallFix p m c cX3_firstCorners 2 s args wsX3_firstCorners RX3 := ⟨hx, hb, hml, hown, hts⟩
  have h := hf
  unfold f_X3_firstCorners at h
  obtain ⟨H, eH⟩ : ∃ H, H = s.heap := ⟨_, rfl⟩
  rw [← eH] at hP ⊢
  obtain ⟨locs, el⟩ : ∃ locs : List Loc, locs = [] := ⟨_, rfl⟩
  rw [← el] at hS ⊢
  have hS : va_S A s.heap H locs := by rw [eH]; exact hS
  refine lv_aload_n hx hb dX3_firstCorners_0 rfl (lv_at hl 0 rfl) ?_
  refine lv_aload_n hx hb dX3_firstCorners_1 rfl (lv_at hl 1 rfl) ?_
  refine lv_iconst (v := 1) hx hb dX3_firstCorners_2 (by decide) ?_
  obtain ⟨r1, hr1, h⟩ := xk_some h
  refine vx_VV (As := [.ref (qm 0), .int (1 : Int32)]) (rest := []) (wr := []) (wn := [oX3 q v_felt v_walked, rA (q 3) cI 6 v_feltMarks, rA (q 5) cI 7 r1.1, rA (q 6) cI 7 r1.2, oX4 qm m_cornerCount m_streetCount m_guideCount m_bellCount m_hand m_handTold, rA (qm 7) cI 7 m_marks, rA (qm 8) cI 9 m_ends, rA (qm 9) cI 9 m_farEnds]) hFx (k_X3_countRows l D cI cZ cT q qm H.size v_felt v_walked m_cornerCount m_streetCount m_guideCount m_bellCount m_hand m_handTold v_feltMarks v_rows v_nextRows m_marks m_ends m_farEnds (1 : Int32) r1 fu hr1) (cwV 2 hts gX3_firstCorners_X3_countRows rfl rfl rfl (by decide +kernel) ⟨Nat.le_of_ble_eq_true rfl, Nat.le_of_ble_eq_true rfl⟩) hK hP hD hS hA [0, 1, 2, 3, 4, 5, 6, 7] [] [0, 1, 2, 3, 4, 5, 6, 7] rfl rfl rfl rfl (by decide) rfl rfl 3 0 rfl rfl rfl hl.1 rfl (Nat.le_of_ble_eq_true rfl) dX3_firstCorners_3 ⟨Nat.zero_le _, Nat.zero_le _⟩ (fun H locs hP hD hS => ?_)
  refine lv_aload_n hx hb dX3_firstCorners_6 rfl (lv_at hl 0 rfl) ?_
  obtain ⟨r2, hr2, h⟩ := xk_some h
  refine vx_VJ (As := []) (rest := []) hFx (k_X3_rowEnds l D cI cZ cT q H.size v_felt v_walked r1.1 r2 fu hr2) (cwV 0 hts gX3_firstCorners_X3_rowEnds rfl rfl rfl (by decide +kernel) ⟨Nat.le_of_ble_eq_true rfl, Nat.le_of_ble_eq_true rfl⟩) hK hP hD hS hA [0, 2] rfl rfl 3 0 rfl rfl rfl hl.1 rfl (Nat.le_of_ble_eq_true rfl) dX3_firstCorners_7 ⟨Nat.zero_le _, Nat.zero_le _⟩ (fun H locs hP hS => ?_)
  exact hret r2 (r1.1, r1.2) H locs _ ls (Option.some.inj h) hP hD hS dX3_firstCorners_10
abbrev rm_X3_isOnlyFalse : Room := { frames := 0, cells := 0, slots := 0, locals := 0 }
set_option maxHeartbeats 4000000 in
set_option maxRecDepth 100000 in
theorem k_X3_isOnlyFalse (l : Launch) (D : va_G) (cI cZ cT : ClassId) (q : Nat → Nat) (qm : Nat → Nat) (sz : Nat) (v_felt : Int32) (v_walked : Int32) (m_cornerCount : Int32) (m_streetCount : Int32) (m_guideCount : Int32) (m_bellCount : Int32) (m_hand : Int32) (m_handTold : Int32) (v_feltMarks : Nat → Int32) (v_walkedCorners : Nat → Int32) (m_marks : Nat → Int32) (x2 : Int32) (res : R_X3_isOnlyFalse) (fu : Nat) (hf : f_X3_isOnlyFalse fu v_felt v_walked v_feltMarks v_walkedCorners m_marks x2 = some res) : Met l yX3_isOnlyFalse wsX3_isOnlyFalse rm_X3_isOnlyFalse (cPre D (tyz cI cZ cT) [.ref (q 0), .ref (qm 0), .int x2] sz [oX3 q v_felt v_walked, rA (q 3) cI 6 v_feltMarks, rA (q 4) cI 6 v_walkedCorners, oX4 qm m_cornerCount m_streetCount m_guideCount m_bellCount m_hand m_handTold, rA (qm 7) cI 7 m_marks]) (cPi D (tyz cI cZ cT) (fun (r : Int32) (_ : Unit) => r = res) (fun _ => [oX3 q v_felt v_walked, rA (q 3) cI 6 v_feltMarks, rA (q 4) cI 6 v_walkedCorners, oX4 qm m_cornerCount m_streetCount m_guideCount m_bellCount m_hand m_handTold, rA (qm 7) cI 7 m_marks]) [oX3 q v_felt v_walked, rA (q 3) cI 6 v_feltMarks, rA (q 4) cI 6 v_walkedCorners, oX4 qm m_cornerCount m_streetCount m_guideCount m_bellCount m_hand m_handTold, rA (qm 7) cI 7 m_marks] sz) 0 0 (va_A [oX3 q v_felt v_walked, rA (q 3) cI 6 v_feltMarks, rA (q 4) cI 6 v_walkedCorners, oX4 qm m_cornerCount m_streetCount m_guideCount m_bellCount m_hand m_handTold, rA (qm 7) cI 7 m_marks] sz) := by
  refine vx_meth_z (by decide) rfl (Nat.le_of_ble_eq_true rfl) ?_
  intro p e s m args below meth c A Q hx hb hml hown hts hK hP hD hA hS hret ls hl
  have hown : s.vm.findClass RX3 = some m.cls := hown
  have hl : lv_has ls 6 [(0, .ref (q 0)), (1, .ref (qm 0)), (2, .int x2)] := hl
  have hFx : CallFix p m c cX3_isOnlyFalse 6 s args wsX3_isOnlyFalse RX3 := ⟨hx, hb, hml, hown, hts⟩
  have lk9 := hts (.fieldLink RX3 9 "FogGuides$Touches" "feltMarks" "[I") (by decide +kernel)
  have iw3 : ∀ w ∈ u_ws RX3 TX3 6, w ∈ wsX3_isOnlyFalse := by decide +kernel
  have lk24 := hts (.fieldLink RX3 24 "FogGuides$Touches" "felt" "I") (by decide +kernel)
  have lk28 := hts (.fieldLink RX3 28 "FogGuides$Touches" "walked" "I") (by decide +kernel)
  have lk44 := hts (.fieldLink RX3 44 "FogGuides$TownMap" "marks" "[I") (by decide +kernel)
  have iw4 : ∀ w ∈ u_ws RX4 TX4 15, w ∈ wsX3_isOnlyFalse := by decide +kernel
  have lk15 := hts (.fieldLink RX3 15 "FogGuides$Touches" "walkedCorners" "[I") (by decide +kernel)
  have hJ108 : ∀ (x3 : Int32) (H : Heap) (locs : List Loc) (ls : Array Slot), f_X3_isOnlyFalse_J108 fu v_felt v_walked v_feltMarks v_walkedCorners m_marks x3 = some res → va_P D vwCl [oX3 q v_felt v_walked, rA (q 3) cI 6 v_feltMarks, rA (q 4) cI 6 v_walkedCorners, oX4 qm m_cornerCount m_streetCount m_guideCount m_bellCount m_hand m_handTold, rA (qm 7) cI 7 m_marks] H → va_D A [oX3 q v_felt v_walked, rA (q 3) cI 6 v_feltMarks, rA (q 4) cI 6 v_walkedCorners, oX4 qm m_cornerCount m_streetCount m_guideCount m_bellCount m_hand m_handTold, rA (qm 7) cI 7 m_marks] → va_S A s.heap H locs → lv_has ls 6 [(3, .int x3)] → W p l e rm_X3_isOnlyFalse s m args below meth c H locs 0 0 Q (F0 m 108 ls []) := by
    intro x3 H locs ls h hP hD hS hl
    unfold f_X3_isOnlyFalse_J108 at h
    refine lv_iload_n hx hb dX3_isOnlyFalse_108 rfl (lv_at hl 0 rfl) ?_
    refine lv_bipush (v := (-9)) hx hb dX3_isOnlyFalse_109 (by decide) ?_
    refine lv_icmp_eq (tgt := 118) hx hb dX3_isOnlyFalse_111 (by decide) (fun c1 => ?_) (fun c1 => ?_)
    · have h := (if_pos c1).symm.trans h
      refine lv_iconst (v := 0) hx hb dX3_isOnlyFalse_118 (by decide) ?_
      exact hret (0 : Int32) () H locs _ ls (Or.inl rfl) (Option.some.inj h) hP hD hS dX3_isOnlyFalse_119
    · have h := (if_neg c1).symm.trans h
      refine lv_iconst (v := 1) hx hb dX3_isOnlyFalse_114 (by decide) ?_
      refine lv_goto (tgt := 119) hx hb dX3_isOnlyFalse_115 (by decide) ?_
      exact hret (1 : Int32) () H locs _ ls (Or.inr rfl) (Option.some.inj h) hP hD hS dX3_isOnlyFalse_119
  have hL6 : ∀ (n6 : Nat), ∀ (x2 : Int32) (x3 : Int32) (x4 : Int32) (H : Heap) (locs : List Loc) (ls : Array Slot), f_X3_isOnlyFalse_L6 fu n6 v_felt v_walked v_feltMarks v_walkedCorners m_marks x2 x3 x4 = some res → va_P D vwCl [oX3 q v_felt v_walked, rA (q 3) cI 6 v_feltMarks, rA (q 4) cI 6 v_walkedCorners, oX4 qm m_cornerCount m_streetCount m_guideCount m_bellCount m_hand m_handTold, rA (qm 7) cI 7 m_marks] H → va_D A [oX3 q v_felt v_walked, rA (q 3) cI 6 v_feltMarks, rA (q 4) cI 6 v_walkedCorners, oX4 qm m_cornerCount m_streetCount m_guideCount m_bellCount m_hand m_handTold, rA (qm 7) cI 7 m_marks] → va_S A s.heap H locs → lv_has ls 6 [(0, .ref (q 0)), (1, .ref (qm 0)), (2, .int x2), (3, .int x3), (4, .int x4)] → W p l e rm_X3_isOnlyFalse s m args below meth c H locs 0 0 Q (F0 m 6 ls []) := by
    intro n6
    induction n6 with
    | zero =>
      intro x2 x3 x4 H locs ls h hP hD hS hl
      cases (show (none : Option R_X3_isOnlyFalse) = some res from h)
    | succ n6 ih6 =>
      have hJ94 : ∀ (x2 : Int32) (x4 : Int32) (H : Heap) (locs : List Loc) (ls : Array Slot), f_X3_isOnlyFalse_J94 fu (f_X3_isOnlyFalse_L6 fu n6) v_felt v_walked v_feltMarks v_walkedCorners m_marks x2 x4 = some res → va_P D vwCl [oX3 q v_felt v_walked, rA (q 3) cI 6 v_feltMarks, rA (q 4) cI 6 v_walkedCorners, oX4 qm m_cornerCount m_streetCount m_guideCount m_bellCount m_hand m_handTold, rA (qm 7) cI 7 m_marks] H → va_D A [oX3 q v_felt v_walked, rA (q 3) cI 6 v_feltMarks, rA (q 4) cI 6 v_walkedCorners, oX4 qm m_cornerCount m_streetCount m_guideCount m_bellCount m_hand m_handTold, rA (qm 7) cI 7 m_marks] → va_S A s.heap H locs → lv_has ls 6 [(0, .ref (q 0)), (1, .ref (qm 0)), (2, .int x2), (4, .int x4)] → W p l e rm_X3_isOnlyFalse s m args below meth c H locs 0 0 Q (F0 m 94 ls []) := by
        intro x2 x4 H locs ls h hP hD hS hl
        unfold f_X3_isOnlyFalse_J94 at h
        refine lv_aload_n hx hb dX3_isOnlyFalse_94 rfl (lv_at hl 0 rfl) ?_
        refine va_get (C := RX3) (T := TX3) (N := 6) (v := .ref (q 3)) hx hb hts iw3 hown hK hP 0 rfl rfl 2 (Nat.le_of_ble_eq_true rfl) lk9 (fun _ h9 => h9) rfl dX3_isOnlyFalse_95 ?_
        refine lv_iload hx hb dX3_isOnlyFalse_98 (lv_at hl 3 rfl) ?_
        obtain ⟨hi2, h⟩ := xb_some h
        refine va_iald hx hb hK hP 1 0 rfl rfl hi2 dX3_isOnlyFalse_100 ?_
        refine lv_istore_n (lv' := [(3, .int (v_feltMarks x4.toNatClampNeg)), (0, .ref (q 0)), (1, .ref (qm 0)), (2, .int x2), (4, .int x4)]) hx hb dX3_isOnlyFalse_101 rfl hl (by decide) rfl (fun ls hl => ?_)
        refine lv_iinc (v := x4 + 1) (lv' := [(4, .int (x4 + 1)), (3, .int (v_feltMarks x4.toNatClampNeg)), (0, .ref (q 0)), (1, .ref (qm 0)), (2, .int x2)]) hx hb dX3_isOnlyFalse_102 hl (k := 4) rfl rfl (by decide) rfl (fun ls hl => ?_)
        refine lv_goto (tgt := 6) hx hb dX3_isOnlyFalse_105 (by decide) ?_
        exact ih6 x2 (v_feltMarks x4.toNatClampNeg) (x4 + 1) H locs ls h hP hD hS (lv_sub hl [2, 3, 4, 1, 0] rfl)
      intro x2 x3 x4 H locs ls h hP hD hS hl
      have h : f_X3_isOnlyFalse_L6b fu (f_X3_isOnlyFalse_L6 fu n6) v_felt v_walked v_feltMarks v_walkedCorners m_marks x2 x3 x4 = some res := h
      unfold f_X3_isOnlyFalse_L6b at h
      refine lv_iload hx hb dX3_isOnlyFalse_6 (lv_at hl 4 rfl) ?_
      refine lv_aload_n hx hb dX3_isOnlyFalse_8 rfl (lv_at hl 0 rfl) ?_
      refine va_get (C := RX3) (T := TX3) (N := 6) (v := .int v_felt) hx hb hts iw3 hown hK hP 0 rfl rfl 0 (Nat.le_of_ble_eq_true rfl) lk24 (fun _ h9 => h9) rfl dX3_isOnlyFalse_9 ?_
      refine lv_icmp_ge (tgt := 108) hx hb dX3_isOnlyFalse_12 (by decide) (fun c3 => ?_) (fun c3 => ?_)
      · have h := (if_pos c3).symm.trans h
        exact hJ108 x3 H locs ls h hP hD hS (lv_sub hl [3] rfl)
      · have h := (if_neg c3).symm.trans h
        refine lv_iload hx hb dX3_isOnlyFalse_15 (lv_at hl 4 rfl) ?_
        refine lv_aload_n hx hb dX3_isOnlyFalse_17 rfl (lv_at hl 0 rfl) ?_
        refine va_get (C := RX3) (T := TX3) (N := 6) (v := .int v_walked) hx hb hts iw3 hown hK hP 0 rfl rfl 1 (Nat.le_of_ble_eq_true rfl) lk28 (fun _ h9 => h9) rfl dX3_isOnlyFalse_18 ?_
        refine lv_icmp_ge (tgt := 108) hx hb dX3_isOnlyFalse_21 (by decide) (fun c4 => ?_) (fun c4 => ?_)
        · have h := (if_pos c4).symm.trans h
          exact hJ108 x3 H locs ls h hP hD hS (lv_sub hl [3] rfl)
        · have h := (if_neg c4).symm.trans h
          refine lv_aload_n hx hb dX3_isOnlyFalse_24 rfl (lv_at hl 1 rfl) ?_
          refine va_get (C := RX4) (T := TX4) (N := 15) (v := .ref (qm 7)) hx hb hts iw4 hown hK hP 3 rfl rfl 6 (Nat.le_of_ble_eq_true rfl) lk44 (fun _ h9 => h9) rfl dX3_isOnlyFalse_25 ?_
          refine lv_aload_n hx hb dX3_isOnlyFalse_28 rfl (lv_at hl 0 rfl) ?_
          refine va_get (C := RX3) (T := TX3) (N := 6) (v := .ref (q 4)) hx hb hts iw3 hown hK hP 0 rfl rfl 3 (Nat.le_of_ble_eq_true rfl) lk15 (fun _ h9 => h9) rfl dX3_isOnlyFalse_29 ?_
          refine lv_iload hx hb dX3_isOnlyFalse_32 (lv_at hl 4 rfl) ?_
          obtain ⟨hi5, h⟩ := xb_some h
          refine va_iald hx hb hK hP 2 0 rfl rfl hi5 dX3_isOnlyFalse_34 ?_
          obtain ⟨hi6, h⟩ := xb_some h
          refine va_iald hx hb hK hP 4 0 rfl rfl hi6 dX3_isOnlyFalse_35 ?_
          refine lv_istore (lv' := [(5, .int (m_marks (v_walkedCorners x4.toNatClampNeg).toNatClampNeg)), (0, .ref (q 0)), (1, .ref (qm 0)), (2, .int x2), (3, .int x3), (4, .int x4)]) hx hb dX3_isOnlyFalse_36 hl (by decide) rfl (fun ls hl => ?_)
          refine lv_aload_n hx hb dX3_isOnlyFalse_38 rfl (lv_at hl 1 rfl) ?_
          refine va_get (C := RX3) (T := TX3) (N := 6) (v := .ref (q 4)) hx hb hts iw3 hown hK hP 0 rfl rfl 3 (Nat.le_of_ble_eq_true rfl) lk15 (fun _ h9 => h9) rfl dX3_isOnlyFalse_39 ?_
          refine lv_iload hx hb dX3_isOnlyFalse_42 (lv_at hl 5 rfl) ?_
          obtain ⟨hi7, h⟩ := xb_some h
          refine va_iald hx hb hK hP 2 0 rfl rfl hi7 dX3_isOnlyFalse_44 ?_
          refine lv_iload_n hx hb dX3_isOnlyFalse_45 rfl (lv_at hl 3 rfl) ?_
          refine lv_icmp_eq (tgt := 63) hx hb dX3_isOnlyFalse_46 (by decide) (fun c8 => ?_) (fun c8 => ?_)
          · have h := (if_pos c8).symm.trans h
            refine lv_aload_n hx hb dX3_isOnlyFalse_63 rfl (lv_at hl 1 rfl) ?_
            refine va_get (C := RX3) (T := TX3) (N := 6) (v := .ref (q 3)) hx hb hts iw3 hown hK hP 0 rfl rfl 2 (Nat.le_of_ble_eq_true rfl) lk9 (fun _ h9 => h9) rfl dX3_isOnlyFalse_64 ?_
            refine lv_iload hx hb dX3_isOnlyFalse_67 (lv_at hl 5 rfl) ?_
            obtain ⟨hi9, h⟩ := xb_some h
            refine va_iald hx hb hK hP 1 0 rfl rfl hi9 dX3_isOnlyFalse_69 ?_
            refine lv_iload hx hb dX3_isOnlyFalse_70 (lv_at hl 0 rfl) ?_
            refine lv_icmp_eq (tgt := 92) hx hb dX3_isOnlyFalse_72 (by decide) (fun c10 => ?_) (fun c10 => ?_)
            · have h := (if_pos c10).symm.trans h
              refine lv_iconst (v := 0) hx hb dX3_isOnlyFalse_92 (by decide) ?_
              exact hret (0 : Int32) () H locs _ ls (Or.inl rfl) (Option.some.inj h) hP hD hS dX3_isOnlyFalse_93
            · have h := (if_neg c10).symm.trans h
              refine lv_iload_n hx hb dX3_isOnlyFalse_75 rfl (lv_at hl 4 rfl) ?_
              refine lv_bipush (v := (-9)) hx hb dX3_isOnlyFalse_76 (by decide) ?_
              refine lv_icmp_eq (tgt := 94) hx hb dX3_isOnlyFalse_78 (by decide) (fun c11 => ?_) (fun c11 => ?_)
              · have h := (if_pos c11).symm.trans h
                exact hJ94 x2 x4 H locs ls h hP hD hS (lv_sub hl [1, 2, 3, 5] rfl)
              · have h := (if_neg c11).symm.trans h
                refine lv_aload_n hx hb dX3_isOnlyFalse_81 rfl (lv_at hl 1 rfl) ?_
                refine va_get (C := RX3) (T := TX3) (N := 6) (v := .ref (q 3)) hx hb hts iw3 hown hK hP 0 rfl rfl 2 (Nat.le_of_ble_eq_true rfl) lk9 (fun _ h9 => h9) rfl dX3_isOnlyFalse_82 ?_
                refine lv_iload hx hb dX3_isOnlyFalse_85 (lv_at hl 5 rfl) ?_
                obtain ⟨hi12, h⟩ := xb_some h
                refine va_iald hx hb hK hP 1 0 rfl rfl hi12 dX3_isOnlyFalse_87 ?_
                refine lv_iload_n hx hb dX3_isOnlyFalse_88 rfl (lv_at hl 4 rfl) ?_
                refine lv_icmp_eq (tgt := 94) hx hb dX3_isOnlyFalse_89 (by decide) (fun c13 => ?_) (fun c13 => ?_)
                · have h := (if_pos c13).symm.trans h
                  exact hJ94 x2 x4 H locs ls h hP hD hS (lv_sub hl [1, 2, 3, 5] rfl)
                · have h := (if_neg c13).symm.trans h
                  refine lv_iconst (v := 0) hx hb dX3_isOnlyFalse_92 (by decide) ?_
                  exact hret (0 : Int32) () H locs _ ls (Or.inl rfl) (Option.some.inj h) hP hD hS dX3_isOnlyFalse_93
          · have h := (if_neg c8).symm.trans h
            refine lv_aload_n hx hb dX3_isOnlyFalse_49 rfl (lv_at hl 1 rfl) ?_
            refine va_get (C := RX3) (T := TX3) (N := 6) (v := .ref (q 3)) hx hb hts iw3 hown hK hP 0 rfl rfl 2 (Nat.le_of_ble_eq_true rfl) lk9 (fun _ h9 => h9) rfl dX3_isOnlyFalse_50 ?_
            refine lv_iload hx hb dX3_isOnlyFalse_53 (lv_at hl 5 rfl) ?_
            obtain ⟨hi14, h⟩ := xb_some h
            refine va_iald hx hb hK hP 1 0 rfl rfl hi14 dX3_isOnlyFalse_55 ?_
            refine lv_iload hx hb dX3_isOnlyFalse_56 (lv_at hl 0 rfl) ?_
            refine lv_icmp_eq (tgt := 102) hx hb dX3_isOnlyFalse_58 (by decide) (fun c15 => ?_) (fun c15 => ?_)
            · have h := (if_pos c15).symm.trans h
              refine lv_iinc (v := x4 + 1) (lv' := [(4, .int (x4 + 1)), (5, .int (m_marks (v_walkedCorners x4.toNatClampNeg).toNatClampNeg)), (0, .ref (q 0)), (1, .ref (qm 0)), (2, .int x2), (3, .int x3)]) hx hb dX3_isOnlyFalse_102 hl (k := 5) rfl rfl (by decide) rfl (fun ls hl => ?_)
              refine lv_goto (tgt := 6) hx hb dX3_isOnlyFalse_105 (by decide) ?_
              exact ih6 x2 x3 (x4 + 1) H locs ls h hP hD hS (lv_sub hl [2, 3, 4, 5, 0] rfl)
            · have h := (if_neg c15).symm.trans h
              refine lv_iconst (v := 0) hx hb dX3_isOnlyFalse_61 (by decide) ?_
              exact hret (0 : Int32) () H locs _ ls (Or.inl rfl) (Option.some.inj h) hP hD hS dX3_isOnlyFalse_62
  have h := hf
  unfold f_X3_isOnlyFalse at h
  obtain ⟨H, eH⟩ : ∃ H, H = s.heap := ⟨_, rfl⟩
  rw [← eH] at hP ⊢
  obtain ⟨locs, el⟩ : ∃ locs : List Loc, locs = [] := ⟨_, rfl⟩
  rw [← el] at hS ⊢
  have hS : va_S A s.heap H locs := by rw [eH]; exact hS
  refine lv_bipush (v := (-9)) hx hb dX3_isOnlyFalse_0 (by decide) ?_
  refine lv_istore_n (lv' := [(3, .int (-9 : Int32)), (0, .ref (q 0)), (1, .ref (qm 0)), (2, .int x2)]) hx hb dX3_isOnlyFalse_2 rfl hl (by decide) rfl (fun ls hl => ?_)
  refine lv_iconst (v := 0) hx hb dX3_isOnlyFalse_3 (by decide) ?_
  refine lv_istore (lv' := [(4, .int (0 : Int32)), (3, .int (-9 : Int32)), (0, .ref (q 0)), (1, .ref (qm 0)), (2, .int x2)]) hx hb dX3_isOnlyFalse_4 hl (by decide) rfl (fun ls hl => ?_)
  exact hL6 fu x2 (-9 : Int32) (0 : Int32) H locs ls h hP hD hS (lv_sub hl [2, 3, 4, 1, 0] rfl)
