abbrev rm_X1_startAnew : Room := { frames := 0, cells := 0, slots := 0, locals := 0 }
set_option maxHeartbeats 4000000 in
set_option maxRecDepth 100000 in
theorem k_X1_startAnew (l : Launch) (D : va_G) (cI cZ cT : ClassId) (q : Nat → Nat) (sz : Nat) (v_corner : Int32) (v_minute : Int32) (v_paid : Int32) (v_leader : Int32) (v_undoable : Int32) (res : R_X1_startAnew) (hf : f_X1_startAnew v_corner v_minute v_paid v_leader v_undoable = some res) : Met l yX1_startAnew wsX1_startAnew rm_X1_startAnew (cPre D (tyz cI cZ cT) [.ref (q 0)] sz [oX1 q v_corner v_minute v_paid v_leader v_undoable]) (cPv D (tyz cI cZ cT) (fun (u : Int32 × Int32 × Int32 × Int32 × Int32) => u = res) (fun u => [oX1 q u.1 u.2.1 u.2.2.1 u.2.2.2.1 u.2.2.2.2]) [oX1 q v_corner v_minute v_paid v_leader v_undoable] sz) 0 0 (va_A [oX1 q v_corner v_minute v_paid v_leader v_undoable] sz) := by
  refine vx_meth_v (by decide) rfl (Nat.le_of_ble_eq_true rfl) ?_
  intro p e s m args below meth c A Q hx hb hml hown hts hK hP hD hA hS hret ls hl
  have hown : s.vm.findClass RX1 = some m.cls := hown
  have hl : lv_has ls 1 [(0, .ref (q 0))] := hl
  have hFx : CallFix p m c cX1_startAnew 1 s args wsX1_startAnew RX1 := ⟨hx, hb, hml, hown, hts⟩
  have lk28 := hts (.fieldLink RX1 28 "FogGuides$Tale" "corner" "I") (by decide +kernel)
  have iw1 : ∀ w ∈ u_ws RX1 TX1 9, w ∈ wsX1_startAnew := by decide +kernel
  have lk31 := hts (.fieldLink RX1 31 "FogGuides$Tale" "minute" "I") (by decide +kernel)
  have lk34 := hts (.fieldLink RX1 34 "FogGuides$Tale" "paid" "I") (by decide +kernel)
  have lk24 := hts (.fieldLink RX1 24 "FogGuides$Tale" "leader" "I") (by decide +kernel)
  have lk37 := hts (.fieldLink RX1 37 "FogGuides$Tale" "undoable" "I") (by decide +kernel)
  have h := hf
  unfold f_X1_startAnew at h
  obtain ⟨H, eH⟩ : ∃ H, H = s.heap := ⟨_, rfl⟩
  rw [← eH] at hP ⊢
  obtain ⟨locs, el⟩ : ∃ locs : List Loc, locs = [] := ⟨_, rfl⟩
  rw [← el] at hS ⊢
  have hS : va_S A s.heap H locs := by rw [eH]; exact hS
  refine lv_aload_n hx hb dX1_startAnew_0 rfl (lv_at hl 0 rfl) ?_
  refine lv_iconst (v := 0) hx hb dX1_startAnew_1 (by decide) ?_
  refine va_put (C := RX1) (T := TX1) (N := 9) (v := .int (0 : Int32)) (ty := .int) hx hb hts iw1 tyX1 tyX1_ok nmX1 hown hK hP hD hS 0 rfl rfl 0 (Nat.le_of_ble_eq_true rfl) lk28 (fun _ h9 => h9) rfl (by decide +kernel) rfl rfl (Nat.le_of_ble_eq_true rfl) dX1_startAnew_2 (fun H locs hP hD hS => ?_)
  have hP : va_P D vwCl [oX1 q (0 : Int32) v_minute v_paid v_leader v_undoable] H := hP
  have hD : va_D A [oX1 q (0 : Int32) v_minute v_paid v_leader v_undoable] := hD
  refine lv_aload_n hx hb dX1_startAnew_5 rfl (lv_at hl 0 rfl) ?_
  refine lv_iconst (v := 0) hx hb dX1_startAnew_6 (by decide) ?_
  refine va_put (C := RX1) (T := TX1) (N := 9) (v := .int (0 : Int32)) (ty := .int) hx hb hts iw1 tyX1 tyX1_ok nmX1 hown hK hP hD hS 0 rfl rfl 1 (Nat.le_of_ble_eq_true rfl) lk31 (fun _ h9 => h9) rfl (by decide +kernel) rfl rfl (Nat.le_of_ble_eq_true rfl) dX1_startAnew_7 (fun H locs hP hD hS => ?_)
  have hP : va_P D vwCl [oX1 q (0 : Int32) (0 : Int32) v_paid v_leader v_undoable] H := hP
  have hD : va_D A [oX1 q (0 : Int32) (0 : Int32) v_paid v_leader v_undoable] := hD
  refine lv_aload_n hx hb dX1_startAnew_10 rfl (lv_at hl 0 rfl) ?_
  refine lv_iconst (v := 0) hx hb dX1_startAnew_11 (by decide) ?_
  refine va_put (C := RX1) (T := TX1) (N := 9) (v := .int (0 : Int32)) (ty := .int) hx hb hts iw1 tyX1 tyX1_ok nmX1 hown hK hP hD hS 0 rfl rfl 2 (Nat.le_of_ble_eq_true rfl) lk34 (fun _ h9 => h9) rfl (by decide +kernel) rfl rfl (Nat.le_of_ble_eq_true rfl) dX1_startAnew_12 (fun H locs hP hD hS => ?_)
  have hP : va_P D vwCl [oX1 q (0 : Int32) (0 : Int32) (0 : Int32) v_leader v_undoable] H := hP
  have hD : va_D A [oX1 q (0 : Int32) (0 : Int32) (0 : Int32) v_leader v_undoable] := hD
  refine lv_aload_n hx hb dX1_startAnew_15 rfl (lv_at hl 0 rfl) ?_
  refine lv_bipush (v := (-9)) hx hb dX1_startAnew_16 (by decide) ?_
  refine va_put (C := RX1) (T := TX1) (N := 9) (v := .int (-9 : Int32)) (ty := .int) hx hb hts iw1 tyX1 tyX1_ok nmX1 hown hK hP hD hS 0 rfl rfl 3 (Nat.le_of_ble_eq_true rfl) lk24 (fun _ h9 => h9) rfl (by decide +kernel) rfl rfl (Nat.le_of_ble_eq_true rfl) dX1_startAnew_18 (fun H locs hP hD hS => ?_)
  have hP : va_P D vwCl [oX1 q (0 : Int32) (0 : Int32) (0 : Int32) (-9 : Int32) v_undoable] H := hP
  have hD : va_D A [oX1 q (0 : Int32) (0 : Int32) (0 : Int32) (-9 : Int32) v_undoable] := hD
  refine lv_aload_n hx hb dX1_startAnew_21 rfl (lv_at hl 0 rfl) ?_
  refine lv_iconst (v := 0) hx hb dX1_startAnew_22 (by decide) ?_
  refine va_put (C := RX1) (T := TX1) (N := 9) (v := .int (0 : Int32)) (ty := .int) hx hb hts iw1 tyX1 tyX1_ok nmX1 hown hK hP hD hS 0 rfl rfl 4 (Nat.le_of_ble_eq_true rfl) lk37 (fun _ h9 => h9) rfl (by decide +kernel) rfl rfl (Nat.le_of_ble_eq_true rfl) dX1_startAnew_23 (fun H locs hP hD hS => ?_)
  have hP : va_P D vwCl [oX1 q (0 : Int32) (0 : Int32) (0 : Int32) (-9 : Int32) (0 : Int32)] H := hP
  have hD : va_D A [oX1 q (0 : Int32) (0 : Int32) (0 : Int32) (-9 : Int32) (0 : Int32)] := hD
  exact hret (((0 : Int32), (0 : Int32), (0 : Int32), (-9 : Int32), (0 : Int32))) H locs _ ls (Option.some.inj h) hP hD hS dX1_startAnew_26
abbrev rm_X1_loseOldest : Room := { frames := 1, cells := 0, slots := 0, locals := 64 }
set_option maxHeartbeats 4000000 in
set_option maxRecDepth 100000 in
theorem k_X1_loseOldest (l : Launch) (D : va_G) (cI cZ cT : ClassId) (q : Nat → Nat) (sz : Nat) (v_corner : Int32) (v_minute : Int32) (v_paid : Int32) (v_leader : Int32) (v_undoable : Int32) (v_corners : Nat → Int32) (v_minutes : Nat → Int32) (v_paids : Nat → Int32) (v_leaders : Nat → Int32) (res : R_X1_loseOldest) (hf : f_X1_loseOldest v_undoable v_corners v_minutes v_paids v_leaders = some res) : Met l yX1_loseOldest wsX1_loseOldest rm_X1_loseOldest (cPre D (tyz cI cZ cT) [.ref (q 0)] sz [oX1 q v_corner v_minute v_paid v_leader v_undoable, rA (q 6) cI 10 v_corners, rA (q 7) cI 10 v_minutes, rA (q 8) cI 10 v_paids, rA (q 9) cI 10 v_leaders]) (cPv D (tyz cI cZ cT) (fun (u : Int32 × (Nat → Int32) × (Nat → Int32) × (Nat → Int32) × (Nat → Int32)) => u = res) (fun u => [oX1 q v_corner v_minute v_paid v_leader u.1, rA (q 6) cI 10 u.2.1, rA (q 7) cI 10 u.2.2.1, rA (q 8) cI 10 u.2.2.2.1, rA (q 9) cI 10 u.2.2.2.2]) [oX1 q v_corner v_minute v_paid v_leader v_undoable, rA (q 6) cI 10 v_corners, rA (q 7) cI 10 v_minutes, rA (q 8) cI 10 v_paids, rA (q 9) cI 10 v_leaders] sz) 0 0 (va_A [oX1 q v_corner v_minute v_paid v_leader v_undoable, rA (q 6) cI 10 v_corners, rA (q 7) cI 10 v_minutes, rA (q 8) cI 10 v_paids, rA (q 9) cI 10 v_leaders] sz) := by
  refine vx_meth_v (by decide) rfl (Nat.le_of_ble_eq_true rfl) ?_
  intro p e s m args below meth c A Q hx hb hml hown hts hK hP hD hA hS hret ls hl
  have hown : s.vm.findClass RX1 = some m.cls := hown
  have hl : lv_has ls 1 [(0, .ref (q 0))] := hl
  have hFx : CallFix p m c cX1_loseOldest 1 s args wsX1_loseOldest RX1 := ⟨hx, hb, hml, hown, hts⟩
  have lk37 := hts (.fieldLink RX1 37 "FogGuides$Tale" "undoable" "I") (by decide +kernel)
  have iw1 : ∀ w ∈ u_ws RX1 TX1 9, w ∈ wsX1_loseOldest := by decide +kernel
  have lk9 := hts (.fieldLink RX1 9 "FogGuides$Tale" "corners" "[I") (by decide +kernel)
  have lk15 := hts (.fieldLink RX1 15 "FogGuides$Tale" "minutes" "[I") (by decide +kernel)
  have lk18 := hts (.fieldLink RX1 18 "FogGuides$Tale" "paids" "[I") (by decide +kernel)
  have lk21 := hts (.fieldLink RX1 21 "FogGuides$Tale" "leaders" "[I") (by decide +kernel)
  have h := hf
  unfold f_X1_loseOldest at h
  obtain ⟨H, eH⟩ : ∃ H, H = s.heap := ⟨_, rfl⟩
  rw [← eH] at hP ⊢
  obtain ⟨locs, el⟩ : ∃ locs : List Loc, locs = [] := ⟨_, rfl⟩
  rw [← el] at hS ⊢
  have hS : va_S A s.heap H locs := by rw [eH]; exact hS
  refine lv_aload_n hx hb dX1_loseOldest_0 rfl (lv_at hl 0 rfl) ?_
  refine lv_bipush (v := 9) hx hb dX1_loseOldest_1 (by decide) ?_
  refine va_put (C := RX1) (T := TX1) (N := 9) (v := .int (9 : Int32)) (ty := .int) hx hb hts iw1 tyX1 tyX1_ok nmX1 hown hK hP hD hS 0 rfl rfl 4 (Nat.le_of_ble_eq_true rfl) lk37 (fun _ h9 => h9) rfl (by decide +kernel) rfl rfl (Nat.le_of_ble_eq_true rfl) dX1_loseOldest_3 (fun H locs hP hD hS => ?_)
  have hP : va_P D vwCl [oX1 q v_corner v_minute v_paid v_leader (9 : Int32), rA (q 6) cI 10 v_corners, rA (q 7) cI 10 v_minutes, rA (q 8) cI 10 v_paids, rA (q 9) cI 10 v_leaders] H := hP
  have hD : va_D A [oX1 q v_corner v_minute v_paid v_leader (9 : Int32), rA (q 6) cI 10 v_corners, rA (q 7) cI 10 v_minutes, rA (q 8) cI 10 v_paids, rA (q 9) cI 10 v_leaders] := hD
  refine lv_aload_n hx hb dX1_loseOldest_6 rfl (lv_at hl 0 rfl) ?_
  refine va_get (C := RX1) (T := TX1) (N := 9) (v := .ref (q 6)) hx hb hts iw1 hown hK hP 0 rfl rfl 5 (Nat.le_of_ble_eq_true rfl) lk9 (fun _ h9 => h9) rfl dX1_loseOldest_7 ?_
  refine lv_iconst (v := 1) hx hb dX1_loseOldest_10 (by decide) ?_
  refine lv_aload_n hx hb dX1_loseOldest_11 rfl (lv_at hl 0 rfl) ?_
  refine va_get (C := RX1) (T := TX1) (N := 9) (v := .ref (q 6)) hx hb hts iw1 hown hK hP 0 rfl rfl 5 (Nat.le_of_ble_eq_true rfl) lk9 (fun _ h9 => h9) rfl dX1_loseOldest_12 ?_
  refine lv_iconst (v := 0) hx hb dX1_loseOldest_15 (by decide) ?_
  refine lv_aload_n hx hb dX1_loseOldest_16 rfl (lv_at hl 0 rfl) ?_
  refine va_get (C := RX1) (T := TX1) (N := 9) (v := .int (9 : Int32)) hx hb hts iw1 hown hK hP 0 rfl rfl 4 (Nat.le_of_ble_eq_true rfl) lk37 (fun _ h9 => h9) rfl dX1_loseOldest_17 ?_
  have hy1 := xy_some h
  have h := hy1.2.2.2.2.2
  refine va_copyi (ty := .int) hx hb (hml.trans hl.1.symm) hown (hts (.methodLink RX1 46 arraycopyName) (by decide +kernel)) (hts (.native arraycopyName) (by decide +kernel)) (hts (.static arraycopyName) (by decide +kernel)) (hts (.initialized "java/lang/System") (by decide +kernel)) hK hP hD hS 1 1 0 0 rfl rfl rfl rfl rfl hy1.1 hy1.2.1 hy1.2.2.1 hy1.2.2.2.1 hy1.2.2.2.2.1 (fun _ _ => rfl) (Nat.le_of_ble_eq_true rfl) (by decide +kernel) dX1_loseOldest_20 (fun H locs hP hD hS => ?_)
  have hP : va_P D vwCl [oX1 q v_corner v_minute v_paid v_leader (9 : Int32), rA (q 6) cI 10 (va_cpy v_corners v_corners (1 : Int32).toNatClampNeg (0 : Int32).toNatClampNeg (9 : Int32).toNatClampNeg), rA (q 7) cI 10 v_minutes, rA (q 8) cI 10 v_paids, rA (q 9) cI 10 v_leaders] H := hP
  have hD : va_D A [oX1 q v_corner v_minute v_paid v_leader (9 : Int32), rA (q 6) cI 10 (va_cpy v_corners v_corners (1 : Int32).toNatClampNeg (0 : Int32).toNatClampNeg (9 : Int32).toNatClampNeg), rA (q 7) cI 10 v_minutes, rA (q 8) cI 10 v_paids, rA (q 9) cI 10 v_leaders] := hD
  refine lv_aload_n hx hb dX1_loseOldest_23 rfl (lv_at hl 0 rfl) ?_
  refine va_get (C := RX1) (T := TX1) (N := 9) (v := .ref (q 7)) hx hb hts iw1 hown hK hP 0 rfl rfl 6 (Nat.le_of_ble_eq_true rfl) lk15 (fun _ h9 => h9) rfl dX1_loseOldest_24 ?_
  refine lv_iconst (v := 1) hx hb dX1_loseOldest_27 (by decide) ?_
  refine lv_aload_n hx hb dX1_loseOldest_28 rfl (lv_at hl 0 rfl) ?_
  refine va_get (C := RX1) (T := TX1) (N := 9) (v := .ref (q 7)) hx hb hts iw1 hown hK hP 0 rfl rfl 6 (Nat.le_of_ble_eq_true rfl) lk15 (fun _ h9 => h9) rfl dX1_loseOldest_29 ?_
  refine lv_iconst (v := 0) hx hb dX1_loseOldest_32 (by decide) ?_
  refine lv_aload_n hx hb dX1_loseOldest_33 rfl (lv_at hl 0 rfl) ?_
  refine va_get (C := RX1) (T := TX1) (N := 9) (v := .int (9 : Int32)) hx hb hts iw1 hown hK hP 0 rfl rfl 4 (Nat.le_of_ble_eq_true rfl) lk37 (fun _ h9 => h9) rfl dX1_loseOldest_34 ?_
  have hy2 := xy_some h
  have h := hy2.2.2.2.2.2
  refine va_copyi (ty := .int) hx hb (hml.trans hl.1.symm) hown (hts (.methodLink RX1 46 arraycopyName) (by decide +kernel)) (hts (.native arraycopyName) (by decide +kernel)) (hts (.static arraycopyName) (by decide +kernel)) (hts (.initialized "java/lang/System") (by decide +kernel)) hK hP hD hS 2 2 0 0 rfl rfl rfl rfl rfl hy2.1 hy2.2.1 hy2.2.2.1 hy2.2.2.2.1 hy2.2.2.2.2.1 (fun _ _ => rfl) (Nat.le_of_ble_eq_true rfl) (by decide +kernel) dX1_loseOldest_37 (fun H locs hP hD hS => ?_)
  have hP : va_P D vwCl [oX1 q v_corner v_minute v_paid v_leader (9 : Int32), rA (q 6) cI 10 (va_cpy v_corners v_corners (1 : Int32).toNatClampNeg (0 : Int32).toNatClampNeg (9 : Int32).toNatClampNeg), rA (q 7) cI 10 (va_cpy v_minutes v_minutes (1 : Int32).toNatClampNeg (0 : Int32).toNatClampNeg (9 : Int32).toNatClampNeg), rA (q 8) cI 10 v_paids, rA (q 9) cI 10 v_leaders] H := hP
  have hD : va_D A [oX1 q v_corner v_minute v_paid v_leader (9 : Int32), rA (q 6) cI 10 (va_cpy v_corners v_corners (1 : Int32).toNatClampNeg (0 : Int32).toNatClampNeg (9 : Int32).toNatClampNeg), rA (q 7) cI 10 (va_cpy v_minutes v_minutes (1 : Int32).toNatClampNeg (0 : Int32).toNatClampNeg (9 : Int32).toNatClampNeg), rA (q 8) cI 10 v_paids, rA (q 9) cI 10 v_leaders] := hD
  refine lv_aload_n hx hb dX1_loseOldest_40 rfl (lv_at hl 0 rfl) ?_
  refine va_get (C := RX1) (T := TX1) (N := 9) (v := .ref (q 8)) hx hb hts iw1 hown hK hP 0 rfl rfl 7 (Nat.le_of_ble_eq_true rfl) lk18 (fun _ h9 => h9) rfl dX1_loseOldest_41 ?_
  refine lv_iconst (v := 1) hx hb dX1_loseOldest_44 (by decide) ?_
  refine lv_aload_n hx hb dX1_loseOldest_45 rfl (lv_at hl 0 rfl) ?_
  refine va_get (C := RX1) (T := TX1) (N := 9) (v := .ref (q 8)) hx hb hts iw1 hown hK hP 0 rfl rfl 7 (Nat.le_of_ble_eq_true rfl) lk18 (fun _ h9 => h9) rfl dX1_loseOldest_46 ?_
  refine lv_iconst (v := 0) hx hb dX1_loseOldest_49 (by decide) ?_
  refine lv_aload_n hx hb dX1_loseOldest_50 rfl (lv_at hl 0 rfl) ?_
  refine va_get (C := RX1) (T := TX1) (N := 9) (v := .int (9 : Int32)) hx hb hts iw1 hown hK hP 0 rfl rfl 4 (Nat.le_of_ble_eq_true rfl) lk37 (fun _ h9 => h9) rfl dX1_loseOldest_51 ?_
  have hy3 := xy_some h
  have h := hy3.2.2.2.2.2
  refine va_copyi (ty := .int) hx hb (hml.trans hl.1.symm) hown (hts (.methodLink RX1 46 arraycopyName) (by decide +kernel)) (hts (.native arraycopyName) (by decide +kernel)) (hts (.static arraycopyName) (by decide +kernel)) (hts (.initialized "java/lang/System") (by decide +kernel)) hK hP hD hS 3 3 0 0 rfl rfl rfl rfl rfl hy3.1 hy3.2.1 hy3.2.2.1 hy3.2.2.2.1 hy3.2.2.2.2.1 (fun _ _ => rfl) (Nat.le_of_ble_eq_true rfl) (by decide +kernel) dX1_loseOldest_54 (fun H locs hP hD hS => ?_)
  have hP : va_P D vwCl [oX1 q v_corner v_minute v_paid v_leader (9 : Int32), rA (q 6) cI 10 (va_cpy v_corners v_corners (1 : Int32).toNatClampNeg (0 : Int32).toNatClampNeg (9 : Int32).toNatClampNeg), rA (q 7) cI 10 (va_cpy v_minutes v_minutes (1 : Int32).toNatClampNeg (0 : Int32).toNatClampNeg (9 : Int32).toNatClampNeg), rA (q 8) cI 10 (va_cpy v_paids v_paids (1 : Int32).toNatClampNeg (0 : Int32).toNatClampNeg (9 : Int32).toNatClampNeg), rA (q 9) cI 10 v_leaders] H := hP
  have hD : va_D A [oX1 q v_corner v_minute v_paid v_leader (9 : Int32), rA (q 6) cI 10 (va_cpy v_corners v_corners (1 : Int32).toNatClampNeg (0 : Int32).toNatClampNeg (9 : Int32).toNatClampNeg), rA (q 7) cI 10 (va_cpy v_minutes v_minutes (1 : Int32).toNatClampNeg (0 : Int32).toNatClampNeg (9 : Int32).toNatClampNeg), rA (q 8) cI 10 (va_cpy v_paids v_paids (1 : Int32).toNatClampNeg (0 : Int32).toNatClampNeg (9 : Int32).toNatClampNeg), rA (q 9) cI 10 v_leaders] := hD
  refine lv_aload_n hx hb dX1_loseOldest_57 rfl (lv_at hl 0 rfl) ?_
  refine va_get (C := RX1) (T := TX1) (N := 9) (v := .ref (q 9)) hx hb hts iw1 hown hK hP 0 rfl rfl 8 (Nat.le_of_ble_eq_true rfl) lk21 (fun _ h9 => h9) rfl dX1_loseOldest_58 ?_
  refine lv_iconst (v := 1) hx hb dX1_loseOldest_61 (by decide) ?_
  refine lv_aload_n hx hb dX1_loseOldest_62 rfl (lv_at hl 0 rfl) ?_
  refine va_get (C := RX1) (T := TX1) (N := 9) (v := .ref (q 9)) hx hb hts iw1 hown hK hP 0 rfl rfl 8 (Nat.le_of_ble_eq_true rfl) lk21 (fun _ h9 => h9) rfl dX1_loseOldest_63 ?_
  refine lv_iconst (v := 0) hx hb dX1_loseOldest_66 (by decide) ?_
  refine lv_aload_n hx hb dX1_loseOldest_67 rfl (lv_at hl 0 rfl) ?_
  refine va_get (C := RX1) (T := TX1) (N := 9) (v := .int (9 : Int32)) hx hb hts iw1 hown hK hP 0 rfl rfl 4 (Nat.le_of_ble_eq_true rfl) lk37 (fun _ h9 => h9) rfl dX1_loseOldest_68 ?_
  have hy4 := xy_some h
  have h := hy4.2.2.2.2.2
  refine va_copyi (ty := .int) hx hb (hml.trans hl.1.symm) hown (hts (.methodLink RX1 46 arraycopyName) (by decide +kernel)) (hts (.native arraycopyName) (by decide +kernel)) (hts (.static arraycopyName) (by decide +kernel)) (hts (.initialized "java/lang/System") (by decide +kernel)) hK hP hD hS 4 4 0 0 rfl rfl rfl rfl rfl hy4.1 hy4.2.1 hy4.2.2.1 hy4.2.2.2.1 hy4.2.2.2.2.1 (fun _ _ => rfl) (Nat.le_of_ble_eq_true rfl) (by decide +kernel) dX1_loseOldest_71 (fun H locs hP hD hS => ?_)
  have hP : va_P D vwCl [oX1 q v_corner v_minute v_paid v_leader (9 : Int32), rA (q 6) cI 10 (va_cpy v_corners v_corners (1 : Int32).toNatClampNeg (0 : Int32).toNatClampNeg (9 : Int32).toNatClampNeg), rA (q 7) cI 10 (va_cpy v_minutes v_minutes (1 : Int32).toNatClampNeg (0 : Int32).toNatClampNeg (9 : Int32).toNatClampNeg), rA (q 8) cI 10 (va_cpy v_paids v_paids (1 : Int32).toNatClampNeg (0 : Int32).toNatClampNeg (9 : Int32).toNatClampNeg), rA (q 9) cI 10 (va_cpy v_leaders v_leaders (1 : Int32).toNatClampNeg (0 : Int32).toNatClampNeg (9 : Int32).toNatClampNeg)] H := hP
  have hD : va_D A [oX1 q v_corner v_minute v_paid v_leader (9 : Int32), rA (q 6) cI 10 (va_cpy v_corners v_corners (1 : Int32).toNatClampNeg (0 : Int32).toNatClampNeg (9 : Int32).toNatClampNeg), rA (q 7) cI 10 (va_cpy v_minutes v_minutes (1 : Int32).toNatClampNeg (0 : Int32).toNatClampNeg (9 : Int32).toNatClampNeg), rA (q 8) cI 10 (va_cpy v_paids v_paids (1 : Int32).toNatClampNeg (0 : Int32).toNatClampNeg (9 : Int32).toNatClampNeg), rA (q 9) cI 10 (va_cpy v_leaders v_leaders (1 : Int32).toNatClampNeg (0 : Int32).toNatClampNeg (9 : Int32).toNatClampNeg)] := hD
  exact hret (((9 : Int32), va_cpy v_corners v_corners (1 : Int32).toNatClampNeg (0 : Int32).toNatClampNeg (9 : Int32).toNatClampNeg, va_cpy v_minutes v_minutes (1 : Int32).toNatClampNeg (0 : Int32).toNatClampNeg (9 : Int32).toNatClampNeg, va_cpy v_paids v_paids (1 : Int32).toNatClampNeg (0 : Int32).toNatClampNeg (9 : Int32).toNatClampNeg, va_cpy v_leaders v_leaders (1 : Int32).toNatClampNeg (0 : Int32).toNatClampNeg (9 : Int32).toNatClampNeg)) H locs _ ls (Option.some.inj h) hP hD hS dX1_loseOldest_74
abbrev rm_X1_remember : Room := { frames := 2, cells := 0, slots := 0, locals := 84 }
set_option maxHeartbeats 4000000 in
set_option maxRecDepth 100000 in
theorem k_X1_remember (l : Launch) (D : va_G) (cI cZ cT : ClassId) (q : Nat → Nat) (sz : Nat) (v_corner : Int32) (v_minute : Int32) (v_paid : Int32) (v_leader : Int32) (v_undoable : Int32) (v_corners : Nat → Int32) (v_minutes : Nat → Int32) (v_paids : Nat → Int32) (v_leaders : Nat → Int32) (res : R_X1_remember) (hf : f_X1_remember v_corner v_minute v_paid v_leader v_undoable v_corners v_minutes v_paids v_leaders = some res) : Met l yX1_remember wsX1_remember rm_X1_remember (cPre D (tyz cI cZ cT) [.ref (q 0)] sz [oX1 q v_corner v_minute v_paid v_leader v_undoable, rA (q 6) cI 10 v_corners, rA (q 7) cI 10 v_minutes, rA (q 8) cI 10 v_paids, rA (q 9) cI 10 v_leaders]) (cPv D (tyz cI cZ cT) (fun (u : Int32 × (Nat → Int32) × (Nat → Int32) × (Nat → Int32) × (Nat → Int32)) => u = res) (fun u => [oX1 q v_corner v_minute v_paid v_leader u.1, rA (q 6) cI 10 u.2.1, rA (q 7) cI 10 u.2.2.1, rA (q 8) cI 10 u.2.2.2.1, rA (q 9) cI 10 u.2.2.2.2]) [oX1 q v_corner v_minute v_paid v_leader v_undoable, rA (q 6) cI 10 v_corners, rA (q 7) cI 10 v_minutes, rA (q 8) cI 10 v_paids, rA (q 9) cI 10 v_leaders] sz) 0 0 (va_A [oX1 q v_corner v_minute v_paid v_leader v_undoable, rA (q 6) cI 10 v_corners, rA (q 7) cI 10 v_minutes, rA (q 8) cI 10 v_paids, rA (q 9) cI 10 v_leaders] sz) := by
  refine vx_meth_v (by decide) rfl (Nat.le_of_ble_eq_true rfl) ?_
  intro p e s m args below meth c A Q hx hb hml hown hts hK hP hD hA hS hret ls hl
  have hown : s.vm.findClass RX1 = some m.cls := hown
  have hl : lv_has ls 1 [(0, .ref (q 0))] := hl
  have hFx : CallFix p m c cX1_remember 1 s args wsX1_remember RX1 := ⟨hx, hb, hml, hown, hts⟩
  have lk9 := hts (.fieldLink RX1 9 "FogGuides$Tale" "corners" "[I") (by decide +kernel)
  have iw1 : ∀ w ∈ u_ws RX1 TX1 9, w ∈ wsX1_remember := by decide +kernel
  have lk37 := hts (.fieldLink RX1 37 "FogGuides$Tale" "undoable" "I") (by decide +kernel)
  have lk28 := hts (.fieldLink RX1 28 "FogGuides$Tale" "corner" "I") (by decide +kernel)
  have lk15 := hts (.fieldLink RX1 15 "FogGuides$Tale" "minutes" "[I") (by decide +kernel)
  have lk31 := hts (.fieldLink RX1 31 "FogGuides$Tale" "minute" "I") (by decide +kernel)
  have lk18 := hts (.fieldLink RX1 18 "FogGuides$Tale" "paids" "[I") (by decide +kernel)
  have lk34 := hts (.fieldLink RX1 34 "FogGuides$Tale" "paid" "I") (by decide +kernel)
  have lk21 := hts (.fieldLink RX1 21 "FogGuides$Tale" "leaders" "[I") (by decide +kernel)
  have lk24 := hts (.fieldLink RX1 24 "FogGuides$Tale" "leader" "I") (by decide +kernel)
  have hJ13 : ∀ (v_undoable : Int32) (v_corners : (Nat → Int32)) (v_minutes : (Nat → Int32)) (v_paids : (Nat → Int32)) (v_leaders : (Nat → Int32)) (H : Heap) (locs : List Loc) (ls : Array Slot), f_X1_remember_J13 v_corner v_minute v_paid v_leader v_undoable v_corners v_minutes v_paids v_leaders = some res → va_P D vwCl [oX1 q v_corner v_minute v_paid v_leader v_undoable, rA (q 6) cI 10 v_corners, rA (q 7) cI 10 v_minutes, rA (q 8) cI 10 v_paids, rA (q 9) cI 10 v_leaders] H → va_D A [oX1 q v_corner v_minute v_paid v_leader v_undoable, rA (q 6) cI 10 v_corners, rA (q 7) cI 10 v_minutes, rA (q 8) cI 10 v_paids, rA (q 9) cI 10 v_leaders] → va_S A s.heap H locs → lv_has ls 1 [(0, .ref (q 0))] → W p l e rm_X1_remember s m args below meth c H locs 0 0 Q (F0 m 13 ls []) := by
    intro v_undoable v_corners v_minutes v_paids v_leaders H locs ls h hP hD hS hl
    unfold f_X1_remember_J13 at h
    refine lv_aload_n hx hb dX1_remember_13 rfl (lv_at hl 0 rfl) ?_
    refine va_get (C := RX1) (T := TX1) (N := 9) (v := .ref (q 6)) hx hb hts iw1 hown hK hP 0 rfl rfl 5 (Nat.le_of_ble_eq_true rfl) lk9 (fun _ h9 => h9) rfl dX1_remember_14 ?_
    refine lv_aload_n hx hb dX1_remember_17 rfl (lv_at hl 0 rfl) ?_
    refine va_get (C := RX1) (T := TX1) (N := 9) (v := .int v_undoable) hx hb hts iw1 hown hK hP 0 rfl rfl 4 (Nat.le_of_ble_eq_true rfl) lk37 (fun _ h9 => h9) rfl dX1_remember_18 ?_
    refine lv_aload_n hx hb dX1_remember_21 rfl (lv_at hl 0 rfl) ?_
    refine va_get (C := RX1) (T := TX1) (N := 9) (v := .int v_corner) hx hb hts iw1 hown hK hP 0 rfl rfl 0 (Nat.le_of_ble_eq_true rfl) lk28 (fun _ h9 => h9) rfl dX1_remember_22 ?_
    obtain ⟨hi1, h⟩ := xb_some h
    refine va_iast hx hb hK hP hD hS 1 0 rfl rfl hi1 dX1_remember_25 (fun H locs hP hD hS => ?_)
    have hP : va_P D vwCl [oX1 q v_corner v_minute v_paid v_leader v_undoable, rA (q 6) cI 10 (upd v_corners v_undoable.toNatClampNeg v_corner), rA (q 7) cI 10 v_minutes, rA (q 8) cI 10 v_paids, rA (q 9) cI 10 v_leaders] H := hP
    have hD : va_D A [oX1 q v_corner v_minute v_paid v_leader v_undoable, rA (q 6) cI 10 (upd v_corners v_undoable.toNatClampNeg v_corner), rA (q 7) cI 10 v_minutes, rA (q 8) cI 10 v_paids, rA (q 9) cI 10 v_leaders] := hD
    refine lv_aload_n hx hb dX1_remember_26 rfl (lv_at hl 0 rfl) ?_
    refine va_get (C := RX1) (T := TX1) (N := 9) (v := .ref (q 7)) hx hb hts iw1 hown hK hP 0 rfl rfl 6 (Nat.le_of_ble_eq_true rfl) lk15 (fun _ h9 => h9) rfl dX1_remember_27 ?_
    refine lv_aload_n hx hb dX1_remember_30 rfl (lv_at hl 0 rfl) ?_
    refine va_get (C := RX1) (T := TX1) (N := 9) (v := .int v_undoable) hx hb hts iw1 hown hK hP 0 rfl rfl 4 (Nat.le_of_ble_eq_true rfl) lk37 (fun _ h9 => h9) rfl dX1_remember_31 ?_
    refine lv_aload_n hx hb dX1_remember_34 rfl (lv_at hl 0 rfl) ?_
    refine va_get (C := RX1) (T := TX1) (N := 9) (v := .int v_minute) hx hb hts iw1 hown hK hP 0 rfl rfl 1 (Nat.le_of_ble_eq_true rfl) lk31 (fun _ h9 => h9) rfl dX1_remember_35 ?_
    obtain ⟨hi2, h⟩ := xb_some h
    refine va_iast hx hb hK hP hD hS 2 0 rfl rfl hi2 dX1_remember_38 (fun H locs hP hD hS => ?_)
    have hP : va_P D vwCl [oX1 q v_corner v_minute v_paid v_leader v_undoable, rA (q 6) cI 10 (upd v_corners v_undoable.toNatClampNeg v_corner), rA (q 7) cI 10 (upd v_minutes v_undoable.toNatClampNeg v_minute), rA (q 8) cI 10 v_paids, rA (q 9) cI 10 v_leaders] H := hP
    have hD : va_D A [oX1 q v_corner v_minute v_paid v_leader v_undoable, rA (q 6) cI 10 (upd v_corners v_undoable.toNatClampNeg v_corner), rA (q 7) cI 10 (upd v_minutes v_undoable.toNatClampNeg v_minute), rA (q 8) cI 10 v_paids, rA (q 9) cI 10 v_leaders] := hD
    refine lv_aload_n hx hb dX1_remember_39 rfl (lv_at hl 0 rfl) ?_
    refine va_get (C := RX1) (T := TX1) (N := 9) (v := .ref (q 8)) hx hb hts iw1 hown hK hP 0 rfl rfl 7 (Nat.le_of_ble_eq_true rfl) lk18 (fun _ h9 => h9) rfl dX1_remember_40 ?_
    refine lv_aload_n hx hb dX1_remember_43 rfl (lv_at hl 0 rfl) ?_
    refine va_get (C := RX1) (T := TX1) (N := 9) (v := .int v_undoable) hx hb hts iw1 hown hK hP 0 rfl rfl 4 (Nat.le_of_ble_eq_true rfl) lk37 (fun _ h9 => h9) rfl dX1_remember_44 ?_
    refine lv_aload_n hx hb dX1_remember_47 rfl (lv_at hl 0 rfl) ?_
    refine va_get (C := RX1) (T := TX1) (N := 9) (v := .int v_paid) hx hb hts iw1 hown hK hP 0 rfl rfl 2 (Nat.le_of_ble_eq_true rfl) lk34 (fun _ h9 => h9) rfl dX1_remember_48 ?_
    obtain ⟨hi3, h⟩ := xb_some h
    refine va_iast hx hb hK hP hD hS 3 0 rfl rfl hi3 dX1_remember_51 (fun H locs hP hD hS => ?_)
    have hP : va_P D vwCl [oX1 q v_corner v_minute v_paid v_leader v_undoable, rA (q 6) cI 10 (upd v_corners v_undoable.toNatClampNeg v_corner), rA (q 7) cI 10 (upd v_minutes v_undoable.toNatClampNeg v_minute), rA (q 8) cI 10 (upd v_paids v_undoable.toNatClampNeg v_paid), rA (q 9) cI 10 v_leaders] H := hP
    have hD : va_D A [oX1 q v_corner v_minute v_paid v_leader v_undoable, rA (q 6) cI 10 (upd v_corners v_undoable.toNatClampNeg v_corner), rA (q 7) cI 10 (upd v_minutes v_undoable.toNatClampNeg v_minute), rA (q 8) cI 10 (upd v_paids v_undoable.toNatClampNeg v_paid), rA (q 9) cI 10 v_leaders] := hD
    refine lv_aload_n hx hb dX1_remember_52 rfl (lv_at hl 0 rfl) ?_
    refine va_get (C := RX1) (T := TX1) (N := 9) (v := .ref (q 9)) hx hb hts iw1 hown hK hP 0 rfl rfl 8 (Nat.le_of_ble_eq_true rfl) lk21 (fun _ h9 => h9) rfl dX1_remember_53 ?_
    refine lv_aload_n hx hb dX1_remember_56 rfl (lv_at hl 0 rfl) ?_
    refine va_get (C := RX1) (T := TX1) (N := 9) (v := .int v_undoable) hx hb hts iw1 hown hK hP 0 rfl rfl 4 (Nat.le_of_ble_eq_true rfl) lk37 (fun _ h9 => h9) rfl dX1_remember_57 ?_
    refine lv_aload_n hx hb dX1_remember_60 rfl (lv_at hl 0 rfl) ?_
    refine va_get (C := RX1) (T := TX1) (N := 9) (v := .int v_leader) hx hb hts iw1 hown hK hP 0 rfl rfl 3 (Nat.le_of_ble_eq_true rfl) lk24 (fun _ h9 => h9) rfl dX1_remember_61 ?_
    obtain ⟨hi4, h⟩ := xb_some h
    refine va_iast hx hb hK hP hD hS 4 0 rfl rfl hi4 dX1_remember_64 (fun H locs hP hD hS => ?_)
    have hP : va_P D vwCl [oX1 q v_corner v_minute v_paid v_leader v_undoable, rA (q 6) cI 10 (upd v_corners v_undoable.toNatClampNeg v_corner), rA (q 7) cI 10 (upd v_minutes v_undoable.toNatClampNeg v_minute), rA (q 8) cI 10 (upd v_paids v_undoable.toNatClampNeg v_paid), rA (q 9) cI 10 (upd v_leaders v_undoable.toNatClampNeg v_leader)] H := hP
    have hD : va_D A [oX1 q v_corner v_minute v_paid v_leader v_undoable, rA (q 6) cI 10 (upd v_corners v_undoable.toNatClampNeg v_corner), rA (q 7) cI 10 (upd v_minutes v_undoable.toNatClampNeg v_minute), rA (q 8) cI 10 (upd v_paids v_undoable.toNatClampNeg v_paid), rA (q 9) cI 10 (upd v_leaders v_undoable.toNatClampNeg v_leader)] := hD
    refine lv_aload_n hx hb dX1_remember_65 rfl (lv_at hl 0 rfl) ?_
    refine lv_dup hx hb dX1_remember_66 rfl ?_
    refine va_get (C := RX1) (T := TX1) (N := 9) (v := .int v_undoable) hx hb hts iw1 hown hK hP 0 rfl rfl 4 (Nat.le_of_ble_eq_true rfl) lk37 (fun _ h9 => h9) rfl dX1_remember_67 ?_
    refine lv_iconst (v := 1) hx hb dX1_remember_70 (by decide) ?_
    refine lv_iadd hx hb dX1_remember_71 ?_
    refine va_put (C := RX1) (T := TX1) (N := 9) (v := .int (v_undoable + (1 : Int32))) (ty := .int) hx hb hts iw1 tyX1 tyX1_ok nmX1 hown hK hP hD hS 0 rfl rfl 4 (Nat.le_of_ble_eq_true rfl) lk37 (fun _ h9 => h9) rfl (by decide +kernel) rfl rfl (Nat.le_of_ble_eq_true rfl) dX1_remember_72 (fun H locs hP hD hS => ?_)
    have hP : va_P D vwCl [oX1 q v_corner v_minute v_paid v_leader (v_undoable + (1 : Int32)), rA (q 6) cI 10 (upd v_corners v_undoable.toNatClampNeg v_corner), rA (q 7) cI 10 (upd v_minutes v_undoable.toNatClampNeg v_minute), rA (q 8) cI 10 (upd v_paids v_undoable.toNatClampNeg v_paid), rA (q 9) cI 10 (upd v_leaders v_undoable.toNatClampNeg v_leader)] H := hP
    have hD : va_D A [oX1 q v_corner v_minute v_paid v_leader (v_undoable + (1 : Int32)), rA (q 6) cI 10 (upd v_corners v_undoable.toNatClampNeg v_corner), rA (q 7) cI 10 (upd v_minutes v_undoable.toNatClampNeg v_minute), rA (q 8) cI 10 (upd v_paids v_undoable.toNatClampNeg v_paid), rA (q 9) cI 10 (upd v_leaders v_undoable.toNatClampNeg v_leader)] := hD
    exact hret ((v_undoable + (1 : Int32), upd v_corners v_undoable.toNatClampNeg v_corner, upd v_minutes v_undoable.toNatClampNeg v_minute, upd v_paids v_undoable.toNatClampNeg v_paid, upd v_leaders v_undoable.toNatClampNeg v_leader)) H locs _ ls (Option.some.inj h) hP hD hS dX1_remember_75
  have h := hf
  unfold f_X1_remember at h
  obtain ⟨H, eH⟩ : ∃ H, H = s.heap := ⟨_, rfl⟩
  rw [← eH] at hP ⊢
  obtain ⟨locs, el⟩ : ∃ locs : List Loc, locs = [] := ⟨_, rfl⟩
  rw [← el] at hS ⊢
  have hS : va_S A s.heap H locs := by rw [eH]; exact hS
  refine lv_aload_n hx hb dX1_remember_0 rfl (lv_at hl 0 rfl) ?_
  refine va_get (C := RX1) (T := TX1) (N := 9) (v := .int v_undoable) hx hb hts iw1 hown hK hP 0 rfl rfl 4 (Nat.le_of_ble_eq_true rfl) lk37 (fun _ h9 => h9) rfl dX1_remember_1 ?_
  refine lv_bipush (v := 10) hx hb dX1_remember_4 (by decide) ?_
  refine lv_icmp_lt (tgt := 13) hx hb dX1_remember_6 (by decide) (fun c5 => ?_) (fun c5 => ?_)
  · have h := (if_pos c5).symm.trans h
    exact hJ13 v_undoable v_corners v_minutes v_paids v_leaders H locs ls h hP hD hS (lv_sub hl [0] rfl)
  · have h := (if_neg c5).symm.trans h
    refine lv_aload_n hx hb dX1_remember_9 rfl (lv_at hl 0 rfl) ?_
    obtain ⟨r6, hr6, h⟩ := xk_some h
    refine vx_VV (As := []) (rest := []) (wr := []) (wn := [oX1 q v_corner v_minute v_paid v_leader r6.1, rA (q 6) cI 10 r6.2.1, rA (q 7) cI 10 r6.2.2.1, rA (q 8) cI 10 r6.2.2.2.1, rA (q 9) cI 10 r6.2.2.2.2]) hFx (k_X1_loseOldest l D cI cZ cT q H.size v_corner v_minute v_paid v_leader v_undoable v_corners v_minutes v_paids v_leaders r6 hr6) (cwV 0 hts gX1_remember_X1_loseOldest rfl rfl rfl (by decide +kernel) ⟨Nat.le_of_ble_eq_true rfl, Nat.le_of_ble_eq_true rfl⟩) hK hP hD hS hA [0, 1, 2, 3, 4] [] [0, 1, 2, 3, 4] rfl rfl rfl rfl (by decide) rfl rfl 1 0 rfl rfl rfl hl.1 rfl (Nat.le_of_ble_eq_true rfl) dX1_remember_10 ⟨Nat.zero_le _, Nat.zero_le _⟩ (fun H locs hP hD hS => ?_)
    exact hJ13 r6.1 r6.2.1 r6.2.2.1 r6.2.2.2.1 r6.2.2.2.2 H locs ls h hP hD hS (lv_sub hl [0] rfl)
abbrev rm_X1_step : Room := { frames := 3, cells := 0, slots := 0, locals := 104 }
set_option maxHeartbeats 4000000 in
set_option maxRecDepth 100000 in
theorem k_X1_step (l : Launch) (D : va_G) (cI cZ cT : ClassId) (q : Nat → Nat) (sz : Nat) (v_corner : Int32) (v_minute : Int32) (v_paid : Int32) (v_leader : Int32) (v_undoable : Int32) (v_corners : Nat → Int32) (v_minutes : Nat → Int32) (v_paids : Nat → Int32) (v_leaders : Nat → Int32) (x1 : Int32) (x2 : Int32) (x3 : Int32) (x4 : Int32) (res : R_X1_step) (hf : f_X1_step v_corner v_minute v_paid v_leader v_undoable v_corners v_minutes v_paids v_leaders x1 x2 x3 x4 = some res) : Met l yX1_step wsX1_step rm_X1_step (cPre D (tyz cI cZ cT) [.ref (q 0), .int x1, .int x2, .int x3, .int x4] sz [oX1 q v_corner v_minute v_paid v_leader v_undoable, rA (q 6) cI 10 v_corners, rA (q 7) cI 10 v_minutes, rA (q 8) cI 10 v_paids, rA (q 9) cI 10 v_leaders]) (cPv D (tyz cI cZ cT) (fun (u : Int32 × Int32 × Int32 × Int32 × Int32 × (Nat → Int32) × (Nat → Int32) × (Nat → Int32) × (Nat → Int32)) => u = res) (fun u => [oX1 q u.1 u.2.1 u.2.2.1 u.2.2.2.1 u.2.2.2.2.1, rA (q 6) cI 10 u.2.2.2.2.2.1, rA (q 7) cI 10 u.2.2.2.2.2.2.1, rA (q 8) cI 10 u.2.2.2.2.2.2.2.1, rA (q 9) cI 10 u.2.2.2.2.2.2.2.2]) [oX1 q v_corner v_minute v_paid v_leader v_undoable, rA (q 6) cI 10 v_corners, rA (q 7) cI 10 v_minutes, rA (q 8) cI 10 v_paids, rA (q 9) cI 10 v_leaders] sz) 0 0 (va_A [oX1 q v_corner v_minute v_paid v_leader v_undoable, rA (q 6) cI 10 v_corners, rA (q 7) cI 10 v_minutes, rA (q 8) cI 10 v_paids, rA (q 9) cI 10 v_leaders] sz) := by
  refine vx_meth_v (by decide) rfl (Nat.le_of_ble_eq_true rfl) ?_
  intro p e s m args below meth c A Q hx hb hml hown hts hK hP hD hA hS hret ls hl
  have hown : s.vm.findClass RX1 = some m.cls := hown
  have hl : lv_has ls 5 [(0, .ref (q 0)), (1, .int x1), (2, .int x2), (3, .int x3), (4, .int x4)] := hl
  have hFx : CallFix p m c cX1_step 5 s args wsX1_step RX1 := ⟨hx, hb, hml, hown, hts⟩
  have lk28 := hts (.fieldLink RX1 28 "FogGuides$Tale" "corner" "I") (by decide +kernel)
  have iw1 : ∀ w ∈ u_ws RX1 TX1 9, w ∈ wsX1_step := by decide +kernel
  have lk31 := hts (.fieldLink RX1 31 "FogGuides$Tale" "minute" "I") (by decide +kernel)
  have lk34 := hts (.fieldLink RX1 34 "FogGuides$Tale" "paid" "I") (by decide +kernel)
  have lk24 := hts (.fieldLink RX1 24 "FogGuides$Tale" "leader" "I") (by decide +kernel)
  have h := hf
  unfold f_X1_step at h
  obtain ⟨H, eH⟩ : ∃ H, H = s.heap := ⟨_, rfl⟩
  rw [← eH] at hP ⊢
  obtain ⟨locs, el⟩ : ∃ locs : List Loc, locs = [] := ⟨_, rfl⟩
  rw [← el] at hS ⊢
  have hS : va_S A s.heap H locs := by rw [eH]; exact hS
  refine lv_aload_n hx hb dX1_step_0 rfl (lv_at hl 0 rfl) ?_
  obtain ⟨r1, hr1, h⟩ := xk_some h
  refine vx_VV (As := []) (rest := []) (wr := []) (wn := [oX1 q v_corner v_minute v_paid v_leader r1.1, rA (q 6) cI 10 r1.2.1, rA (q 7) cI 10 r1.2.2.1, rA (q 8) cI 10 r1.2.2.2.1, rA (q 9) cI 10 r1.2.2.2.2]) hFx (k_X1_remember l D cI cZ cT q H.size v_corner v_minute v_paid v_leader v_undoable v_corners v_minutes v_paids v_leaders r1 hr1) (cwV 0 hts gX1_step_X1_remember rfl rfl rfl (by decide +kernel) ⟨Nat.le_of_ble_eq_true rfl, Nat.le_of_ble_eq_true rfl⟩) hK hP hD hS hA [0, 1, 2, 3, 4] [] [0, 1, 2, 3, 4] rfl rfl rfl rfl (by decide) rfl rfl 1 0 rfl rfl rfl hl.1 rfl (Nat.le_of_ble_eq_true rfl) dX1_step_1 ⟨Nat.zero_le _, Nat.zero_le _⟩ (fun H locs hP hD hS => ?_)
  refine lv_aload_n hx hb dX1_step_4 rfl (lv_at hl 0 rfl) ?_
  refine lv_iload_n hx hb dX1_step_5 rfl (lv_at hl 1 rfl) ?_
  refine va_put (C := RX1) (T := TX1) (N := 9) (v := .int x1) (ty := .int) hx hb hts iw1 tyX1 tyX1_ok nmX1 hown hK hP hD hS 0 rfl rfl 0 (Nat.le_of_ble_eq_true rfl) lk28 (fun _ h9 => h9) rfl (by decide +kernel) rfl rfl (Nat.le_of_ble_eq_true rfl) dX1_step_6 (fun H locs hP hD hS => ?_)
  have hP : va_P D vwCl [oX1 q x1 v_minute v_paid v_leader r1.1, rA (q 6) cI 10 r1.2.1, rA (q 7) cI 10 r1.2.2.1, rA (q 8) cI 10 r1.2.2.2.1, rA (q 9) cI 10 r1.2.2.2.2] H := hP
  have hD : va_D A [oX1 q x1 v_minute v_paid v_leader r1.1, rA (q 6) cI 10 r1.2.1, rA (q 7) cI 10 r1.2.2.1, rA (q 8) cI 10 r1.2.2.2.1, rA (q 9) cI 10 r1.2.2.2.2] := hD
  refine lv_aload_n hx hb dX1_step_9 rfl (lv_at hl 0 rfl) ?_
  refine lv_dup hx hb dX1_step_10 rfl ?_
  refine va_get (C := RX1) (T := TX1) (N := 9) (v := .int v_minute) hx hb hts iw1 hown hK hP 0 rfl rfl 1 (Nat.le_of_ble_eq_true rfl) lk31 (fun _ h9 => h9) rfl dX1_step_11 ?_
  refine lv_iload_n hx hb dX1_step_14 rfl (lv_at hl 2 rfl) ?_
  refine lv_iadd hx hb dX1_step_15 ?_
  refine va_put (C := RX1) (T := TX1) (N := 9) (v := .int (v_minute + x2)) (ty := .int) hx hb hts iw1 tyX1 tyX1_ok nmX1 hown hK hP hD hS 0 rfl rfl 1 (Nat.le_of_ble_eq_true rfl) lk31 (fun _ h9 => h9) rfl (by decide +kernel) rfl rfl (Nat.le_of_ble_eq_true rfl) dX1_step_16 (fun H locs hP hD hS => ?_)
  have hP : va_P D vwCl [oX1 q x1 (v_minute + x2) v_paid v_leader r1.1, rA (q 6) cI 10 r1.2.1, rA (q 7) cI 10 r1.2.2.1, rA (q 8) cI 10 r1.2.2.2.1, rA (q 9) cI 10 r1.2.2.2.2] H := hP
  have hD : va_D A [oX1 q x1 (v_minute + x2) v_paid v_leader r1.1, rA (q 6) cI 10 r1.2.1, rA (q 7) cI 10 r1.2.2.1, rA (q 8) cI 10 r1.2.2.2.1, rA (q 9) cI 10 r1.2.2.2.2] := hD
  refine lv_aload_n hx hb dX1_step_19 rfl (lv_at hl 0 rfl) ?_
  refine lv_dup hx hb dX1_step_20 rfl ?_
  refine va_get (C := RX1) (T := TX1) (N := 9) (v := .int v_paid) hx hb hts iw1 hown hK hP 0 rfl rfl 2 (Nat.le_of_ble_eq_true rfl) lk34 (fun _ h9 => h9) rfl dX1_step_21 ?_
  refine lv_iload_n hx hb dX1_step_24 rfl (lv_at hl 3 rfl) ?_
  refine lv_iadd hx hb dX1_step_25 ?_
  refine va_put (C := RX1) (T := TX1) (N := 9) (v := .int (v_paid + x3)) (ty := .int) hx hb hts iw1 tyX1 tyX1_ok nmX1 hown hK hP hD hS 0 rfl rfl 2 (Nat.le_of_ble_eq_true rfl) lk34 (fun _ h9 => h9) rfl (by decide +kernel) rfl rfl (Nat.le_of_ble_eq_true rfl) dX1_step_26 (fun H locs hP hD hS => ?_)
  have hP : va_P D vwCl [oX1 q x1 (v_minute + x2) (v_paid + x3) v_leader r1.1, rA (q 6) cI 10 r1.2.1, rA (q 7) cI 10 r1.2.2.1, rA (q 8) cI 10 r1.2.2.2.1, rA (q 9) cI 10 r1.2.2.2.2] H := hP
  have hD : va_D A [oX1 q x1 (v_minute + x2) (v_paid + x3) v_leader r1.1, rA (q 6) cI 10 r1.2.1, rA (q 7) cI 10 r1.2.2.1, rA (q 8) cI 10 r1.2.2.2.1, rA (q 9) cI 10 r1.2.2.2.2] := hD
  refine lv_aload_n hx hb dX1_step_29 rfl (lv_at hl 0 rfl) ?_
  refine lv_iload hx hb dX1_step_30 (lv_at hl 4 rfl) ?_
  refine va_put (C := RX1) (T := TX1) (N := 9) (v := .int x4) (ty := .int) hx hb hts iw1 tyX1 tyX1_ok nmX1 hown hK hP hD hS 0 rfl rfl 3 (Nat.le_of_ble_eq_true rfl) lk24 (fun _ h9 => h9) rfl (by decide +kernel) rfl rfl (Nat.le_of_ble_eq_true rfl) dX1_step_32 (fun H locs hP hD hS => ?_)
  have hP : va_P D vwCl [oX1 q x1 (v_minute + x2) (v_paid + x3) x4 r1.1, rA (q 6) cI 10 r1.2.1, rA (q 7) cI 10 r1.2.2.1, rA (q 8) cI 10 r1.2.2.2.1, rA (q 9) cI 10 r1.2.2.2.2] H := hP
  have hD : va_D A [oX1 q x1 (v_minute + x2) (v_paid + x3) x4 r1.1, rA (q 6) cI 10 r1.2.1, rA (q 7) cI 10 r1.2.2.1, rA (q 8) cI 10 r1.2.2.2.1, rA (q 9) cI 10 r1.2.2.2.2] := hD
  exact hret (x1, v_minute + x2, v_paid + x3, x4, r1.1, r1.2.1, r1.2.2.1, r1.2.2.2.1, r1.2.2.2.2) H locs _ ls (Option.some.inj h) hP hD hS dX1_step_35
abbrev rm_X1_takeBack : Room := { frames := 0, cells := 0, slots := 0, locals := 0 }
set_option maxHeartbeats 4000000 in
set_option maxRecDepth 100000 in
theorem k_X1_takeBack (l : Launch) (D : va_G) (cI cZ cT : ClassId) (q : Nat → Nat) (sz : Nat) (v_corner : Int32) (v_minute : Int32) (v_paid : Int32) (v_leader : Int32) (v_undoable : Int32) (v_corners : Nat → Int32) (v_minutes : Nat → Int32) (v_paids : Nat → Int32) (v_leaders : Nat → Int32) (res : R_X1_takeBack) (hf : f_X1_takeBack v_corner v_minute v_paid v_leader v_undoable v_corners v_minutes v_paids v_leaders = some res) : Met l yX1_takeBack wsX1_takeBack rm_X1_takeBack (cPre D (tyz cI cZ cT) [.ref (q 0)] sz [oX1 q v_corner v_minute v_paid v_leader v_undoable, rA (q 6) cI 10 v_corners, rA (q 7) cI 10 v_minutes, rA (q 8) cI 10 v_paids, rA (q 9) cI 10 v_leaders]) (cPi D (tyz cI cZ cT) (fun (r : Int32) (u : Int32 × Int32 × Int32 × Int32 × Int32) => (r, u) = res) (fun u => [oX1 q u.1 u.2.1 u.2.2.1 u.2.2.2.1 u.2.2.2.2, rA (q 6) cI 10 v_corners, rA (q 7) cI 10 v_minutes, rA (q 8) cI 10 v_paids, rA (q 9) cI 10 v_leaders]) [oX1 q v_corner v_minute v_paid v_leader v_undoable, rA (q 6) cI 10 v_corners, rA (q 7) cI 10 v_minutes, rA (q 8) cI 10 v_paids, rA (q 9) cI 10 v_leaders] sz) 0 0 (va_A [oX1 q v_corner v_minute v_paid v_leader v_undoable, rA (q 6) cI 10 v_corners, rA (q 7) cI 10 v_minutes, rA (q 8) cI 10 v_paids, rA (q 9) cI 10 v_leaders] sz) := by
  refine vx_meth_z (by decide) rfl (Nat.le_of_ble_eq_true rfl) ?_
  intro p e s m args below meth c A Q hx hb hml hown hts hK hP hD hA hS hret ls hl
  have hown : s.vm.findClass RX1 = some m.cls := hown
  have hl : lv_has ls 1 [(0, .ref (q 0))] := hl
  have hFx : CallFix p m c cX1_takeBack 1 s args wsX1_takeBack RX1 := ⟨hx, hb, hml, hown, hts⟩
  have lk37 := hts (.fieldLink RX1 37 "FogGuides$Tale" "undoable" "I") (by decide +kernel)
  have iw1 : ∀ w ∈ u_ws RX1 TX1 9, w ∈ wsX1_takeBack := by decide +kernel
  have lk9 := hts (.fieldLink RX1 9 "FogGuides$Tale" "corners" "[I") (by decide +kernel)
  have lk28 := hts (.fieldLink RX1 28 "FogGuides$Tale" "corner" "I") (by decide +kernel)
  have lk15 := hts (.fieldLink RX1 15 "FogGuides$Tale" "minutes" "[I") (by decide +kernel)
  have lk31 := hts (.fieldLink RX1 31 "FogGuides$Tale" "minute" "I") (by decide +kernel)
  have lk18 := hts (.fieldLink RX1 18 "FogGuides$Tale" "paids" "[I") (by decide +kernel)
  have lk34 := hts (.fieldLink RX1 34 "FogGuides$Tale" "paid" "I") (by decide +kernel)
  have lk21 := hts (.fieldLink RX1 21 "FogGuides$Tale" "leaders" "[I") (by decide +kernel)
  have lk24 := hts (.fieldLink RX1 24 "FogGuides$Tale" "leader" "I") (by decide +kernel)
  have h := hf
  unfold f_X1_takeBack at h
  obtain ⟨H, eH⟩ : ∃ H, H = s.heap := ⟨_, rfl⟩
  rw [← eH] at hP ⊢
  obtain ⟨locs, el⟩ : ∃ locs : List Loc, locs = [] := ⟨_, rfl⟩
  rw [← el] at hS ⊢
  have hS : va_S A s.heap H locs := by rw [eH]; exact hS
  refine lv_aload_n hx hb dX1_takeBack_0 rfl (lv_at hl 0 rfl) ?_
  refine va_get (C := RX1) (T := TX1) (N := 9) (v := .int v_undoable) hx hb hts iw1 hown hK hP 0 rfl rfl 4 (Nat.le_of_ble_eq_true rfl) lk37 (fun _ h9 => h9) rfl dX1_takeBack_1 ?_
  refine lv_iconst (v := 1) hx hb dX1_takeBack_4 (by decide) ?_
  refine lv_icmp_ge (tgt := 10) hx hb dX1_takeBack_5 (by decide) (fun c1 => ?_) (fun c1 => ?_)
  · have h := (if_pos c1).symm.trans h
    refine lv_aload_n hx hb dX1_takeBack_10 rfl (lv_at hl 0 rfl) ?_
    refine lv_dup hx hb dX1_takeBack_11 rfl ?_
    refine va_get (C := RX1) (T := TX1) (N := 9) (v := .int v_undoable) hx hb hts iw1 hown hK hP 0 rfl rfl 4 (Nat.le_of_ble_eq_true rfl) lk37 (fun _ h9 => h9) rfl dX1_takeBack_12 ?_
    refine lv_iconst (v := 1) hx hb dX1_takeBack_15 (by decide) ?_
    refine lv_isub hx hb dX1_takeBack_16 ?_
    refine va_put (C := RX1) (T := TX1) (N := 9) (v := .int (v_undoable - (1 : Int32))) (ty := .int) hx hb hts iw1 tyX1 tyX1_ok nmX1 hown hK hP hD hS 0 rfl rfl 4 (Nat.le_of_ble_eq_true rfl) lk37 (fun _ h9 => h9) rfl (by decide +kernel) rfl rfl (Nat.le_of_ble_eq_true rfl) dX1_takeBack_17 (fun H locs hP hD hS => ?_)
    have hP : va_P D vwCl [oX1 q v_corner v_minute v_paid v_leader (v_undoable - (1 : Int32)), rA (q 6) cI 10 v_corners, rA (q 7) cI 10 v_minutes, rA (q 8) cI 10 v_paids, rA (q 9) cI 10 v_leaders] H := hP
    have hD : va_D A [oX1 q v_corner v_minute v_paid v_leader (v_undoable - (1 : Int32)), rA (q 6) cI 10 v_corners, rA (q 7) cI 10 v_minutes, rA (q 8) cI 10 v_paids, rA (q 9) cI 10 v_leaders] := hD
    refine lv_aload_n hx hb dX1_takeBack_20 rfl (lv_at hl 0 rfl) ?_
    refine lv_aload_n hx hb dX1_takeBack_21 rfl (lv_at hl 0 rfl) ?_
    refine va_get (C := RX1) (T := TX1) (N := 9) (v := .ref (q 6)) hx hb hts iw1 hown hK hP 0 rfl rfl 5 (Nat.le_of_ble_eq_true rfl) lk9 (fun _ h9 => h9) rfl dX1_takeBack_22 ?_
    refine lv_aload_n hx hb dX1_takeBack_25 rfl (lv_at hl 0 rfl) ?_
    refine va_get (C := RX1) (T := TX1) (N := 9) (v := .int (v_undoable - (1 : Int32))) hx hb hts iw1 hown hK hP 0 rfl rfl 4 (Nat.le_of_ble_eq_true rfl) lk37 (fun _ h9 => h9) rfl dX1_takeBack_26 ?_
    obtain ⟨hi2, h⟩ := xb_some h
    refine va_iald hx hb hK hP 1 0 rfl rfl hi2 dX1_takeBack_29 ?_
    refine va_put (C := RX1) (T := TX1) (N := 9) (v := .int (v_corners (v_undoable - (1 : Int32)).toNatClampNeg)) (ty := .int) hx hb hts iw1 tyX1 tyX1_ok nmX1 hown hK hP hD hS 0 rfl rfl 0 (Nat.le_of_ble_eq_true rfl) lk28 (fun _ h9 => h9) rfl (by decide +kernel) rfl rfl (Nat.le_of_ble_eq_true rfl) dX1_takeBack_30 (fun H locs hP hD hS => ?_)
    have hP : va_P D vwCl [oX1 q (v_corners (v_undoable - (1 : Int32)).toNatClampNeg) v_minute v_paid v_leader (v_undoable - (1 : Int32)), rA (q 6) cI 10 v_corners, rA (q 7) cI 10 v_minutes, rA (q 8) cI 10 v_paids, rA (q 9) cI 10 v_leaders] H := hP
    have hD : va_D A [oX1 q (v_corners (v_undoable - (1 : Int32)).toNatClampNeg) v_minute v_paid v_leader (v_undoable - (1 : Int32)), rA (q 6) cI 10 v_corners, rA (q 7) cI 10 v_minutes, rA (q 8) cI 10 v_paids, rA (q 9) cI 10 v_leaders] := hD
    refine lv_aload_n hx hb dX1_takeBack_33 rfl (lv_at hl 0 rfl) ?_
    refine lv_aload_n hx hb dX1_takeBack_34 rfl (lv_at hl 0 rfl) ?_
    refine va_get (C := RX1) (T := TX1) (N := 9) (v := .ref (q 7)) hx hb hts iw1 hown hK hP 0 rfl rfl 6 (Nat.le_of_ble_eq_true rfl) lk15 (fun _ h9 => h9) rfl dX1_takeBack_35 ?_
    refine lv_aload_n hx hb dX1_takeBack_38 rfl (lv_at hl 0 rfl) ?_
    refine va_get (C := RX1) (T := TX1) (N := 9) (v := .int (v_undoable - (1 : Int32))) hx hb hts iw1 hown hK hP 0 rfl rfl 4 (Nat.le_of_ble_eq_true rfl) lk37 (fun _ h9 => h9) rfl dX1_takeBack_39 ?_
    obtain ⟨hi3, h⟩ := xb_some h
    refine va_iald hx hb hK hP 2 0 rfl rfl hi3 dX1_takeBack_42 ?_
    refine va_put (C := RX1) (T := TX1) (N := 9) (v := .int (v_minutes (v_undoable - (1 : Int32)).toNatClampNeg)) (ty := .int) hx hb hts iw1 tyX1 tyX1_ok nmX1 hown hK hP hD hS 0 rfl rfl 1 (Nat.le_of_ble_eq_true rfl) lk31 (fun _ h9 => h9) rfl (by decide +kernel) rfl rfl (Nat.le_of_ble_eq_true rfl) dX1_takeBack_43 (fun H locs hP hD hS => ?_)
    have hP : va_P D vwCl [oX1 q (v_corners (v_undoable - (1 : Int32)).toNatClampNeg) (v_minutes (v_undoable - (1 : Int32)).toNatClampNeg) v_paid v_leader (v_undoable - (1 : Int32)), rA (q 6) cI 10 v_corners, rA (q 7) cI 10 v_minutes, rA (q 8) cI 10 v_paids, rA (q 9) cI 10 v_leaders] H := hP
    have hD : va_D A [oX1 q (v_corners (v_undoable - (1 : Int32)).toNatClampNeg) (v_minutes (v_undoable - (1 : Int32)).toNatClampNeg) v_paid v_leader (v_undoable - (1 : Int32)), rA (q 6) cI 10 v_corners, rA (q 7) cI 10 v_minutes, rA (q 8) cI 10 v_paids, rA (q 9) cI 10 v_leaders] := hD
    refine lv_aload_n hx hb dX1_takeBack_46 rfl (lv_at hl 0 rfl) ?_
    refine lv_aload_n hx hb dX1_takeBack_47 rfl (lv_at hl 0 rfl) ?_
    refine va_get (C := RX1) (T := TX1) (N := 9) (v := .ref (q 8)) hx hb hts iw1 hown hK hP 0 rfl rfl 7 (Nat.le_of_ble_eq_true rfl) lk18 (fun _ h9 => h9) rfl dX1_takeBack_48 ?_
    refine lv_aload_n hx hb dX1_takeBack_51 rfl (lv_at hl 0 rfl) ?_
    refine va_get (C := RX1) (T := TX1) (N := 9) (v := .int (v_undoable - (1 : Int32))) hx hb hts iw1 hown hK hP 0 rfl rfl 4 (Nat.le_of_ble_eq_true rfl) lk37 (fun _ h9 => h9) rfl dX1_takeBack_52 ?_
    obtain ⟨hi4, h⟩ := xb_some h
    refine va_iald hx hb hK hP 3 0 rfl rfl hi4 dX1_takeBack_55 ?_
    refine va_put (C := RX1) (T := TX1) (N := 9) (v := .int (v_paids (v_undoable - (1 : Int32)).toNatClampNeg)) (ty := .int) hx hb hts iw1 tyX1 tyX1_ok nmX1 hown hK hP hD hS 0 rfl rfl 2 (Nat.le_of_ble_eq_true rfl) lk34 (fun _ h9 => h9) rfl (by decide +kernel) rfl rfl (Nat.le_of_ble_eq_true rfl) dX1_takeBack_56 (fun H locs hP hD hS => ?_)
    have hP : va_P D vwCl [oX1 q (v_corners (v_undoable - (1 : Int32)).toNatClampNeg) (v_minutes (v_undoable - (1 : Int32)).toNatClampNeg) (v_paids (v_undoable - (1 : Int32)).toNatClampNeg) v_leader (v_undoable - (1 : Int32)), rA (q 6) cI 10 v_corners, rA (q 7) cI 10 v_minutes, rA (q 8) cI 10 v_paids, rA (q 9) cI 10 v_leaders] H := hP
    have hD : va_D A [oX1 q (v_corners (v_undoable - (1 : Int32)).toNatClampNeg) (v_minutes (v_undoable - (1 : Int32)).toNatClampNeg) (v_paids (v_undoable - (1 : Int32)).toNatClampNeg) v_leader (v_undoable - (1 : Int32)), rA (q 6) cI 10 v_corners, rA (q 7) cI 10 v_minutes, rA (q 8) cI 10 v_paids, rA (q 9) cI 10 v_leaders] := hD
    refine lv_aload_n hx hb dX1_takeBack_59 rfl (lv_at hl 0 rfl) ?_
    refine lv_aload_n hx hb dX1_takeBack_60 rfl (lv_at hl 0 rfl) ?_
    refine va_get (C := RX1) (T := TX1) (N := 9) (v := .ref (q 9)) hx hb hts iw1 hown hK hP 0 rfl rfl 8 (Nat.le_of_ble_eq_true rfl) lk21 (fun _ h9 => h9) rfl dX1_takeBack_61 ?_
    refine lv_aload_n hx hb dX1_takeBack_64 rfl (lv_at hl 0 rfl) ?_
    refine va_get (C := RX1) (T := TX1) (N := 9) (v := .int (v_undoable - (1 : Int32))) hx hb hts iw1 hown hK hP 0 rfl rfl 4 (Nat.le_of_ble_eq_true rfl) lk37 (fun _ h9 => h9) rfl dX1_takeBack_65 ?_
    obtain ⟨hi5, h⟩ := xb_some h
    refine va_iald hx hb hK hP 4 0 rfl rfl hi5 dX1_takeBack_68 ?_
    refine va_put (C := RX1) (T := TX1) (N := 9) (v := .int (v_leaders (v_undoable - (1 : Int32)).toNatClampNeg)) (ty := .int) hx hb hts iw1 tyX1 tyX1_ok nmX1 hown hK hP hD hS 0 rfl rfl 3 (Nat.le_of_ble_eq_true rfl) lk24 (fun _ h9 => h9) rfl (by decide +kernel) rfl rfl (Nat.le_of_ble_eq_true rfl) dX1_takeBack_69 (fun H locs hP hD hS => ?_)
    have hP : va_P D vwCl [oX1 q (v_corners (v_undoable - (1 : Int32)).toNatClampNeg) (v_minutes (v_undoable - (1 : Int32)).toNatClampNeg) (v_paids (v_undoable - (1 : Int32)).toNatClampNeg) (v_leaders (v_undoable - (1 : Int32)).toNatClampNeg) (v_undoable - (1 : Int32)), rA (q 6) cI 10 v_corners, rA (q 7) cI 10 v_minutes, rA (q 8) cI 10 v_paids, rA (q 9) cI 10 v_leaders] H := hP
    have hD : va_D A [oX1 q (v_corners (v_undoable - (1 : Int32)).toNatClampNeg) (v_minutes (v_undoable - (1 : Int32)).toNatClampNeg) (v_paids (v_undoable - (1 : Int32)).toNatClampNeg) (v_leaders (v_undoable - (1 : Int32)).toNatClampNeg) (v_undoable - (1 : Int32)), rA (q 6) cI 10 v_corners, rA (q 7) cI 10 v_minutes, rA (q 8) cI 10 v_paids, rA (q 9) cI 10 v_leaders] := hD
    refine lv_iconst (v := 1) hx hb dX1_takeBack_72 (by decide) ?_
    exact hret (1 : Int32) ((v_corners (v_undoable - (1 : Int32)).toNatClampNeg, v_minutes (v_undoable - (1 : Int32)).toNatClampNeg, v_paids (v_undoable - (1 : Int32)).toNatClampNeg, v_leaders (v_undoable - (1 : Int32)).toNatClampNeg, v_undoable - (1 : Int32))) H locs _ ls (Or.inr rfl) (Option.some.inj h) hP hD hS dX1_takeBack_73
  · have h := (if_neg c1).symm.trans h
    refine lv_iconst (v := 0) hx hb dX1_takeBack_8 (by decide) ?_
    exact hret (0 : Int32) (v_corner, v_minute, v_paid, v_leader, v_undoable) H locs _ ls (Or.inl rfl) (Option.some.inj h) hP hD hS dX1_takeBack_9
abbrev rm_X1_become : Room := { frames := 1, cells := 0, slots := 0, locals := 64 }
set_option maxHeartbeats 4000000 in
set_option maxRecDepth 100000 in
theorem k_X1_become (l : Launch) (D : va_G) (cI cZ cT : ClassId) (q : Nat → Nat) (qo : Nat → Nat) (sz : Nat) (v_corner : Int32) (v_minute : Int32) (v_paid : Int32) (v_leader : Int32) (v_undoable : Int32) (o_corner : Int32) (o_minute : Int32) (o_paid : Int32) (o_leader : Int32) (o_undoable : Int32) (v_corners : Nat → Int32) (v_minutes : Nat → Int32) (v_paids : Nat → Int32) (v_leaders : Nat → Int32) (o_corners : Nat → Int32) (o_minutes : Nat → Int32) (o_paids : Nat → Int32) (o_leaders : Nat → Int32) (res : R_X1_become) (hf : f_X1_become v_corner v_minute v_paid v_leader v_undoable v_corners v_minutes v_paids v_leaders o_corner o_minute o_paid o_leader o_undoable o_corners o_minutes o_paids o_leaders = some res) : Met l yX1_become wsX1_become rm_X1_become (cPre D (tyz cI cZ cT) [.ref (q 0), .ref (qo 0)] sz [oX1 q v_corner v_minute v_paid v_leader v_undoable, rA (q 6) cI 10 v_corners, rA (q 7) cI 10 v_minutes, rA (q 8) cI 10 v_paids, rA (q 9) cI 10 v_leaders, oX1 qo o_corner o_minute o_paid o_leader o_undoable, rA (qo 6) cI 10 o_corners, rA (qo 7) cI 10 o_minutes, rA (qo 8) cI 10 o_paids, rA (qo 9) cI 10 o_leaders]) (cPv D (tyz cI cZ cT) (fun (u : Int32 × Int32 × Int32 × Int32 × Int32 × (Nat → Int32) × (Nat → Int32) × (Nat → Int32) × (Nat → Int32)) => u = res) (fun u => [oX1 q u.1 u.2.1 u.2.2.1 u.2.2.2.1 u.2.2.2.2.1, rA (q 6) cI 10 u.2.2.2.2.2.1, rA (q 7) cI 10 u.2.2.2.2.2.2.1, rA (q 8) cI 10 u.2.2.2.2.2.2.2.1, rA (q 9) cI 10 u.2.2.2.2.2.2.2.2, oX1 qo o_corner o_minute o_paid o_leader o_undoable, rA (qo 6) cI 10 o_corners, rA (qo 7) cI 10 o_minutes, rA (qo 8) cI 10 o_paids, rA (qo 9) cI 10 o_leaders]) [oX1 q v_corner v_minute v_paid v_leader v_undoable, rA (q 6) cI 10 v_corners, rA (q 7) cI 10 v_minutes, rA (q 8) cI 10 v_paids, rA (q 9) cI 10 v_leaders, oX1 qo o_corner o_minute o_paid o_leader o_undoable, rA (qo 6) cI 10 o_corners, rA (qo 7) cI 10 o_minutes, rA (qo 8) cI 10 o_paids, rA (qo 9) cI 10 o_leaders] sz) 0 0 (va_A [oX1 q v_corner v_minute v_paid v_leader v_undoable, rA (q 6) cI 10 v_corners, rA (q 7) cI 10 v_minutes, rA (q 8) cI 10 v_paids, rA (q 9) cI 10 v_leaders, oX1 qo o_corner o_minute o_paid o_leader o_undoable, rA (qo 6) cI 10 o_corners, rA (qo 7) cI 10 o_minutes, rA (qo 8) cI 10 o_paids, rA (qo 9) cI 10 o_leaders] sz) := by
  refine vx_meth_v (by decide) rfl (Nat.le_of_ble_eq_true rfl) ?_
  intro p e s m args below meth c A Q hx hb hml hown hts hK hP hD hA hS hret ls hl
  have hown : s.vm.findClass RX1 = some m.cls := hown
  have hl : lv_has ls 2 [(0, .ref (q 0)), (1, .ref (qo 0))] := hl
  have hFx : CallFix p m c cX1_become 2 s args wsX1_become RX1 := ⟨hx, hb, hml, hown, hts⟩
  have lk28 := hts (.fieldLink RX1 28 "FogGuides$Tale" "corner" "I") (by decide +kernel)
  have iw1 : ∀ w ∈ u_ws RX1 TX1 9, w ∈ wsX1_become := by decide +kernel
  have lk31 := hts (.fieldLink RX1 31 "FogGuides$Tale" "minute" "I") (by decide +kernel)
  have lk34 := hts (.fieldLink RX1 34 "FogGuides$Tale" "paid" "I") (by decide +kernel)
  have lk24 := hts (.fieldLink RX1 24 "FogGuides$Tale" "leader" "I") (by decide +kernel)
  have lk37 := hts (.fieldLink RX1 37 "FogGuides$Tale" "undoable" "I") (by decide +kernel)
  have lk9 := hts (.fieldLink RX1 9 "FogGuides$Tale" "corners" "[I") (by decide +kernel)
  have lk15 := hts (.fieldLink RX1 15 "FogGuides$Tale" "minutes" "[I") (by decide +kernel)
  have lk18 := hts (.fieldLink RX1 18 "FogGuides$Tale" "paids" "[I") (by decide +kernel)
  have lk21 := hts (.fieldLink RX1 21 "FogGuides$Tale" "leaders" "[I") (by decide +kernel)
  have h := hf
  unfold f_X1_become at h
  obtain ⟨H, eH⟩ : ∃ H, H = s.heap := ⟨_, rfl⟩
  rw [← eH] at hP ⊢
  obtain ⟨locs, el⟩ : ∃ locs : List Loc, locs = [] := ⟨_, rfl⟩
  rw [← el] at hS ⊢
  have hS : va_S A s.heap H locs := by rw [eH]; exact hS
  refine lv_aload_n hx hb dX1_become_0 rfl (lv_at hl 0 rfl) ?_
  refine lv_aload_n hx hb dX1_become_1 rfl (lv_at hl 1 rfl) ?_
  refine va_get (C := RX1) (T := TX1) (N := 9) (v := .int o_corner) hx hb hts iw1 hown hK hP 5 rfl rfl 0 (Nat.le_of_ble_eq_true rfl) lk28 (fun _ h9 => h9) rfl dX1_become_2 ?_
  refine va_put (C := RX1) (T := TX1) (N := 9) (v := .int o_corner) (ty := .int) hx hb hts iw1 tyX1 tyX1_ok nmX1 hown hK hP hD hS 0 rfl rfl 0 (Nat.le_of_ble_eq_true rfl) lk28 (fun _ h9 => h9) rfl (by decide +kernel) rfl rfl (Nat.le_of_ble_eq_true rfl) dX1_become_5 (fun H locs hP hD hS => ?_)
  have hP : va_P D vwCl [oX1 q o_corner v_minute v_paid v_leader v_undoable, rA (q 6) cI 10 v_corners, rA (q 7) cI 10 v_minutes, rA (q 8) cI 10 v_paids, rA (q 9) cI 10 v_leaders, oX1 qo o_corner o_minute o_paid o_leader o_undoable, rA (qo 6) cI 10 o_corners, rA (qo 7) cI 10 o_minutes, rA (qo 8) cI 10 o_paids, rA (qo 9) cI 10 o_leaders] H := hP
  have hD : va_D A [oX1 q o_corner v_minute v_paid v_leader v_undoable, rA (q 6) cI 10 v_corners, rA (q 7) cI 10 v_minutes, rA (q 8) cI 10 v_paids, rA (q 9) cI 10 v_leaders, oX1 qo o_corner o_minute o_paid o_leader o_undoable, rA (qo 6) cI 10 o_corners, rA (qo 7) cI 10 o_minutes, rA (qo 8) cI 10 o_paids, rA (qo 9) cI 10 o_leaders] := hD
  refine lv_aload_n hx hb dX1_become_8 rfl (lv_at hl 0 rfl) ?_
  refine lv_aload_n hx hb dX1_become_9 rfl (lv_at hl 1 rfl) ?_
  refine va_get (C := RX1) (T := TX1) (N := 9) (v := .int o_minute) hx hb hts iw1 hown hK hP 5 rfl rfl 1 (Nat.le_of_ble_eq_true rfl) lk31 (fun _ h9 => h9) rfl dX1_become_10 ?_
  refine va_put (C := RX1) (T := TX1) (N := 9) (v := .int o_minute) (ty := .int) hx hb hts iw1 tyX1 tyX1_ok nmX1 hown hK hP hD hS 0 rfl rfl 1 (Nat.le_of_ble_eq_true rfl) lk31 (fun _ h9 => h9) rfl (by decide +kernel) rfl rfl (Nat.le_of_ble_eq_true rfl) dX1_become_13 (fun H locs hP hD hS => ?_)
  have hP : va_P D vwCl [oX1 q o_corner o_minute v_paid v_leader v_undoable, rA (q 6) cI 10 v_corners, rA (q 7) cI 10 v_minutes, rA (q 8) cI 10 v_paids, rA (q 9) cI 10 v_leaders, oX1 qo o_corner o_minute o_paid o_leader o_undoable, rA (qo 6) cI 10 o_corners, rA (qo 7) cI 10 o_minutes, rA (qo 8) cI 10 o_paids, rA (qo 9) cI 10 o_leaders] H := hP
  have hD : va_D A [oX1 q o_corner o_minute v_paid v_leader v_undoable, rA (q 6) cI 10 v_corners, rA (q 7) cI 10 v_minutes, rA (q 8) cI 10 v_paids, rA (q 9) cI 10 v_leaders, oX1 qo o_corner o_minute o_paid o_leader o_undoable, rA (qo 6) cI 10 o_corners, rA (qo 7) cI 10 o_minutes, rA (qo 8) cI 10 o_paids, rA (qo 9) cI 10 o_leaders] := hD
  refine lv_aload_n hx hb dX1_become_16 rfl (lv_at hl 0 rfl) ?_
  refine lv_aload_n hx hb dX1_become_17 rfl (lv_at hl 1 rfl) ?_
  refine va_get (C := RX1) (T := TX1) (N := 9) (v := .int o_paid) hx hb hts iw1 hown hK hP 5 rfl rfl 2 (Nat.le_of_ble_eq_true rfl) lk34 (fun _ h9 => h9) rfl dX1_become_18 ?_
  refine va_put (C := RX1) (T := TX1) (N := 9) (v := .int o_paid) (ty := .int) hx hb hts iw1 tyX1 tyX1_ok nmX1 hown hK hP hD hS 0 rfl rfl 2 (Nat.le_of_ble_eq_true rfl) lk34 (fun _ h9 => h9) rfl (by decide +kernel) rfl rfl (Nat.le_of_ble_eq_true rfl) dX1_become_21 (fun H locs hP hD hS => ?_)
  have hP : va_P D vwCl [oX1 q o_corner o_minute o_paid v_leader v_undoable, rA (q 6) cI 10 v_corners, rA (q 7) cI 10 v_minutes, rA (q 8) cI 10 v_paids, rA (q 9) cI 10 v_leaders, oX1 qo o_corner o_minute o_paid o_leader o_undoable, rA (qo 6) cI 10 o_corners, rA (qo 7) cI 10 o_minutes, rA (qo 8) cI 10 o_paids, rA (qo 9) cI 10 o_leaders] H := hP
  have hD : va_D A [oX1 q o_corner o_minute o_paid v_leader v_undoable, rA (q 6) cI 10 v_corners, rA (q 7) cI 10 v_minutes, rA (q 8) cI 10 v_paids, rA (q 9) cI 10 v_leaders, oX1 qo o_corner o_minute o_paid o_leader o_undoable, rA (qo 6) cI 10 o_corners, rA (qo 7) cI 10 o_minutes, rA (qo 8) cI 10 o_paids, rA (qo 9) cI 10 o_leaders] := hD
  refine lv_aload_n hx hb dX1_become_24 rfl (lv_at hl 0 rfl) ?_
  refine lv_aload_n hx hb dX1_become_25 rfl (lv_at hl 1 rfl) ?_
  refine va_get (C := RX1) (T := TX1) (N := 9) (v := .int o_leader) hx hb hts iw1 hown hK hP 5 rfl rfl 3 (Nat.le_of_ble_eq_true rfl) lk24 (fun _ h9 => h9) rfl dX1_become_26 ?_
  refine va_put (C := RX1) (T := TX1) (N := 9) (v := .int o_leader) (ty := .int) hx hb hts iw1 tyX1 tyX1_ok nmX1 hown hK hP hD hS 0 rfl rfl 3 (Nat.le_of_ble_eq_true rfl) lk24 (fun _ h9 => h9) rfl (by decide +kernel) rfl rfl (Nat.le_of_ble_eq_true rfl) dX1_become_29 (fun H locs hP hD hS => ?_)
  have hP : va_P D vwCl [oX1 q o_corner o_minute o_paid o_leader v_undoable, rA (q 6) cI 10 v_corners, rA (q 7) cI 10 v_minutes, rA (q 8) cI 10 v_paids, rA (q 9) cI 10 v_leaders, oX1 qo o_corner o_minute o_paid o_leader o_undoable, rA (qo 6) cI 10 o_corners, rA (qo 7) cI 10 o_minutes, rA (qo 8) cI 10 o_paids, rA (qo 9) cI 10 o_leaders] H := hP
  have hD : va_D A [oX1 q o_corner o_minute o_paid o_leader v_undoable, rA (q 6) cI 10 v_corners, rA (q 7) cI 10 v_minutes, rA (q 8) cI 10 v_paids, rA (q 9) cI 10 v_leaders, oX1 qo o_corner o_minute o_paid o_leader o_undoable, rA (qo 6) cI 10 o_corners, rA (qo 7) cI 10 o_minutes, rA (qo 8) cI 10 o_paids, rA (qo 9) cI 10 o_leaders] := hD
  refine lv_aload_n hx hb dX1_become_32 rfl (lv_at hl 0 rfl) ?_
  refine lv_aload_n hx hb dX1_become_33 rfl (lv_at hl 1 rfl) ?_
  refine va_get (C := RX1) (T := TX1) (N := 9) (v := .int o_undoable) hx hb hts iw1 hown hK hP 5 rfl rfl 4 (Nat.le_of_ble_eq_true rfl) lk37 (fun _ h9 => h9) rfl dX1_become_34 ?_
  refine va_put (C := RX1) (T := TX1) (N := 9) (v := .int o_undoable) (ty := .int) hx hb hts iw1 tyX1 tyX1_ok nmX1 hown hK hP hD hS 0 rfl rfl 4 (Nat.le_of_ble_eq_true rfl) lk37 (fun _ h9 => h9) rfl (by decide +kernel) rfl rfl (Nat.le_of_ble_eq_true rfl) dX1_become_37 (fun H locs hP hD hS => ?_)
  have hP : va_P D vwCl [oX1 q o_corner o_minute o_paid o_leader o_undoable, rA (q 6) cI 10 v_corners, rA (q 7) cI 10 v_minutes, rA (q 8) cI 10 v_paids, rA (q 9) cI 10 v_leaders, oX1 qo o_corner o_minute o_paid o_leader o_undoable, rA (qo 6) cI 10 o_corners, rA (qo 7) cI 10 o_minutes, rA (qo 8) cI 10 o_paids, rA (qo 9) cI 10 o_leaders] H := hP
  have hD : va_D A [oX1 q o_corner o_minute o_paid o_leader o_undoable, rA (q 6) cI 10 v_corners, rA (q 7) cI 10 v_minutes, rA (q 8) cI 10 v_paids, rA (q 9) cI 10 v_leaders, oX1 qo o_corner o_minute o_paid o_leader o_undoable, rA (qo 6) cI 10 o_corners, rA (qo 7) cI 10 o_minutes, rA (qo 8) cI 10 o_paids, rA (qo 9) cI 10 o_leaders] := hD
  refine lv_aload_n hx hb dX1_become_40 rfl (lv_at hl 1 rfl) ?_
  refine va_get (C := RX1) (T := TX1) (N := 9) (v := .ref (qo 6)) hx hb hts iw1 hown hK hP 5 rfl rfl 5 (Nat.le_of_ble_eq_true rfl) lk9 (fun _ h9 => h9) rfl dX1_become_41 ?_
  refine lv_iconst (v := 0) hx hb dX1_become_44 (by decide) ?_
  refine lv_aload_n hx hb dX1_become_45 rfl (lv_at hl 0 rfl) ?_
  refine va_get (C := RX1) (T := TX1) (N := 9) (v := .ref (q 6)) hx hb hts iw1 hown hK hP 0 rfl rfl 5 (Nat.le_of_ble_eq_true rfl) lk9 (fun _ h9 => h9) rfl dX1_become_46 ?_
  refine lv_iconst (v := 0) hx hb dX1_become_49 (by decide) ?_
  refine lv_bipush (v := 10) hx hb dX1_become_50 (by decide) ?_
  have hy1 := xy_some h
  have h := hy1.2.2.2.2.2
  refine va_copyi (ty := .int) hx hb (hml.trans hl.1.symm) hown (hts (.methodLink RX1 46 arraycopyName) (by decide +kernel)) (hts (.native arraycopyName) (by decide +kernel)) (hts (.static arraycopyName) (by decide +kernel)) (hts (.initialized "java/lang/System") (by decide +kernel)) hK hP hD hS 6 1 0 0 rfl rfl rfl rfl rfl hy1.1 hy1.2.1 hy1.2.2.1 hy1.2.2.2.1 hy1.2.2.2.2.1 (fun _ _ => rfl) (Nat.le_of_ble_eq_true rfl) (by decide +kernel) dX1_become_52 (fun H locs hP hD hS => ?_)
  have hP : va_P D vwCl [oX1 q o_corner o_minute o_paid o_leader o_undoable, rA (q 6) cI 10 (va_cpy o_corners v_corners (0 : Int32).toNatClampNeg (0 : Int32).toNatClampNeg (10 : Int32).toNatClampNeg), rA (q 7) cI 10 v_minutes, rA (q 8) cI 10 v_paids, rA (q 9) cI 10 v_leaders, oX1 qo o_corner o_minute o_paid o_leader o_undoable, rA (qo 6) cI 10 o_corners, rA (qo 7) cI 10 o_minutes, rA (qo 8) cI 10 o_paids, rA (qo 9) cI 10 o_leaders] H := hP
  have hD : va_D A [oX1 q o_corner o_minute o_paid o_leader o_undoable, rA (q 6) cI 10 (va_cpy o_corners v_corners (0 : Int32).toNatClampNeg (0 : Int32).toNatClampNeg (10 : Int32).toNatClampNeg), rA (q 7) cI 10 v_minutes, rA (q 8) cI 10 v_paids, rA (q 9) cI 10 v_leaders, oX1 qo o_corner o_minute o_paid o_leader o_undoable, rA (qo 6) cI 10 o_corners, rA (qo 7) cI 10 o_minutes, rA (qo 8) cI 10 o_paids, rA (qo 9) cI 10 o_leaders] := hD
  refine lv_aload_n hx hb dX1_become_55 rfl (lv_at hl 1 rfl) ?_
  refine va_get (C := RX1) (T := TX1) (N := 9) (v := .ref (qo 7)) hx hb hts iw1 hown hK hP 5 rfl rfl 6 (Nat.le_of_ble_eq_true rfl) lk15 (fun _ h9 => h9) rfl dX1_become_56 ?_
  refine lv_iconst (v := 0) hx hb dX1_become_59 (by decide) ?_
  refine lv_aload_n hx hb dX1_become_60 rfl (lv_at hl 0 rfl) ?_
  refine va_get (C := RX1) (T := TX1) (N := 9) (v := .ref (q 7)) hx hb hts iw1 hown hK hP 0 rfl rfl 6 (Nat.le_of_ble_eq_true rfl) lk15 (fun _ h9 => h9) rfl dX1_become_61 ?_
  refine lv_iconst (v := 0) hx hb dX1_become_64 (by decide) ?_
  refine lv_bipush (v := 10) hx hb dX1_become_65 (by decide) ?_
  have hy2 := xy_some h
  have h := hy2.2.2.2.2.2
  refine va_copyi (ty := .int) hx hb (hml.trans hl.1.symm) hown (hts (.methodLink RX1 46 arraycopyName) (by decide +kernel)) (hts (.native arraycopyName) (by decide +kernel)) (hts (.static arraycopyName) (by decide +kernel)) (hts (.initialized "java/lang/System") (by decide +kernel)) hK hP hD hS 7 2 0 0 rfl rfl rfl rfl rfl hy2.1 hy2.2.1 hy2.2.2.1 hy2.2.2.2.1 hy2.2.2.2.2.1 (fun _ _ => rfl) (Nat.le_of_ble_eq_true rfl) (by decide +kernel) dX1_become_67 (fun H locs hP hD hS => ?_)
  have hP : va_P D vwCl [oX1 q o_corner o_minute o_paid o_leader o_undoable, rA (q 6) cI 10 (va_cpy o_corners v_corners (0 : Int32).toNatClampNeg (0 : Int32).toNatClampNeg (10 : Int32).toNatClampNeg), rA (q 7) cI 10 (va_cpy o_minutes v_minutes (0 : Int32).toNatClampNeg (0 : Int32).toNatClampNeg (10 : Int32).toNatClampNeg), rA (q 8) cI 10 v_paids, rA (q 9) cI 10 v_leaders, oX1 qo o_corner o_minute o_paid o_leader o_undoable, rA (qo 6) cI 10 o_corners, rA (qo 7) cI 10 o_minutes, rA (qo 8) cI 10 o_paids, rA (qo 9) cI 10 o_leaders] H := hP
  have hD : va_D A [oX1 q o_corner o_minute o_paid o_leader o_undoable, rA (q 6) cI 10 (va_cpy o_corners v_corners (0 : Int32).toNatClampNeg (0 : Int32).toNatClampNeg (10 : Int32).toNatClampNeg), rA (q 7) cI 10 (va_cpy o_minutes v_minutes (0 : Int32).toNatClampNeg (0 : Int32).toNatClampNeg (10 : Int32).toNatClampNeg), rA (q 8) cI 10 v_paids, rA (q 9) cI 10 v_leaders, oX1 qo o_corner o_minute o_paid o_leader o_undoable, rA (qo 6) cI 10 o_corners, rA (qo 7) cI 10 o_minutes, rA (qo 8) cI 10 o_paids, rA (qo 9) cI 10 o_leaders] := hD
  refine lv_aload_n hx hb dX1_become_70 rfl (lv_at hl 1 rfl) ?_
  refine va_get (C := RX1) (T := TX1) (N := 9) (v := .ref (qo 8)) hx hb hts iw1 hown hK hP 5 rfl rfl 7 (Nat.le_of_ble_eq_true rfl) lk18 (fun _ h9 => h9) rfl dX1_become_71 ?_
  refine lv_iconst (v := 0) hx hb dX1_become_74 (by decide) ?_
  refine lv_aload_n hx hb dX1_become_75 rfl (lv_at hl 0 rfl) ?_
  refine va_get (C := RX1) (T := TX1) (N := 9) (v := .ref (q 8)) hx hb hts iw1 hown hK hP 0 rfl rfl 7 (Nat.le_of_ble_eq_true rfl) lk18 (fun _ h9 => h9) rfl dX1_become_76 ?_
  refine lv_iconst (v := 0) hx hb dX1_become_79 (by decide) ?_
  refine lv_bipush (v := 10) hx hb dX1_become_80 (by decide) ?_
  have hy3 := xy_some h
  have h := hy3.2.2.2.2.2
  refine va_copyi (ty := .int) hx hb (hml.trans hl.1.symm) hown (hts (.methodLink RX1 46 arraycopyName) (by decide +kernel)) (hts (.native arraycopyName) (by decide +kernel)) (hts (.static arraycopyName) (by decide +kernel)) (hts (.initialized "java/lang/System") (by decide +kernel)) hK hP hD hS 8 3 0 0 rfl rfl rfl rfl rfl hy3.1 hy3.2.1 hy3.2.2.1 hy3.2.2.2.1 hy3.2.2.2.2.1 (fun _ _ => rfl) (Nat.le_of_ble_eq_true rfl) (by decide +kernel) dX1_become_82 (fun H locs hP hD hS => ?_)
  have hP : va_P D vwCl [oX1 q o_corner o_minute o_paid o_leader o_undoable, rA (q 6) cI 10 (va_cpy o_corners v_corners (0 : Int32).toNatClampNeg (0 : Int32).toNatClampNeg (10 : Int32).toNatClampNeg), rA (q 7) cI 10 (va_cpy o_minutes v_minutes (0 : Int32).toNatClampNeg (0 : Int32).toNatClampNeg (10 : Int32).toNatClampNeg), rA (q 8) cI 10 (va_cpy o_paids v_paids (0 : Int32).toNatClampNeg (0 : Int32).toNatClampNeg (10 : Int32).toNatClampNeg), rA (q 9) cI 10 v_leaders, oX1 qo o_corner o_minute o_paid o_leader o_undoable, rA (qo 6) cI 10 o_corners, rA (qo 7) cI 10 o_minutes, rA (qo 8) cI 10 o_paids, rA (qo 9) cI 10 o_leaders] H := hP
  have hD : va_D A [oX1 q o_corner o_minute o_paid o_leader o_undoable, rA (q 6) cI 10 (va_cpy o_corners v_corners (0 : Int32).toNatClampNeg (0 : Int32).toNatClampNeg (10 : Int32).toNatClampNeg), rA (q 7) cI 10 (va_cpy o_minutes v_minutes (0 : Int32).toNatClampNeg (0 : Int32).toNatClampNeg (10 : Int32).toNatClampNeg), rA (q 8) cI 10 (va_cpy o_paids v_paids (0 : Int32).toNatClampNeg (0 : Int32).toNatClampNeg (10 : Int32).toNatClampNeg), rA (q 9) cI 10 v_leaders, oX1 qo o_corner o_minute o_paid o_leader o_undoable, rA (qo 6) cI 10 o_corners, rA (qo 7) cI 10 o_minutes, rA (qo 8) cI 10 o_paids, rA (qo 9) cI 10 o_leaders] := hD
  refine lv_aload_n hx hb dX1_become_85 rfl (lv_at hl 1 rfl) ?_
  refine va_get (C := RX1) (T := TX1) (N := 9) (v := .ref (qo 9)) hx hb hts iw1 hown hK hP 5 rfl rfl 8 (Nat.le_of_ble_eq_true rfl) lk21 (fun _ h9 => h9) rfl dX1_become_86 ?_
  refine lv_iconst (v := 0) hx hb dX1_become_89 (by decide) ?_
  refine lv_aload_n hx hb dX1_become_90 rfl (lv_at hl 0 rfl) ?_
  refine va_get (C := RX1) (T := TX1) (N := 9) (v := .ref (q 9)) hx hb hts iw1 hown hK hP 0 rfl rfl 8 (Nat.le_of_ble_eq_true rfl) lk21 (fun _ h9 => h9) rfl dX1_become_91 ?_
  refine lv_iconst (v := 0) hx hb dX1_become_94 (by decide) ?_
  refine lv_bipush (v := 10) hx hb dX1_become_95 (by decide) ?_
  have hy4 := xy_some h
  have h := hy4.2.2.2.2.2
  refine va_copyi (ty := .int) hx hb (hml.trans hl.1.symm) hown (hts (.methodLink RX1 46 arraycopyName) (by decide +kernel)) (hts (.native arraycopyName) (by decide +kernel)) (hts (.static arraycopyName) (by decide +kernel)) (hts (.initialized "java/lang/System") (by decide +kernel)) hK hP hD hS 9 4 0 0 rfl rfl rfl rfl rfl hy4.1 hy4.2.1 hy4.2.2.1 hy4.2.2.2.1 hy4.2.2.2.2.1 (fun _ _ => rfl) (Nat.le_of_ble_eq_true rfl) (by decide +kernel) dX1_become_97 (fun H locs hP hD hS => ?_)
  have hP : va_P D vwCl [oX1 q o_corner o_minute o_paid o_leader o_undoable, rA (q 6) cI 10 (va_cpy o_corners v_corners (0 : Int32).toNatClampNeg (0 : Int32).toNatClampNeg (10 : Int32).toNatClampNeg), rA (q 7) cI 10 (va_cpy o_minutes v_minutes (0 : Int32).toNatClampNeg (0 : Int32).toNatClampNeg (10 : Int32).toNatClampNeg), rA (q 8) cI 10 (va_cpy o_paids v_paids (0 : Int32).toNatClampNeg (0 : Int32).toNatClampNeg (10 : Int32).toNatClampNeg), rA (q 9) cI 10 (va_cpy o_leaders v_leaders (0 : Int32).toNatClampNeg (0 : Int32).toNatClampNeg (10 : Int32).toNatClampNeg), oX1 qo o_corner o_minute o_paid o_leader o_undoable, rA (qo 6) cI 10 o_corners, rA (qo 7) cI 10 o_minutes, rA (qo 8) cI 10 o_paids, rA (qo 9) cI 10 o_leaders] H := hP
  have hD : va_D A [oX1 q o_corner o_minute o_paid o_leader o_undoable, rA (q 6) cI 10 (va_cpy o_corners v_corners (0 : Int32).toNatClampNeg (0 : Int32).toNatClampNeg (10 : Int32).toNatClampNeg), rA (q 7) cI 10 (va_cpy o_minutes v_minutes (0 : Int32).toNatClampNeg (0 : Int32).toNatClampNeg (10 : Int32).toNatClampNeg), rA (q 8) cI 10 (va_cpy o_paids v_paids (0 : Int32).toNatClampNeg (0 : Int32).toNatClampNeg (10 : Int32).toNatClampNeg), rA (q 9) cI 10 (va_cpy o_leaders v_leaders (0 : Int32).toNatClampNeg (0 : Int32).toNatClampNeg (10 : Int32).toNatClampNeg), oX1 qo o_corner o_minute o_paid o_leader o_undoable, rA (qo 6) cI 10 o_corners, rA (qo 7) cI 10 o_minutes, rA (qo 8) cI 10 o_paids, rA (qo 9) cI 10 o_leaders] := hD
  exact hret ((o_corner, o_minute, o_paid, o_leader, o_undoable, va_cpy o_corners v_corners (0 : Int32).toNatClampNeg (0 : Int32).toNatClampNeg (10 : Int32).toNatClampNeg, va_cpy o_minutes v_minutes (0 : Int32).toNatClampNeg (0 : Int32).toNatClampNeg (10 : Int32).toNatClampNeg, va_cpy o_paids v_paids (0 : Int32).toNatClampNeg (0 : Int32).toNatClampNeg (10 : Int32).toNatClampNeg, va_cpy o_leaders v_leaders (0 : Int32).toNatClampNeg (0 : Int32).toNatClampNeg (10 : Int32).toNatClampNeg)) H locs _ ls (Option.some.inj h) hP hD hS dX1_become_100
