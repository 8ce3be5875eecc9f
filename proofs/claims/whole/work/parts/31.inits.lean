abbrev rm_X0_init : Room := { frames := 1, cells := 2, slots := 529, locals := 12 }
set_option maxHeartbeats 4000000 in
set_option maxRecDepth 100000 in
theorem k_X0_init (l : Launch) (D : va_G) (cI cZ cT : ClassId) (h0 sz : Nat) : Met l yX0_init wsX0_init rm_X0_init (cPre D (tyz cI cZ cT) [.ref h0] sz [(h0, .inr (0, [.null, .null, .int 0, .int 0, .int 0]))]) (cPv D (tyz cI cZ cT) (fun (u : Nat → Nat) => u 0 = h0) (fun u => [oX0 u 0 0 0, rA (u 1) cI 28 (fun _ => 0), rA (u 2) cI 501 (fun _ => 0)]) [(h0, .inr (0, [.null, .null, .int 0, .int 0, .int 0]))] sz) 2 529 (va_A [(h0, .inr (0, [.null, .null, .int 0, .int 0, .int 0]))] sz) := by
  refine vx_init (by decide) rfl (Nat.le_of_ble_eq_true rfl) rfl ?_
  intro p e s m args below meth c A Q hx hb hml hown hts hin hK hP hD hA hS hret ls hl
  have hown : s.vm.findClass RX0 = some m.cls := hown
  have hl : lv_has ls 1 [(0, .ref h0)] := hl
  have iw0 : ∀ w ∈ u_ws RX0 TX0 5, w ∈ wsX0_init := by decide +kernel
  refine lv_aload_n hx hb dX0_init_0 rfl (lv_at hl 0 rfl) ?_
  refine W.objInit hx hb hown (hts (.methodLink RX0 3 objectInit) (by decide +kernel)) (hts (.instanceMethod objectInit) (by decide +kernel)) (hts _ (List.mem_of_getElem? (l := wsX0_init) (i := 3) rfl)) rfl (by rw [hml]; exact hl.1) rfl dX0_init_1 (Nat.le_of_ble_eq_true rfl) (Nat.le_of_ble_eq_true rfl) ?_
  refine W.eq (g2 := F0 m 4 ls []) rfl ?_
  refine lv_aload_n hx hb dX0_init_4 rfl (lv_at hl 0 rfl) ?_
  refine lv_bipush (v := 28) hx hb dX0_init_5 (by decide) ?_
  refine va_newa (atype := .int) (ty := .int) (N' := 28) (a0 := (28, .inl (fun _ => 0))) hx hb (hts (.arrayClass .int) (by decide +kernel)) rfl hK hP hD hS hA (fun _ => vp_cell_i _ _ _) (by decide) (by decide) (by decide) (Nat.le_of_ble_eq_true rfl) (Nat.le_of_ble_eq_true rfl) dX0_init_7 (fun q7 c7 H hK hP hD hS => ?_)
  obtain ⟨e9, hKn⟩ := vx_eqI hK; clear hK; subst e9; have hK := hKn; clear hKn
  have hP : va_P D vwCl [(h0, .inr (0, [.null, .null, .int 0, .int 0, .int 0])), rA q7 cI 28 (fun _ => 0)] H := hP
  have hD : va_D A [(h0, .inr (0, [.null, .null, .int 0, .int 0, .int 0])), rA q7 cI 28 (fun _ => 0)] := hD
  refine va_putF (C := RX0) (T := TX0) (N := 5) (v := .ref q7) (ty := .array .int) hx hb hts iw0 tyX0 tyX0_ok nmX0 hown hK hP hD hS 0 rfl rfl 0 (Nat.le_of_ble_eq_true rfl) (hts (.fieldLink RX0 11 "FogGuides$Routes" "costs" "[I") (by decide +kernel)) (fun _ h9 => h9) rfl hin rfl (by decide +kernel) rfl rfl (Nat.le_of_ble_eq_true rfl) dX0_init_9 (fun H locs hP hD hS => ?_)
  have hP : va_P D vwCl [(h0, .inr (0, [.ref q7, .null, .int 0, .int 0, .int 0])), rA q7 cI 28 (fun _ => 0)] H := hP
  have hD : va_D A [(h0, .inr (0, [.ref q7, .null, .int 0, .int 0, .int 0])), rA q7 cI 28 (fun _ => 0)] := hD
  refine lv_aload_n hx hb dX0_init_12 rfl (lv_at hl 0 rfl) ?_
  refine lv_sipush (v := 501) hx hb dX0_init_13 (by decide) ?_
  refine va_newa (atype := .int) (ty := .int) (N' := 501) (a0 := (501, .inl (fun _ => 0))) hx hb (hts (.arrayClass .int) (by decide +kernel)) rfl hK hP hD hS hA (fun _ => vp_cell_i _ _ _) (by decide) (by decide) (by decide) (Nat.le_of_ble_eq_true rfl) (Nat.le_of_ble_eq_true rfl) dX0_init_16 (fun q16 c16 H hK hP hD hS => ?_)
  obtain ⟨e9, hKn⟩ := vx_eqI hK; clear hK; subst e9; have hK := hKn; clear hKn
  have hP : va_P D vwCl [(h0, .inr (0, [.ref q7, .null, .int 0, .int 0, .int 0])), rA q7 cI 28 (fun _ => 0), rA q16 cI 501 (fun _ => 0)] H := hP
  have hD : va_D A [(h0, .inr (0, [.ref q7, .null, .int 0, .int 0, .int 0])), rA q7 cI 28 (fun _ => 0), rA q16 cI 501 (fun _ => 0)] := hD
  refine va_putF (C := RX0) (T := TX0) (N := 5) (v := .ref q16) (ty := .array .int) hx hb hts iw0 tyX0 tyX0_ok nmX0 hown hK hP hD hS 0 rfl rfl 1 (Nat.le_of_ble_eq_true rfl) (hts (.fieldLink RX0 15 "FogGuides$Routes" "reached" "[I") (by decide +kernel)) (fun _ h9 => h9) rfl hin rfl (by decide +kernel) rfl rfl (Nat.le_of_ble_eq_true rfl) dX0_init_18 (fun H locs hP hD hS => ?_)
  have hP : va_P D vwCl [(h0, .inr (0, [.ref q7, .ref q16, .int 0, .int 0, .int 0])), rA q7 cI 28 (fun _ => 0), rA q16 cI 501 (fun _ => 0)] H := hP
  have hD : va_D A [(h0, .inr (0, [.ref q7, .ref q16, .int 0, .int 0, .int 0])), rA q7 cI 28 (fun _ => 0), rA q16 cI 501 (fun _ => 0)] := hD
  refine W.widen (k := 2) (n := 529) (by omega) (by omega) ?_
  exact hret (qf [h0, q7, q16, 0, 0, 0]) H _ _ ls rfl (hP.sub (ws' := [oX0 (qf [h0, q7, q16, 0, 0, 0]) 0 0 0, rA ((qf [h0, q7, q16, 0, 0, 0]) 1) cI 28 (fun _ => 0), rA ((qf [h0, q7, q16, 0, 0, 0]) 2) cI 501 (fun _ => 0)]) [0, 1, 2] rfl) (hD.sub (ws' := [oX0 (qf [h0, q7, q16, 0, 0, 0]) 0 0 0, rA ((qf [h0, q7, q16, 0, 0, 0]) 1) cI 28 (fun _ => 0), rA ((qf [h0, q7, q16, 0, 0, 0]) 2) cI 501 (fun _ => 0)]) [0, 1, 2] (by decide) rfl) hS dX0_init_21
abbrev rm_X1_init : Room := { frames := 1, cells := 4, slots := 40, locals := 12 }
set_option maxHeartbeats 4000000 in
set_option maxRecDepth 100000 in
theorem k_X1_init (l : Launch) (D : va_G) (cI cZ cT : ClassId) (h0 sz : Nat) : Met l yX1_init wsX1_init rm_X1_init (cPre D (tyz cI cZ cT) [.ref h0] sz [(h0, .inr (1, [.int 0, .int 0, .int 0, .int 0, .int 0, .null, .null, .null, .null]))]) (cPv D (tyz cI cZ cT) (fun (u : Nat → Nat) => u 0 = h0) (fun u => [oX1 u 0 0 0 (-9) 0, rA (u 6) cI 10 (fun _ => 0), rA (u 7) cI 10 (fun _ => 0), rA (u 8) cI 10 (fun _ => 0), rA (u 9) cI 10 (fun _ => 0)]) [(h0, .inr (1, [.int 0, .int 0, .int 0, .int 0, .int 0, .null, .null, .null, .null]))] sz) 4 40 (va_A [(h0, .inr (1, [.int 0, .int 0, .int 0, .int 0, .int 0, .null, .null, .null, .null]))] sz) := by
  refine vx_init (by decide) rfl (Nat.le_of_ble_eq_true rfl) rfl ?_
  intro p e s m args below meth c A Q hx hb hml hown hts hin hK hP hD hA hS hret ls hl
  have hown : s.vm.findClass RX1 = some m.cls := hown
  have hl : lv_has ls 1 [(0, .ref h0)] := hl
  have iw1 : ∀ w ∈ u_ws RX1 TX1 9, w ∈ wsX1_init := by decide +kernel
  refine lv_aload_n hx hb dX1_init_0 rfl (lv_at hl 0 rfl) ?_
  refine W.objInit hx hb hown (hts (.methodLink RX1 3 objectInit) (by decide +kernel)) (hts (.instanceMethod objectInit) (by decide +kernel)) (hts _ (List.mem_of_getElem? (l := wsX1_init) (i := 3) rfl)) rfl (by rw [hml]; exact hl.1) rfl dX1_init_1 (Nat.le_of_ble_eq_true rfl) (Nat.le_of_ble_eq_true rfl) ?_
  refine W.eq (g2 := F0 m 4 ls []) rfl ?_
  refine lv_aload_n hx hb dX1_init_4 rfl (lv_at hl 0 rfl) ?_
  refine lv_bipush (v := 10) hx hb dX1_init_5 (by decide) ?_
  refine va_newa (atype := .int) (ty := .int) (N' := 10) (a0 := (10, .inl (fun _ => 0))) hx hb (hts (.arrayClass .int) (by decide +kernel)) rfl hK hP hD hS hA (fun _ => vp_cell_i _ _ _) (by decide) (by decide) (by decide) (Nat.le_of_ble_eq_true rfl) (Nat.le_of_ble_eq_true rfl) dX1_init_7 (fun q7 c7 H hK hP hD hS => ?_)
  obtain ⟨e9, hKn⟩ := vx_eqI hK; clear hK; subst e9; have hK := hKn; clear hKn
  have hP : va_P D vwCl [(h0, .inr (1, [.int 0, .int 0, .int 0, .int 0, .int 0, .null, .null, .null, .null])), rA q7 cI 10 (fun _ => 0)] H := hP
  have hD : va_D A [(h0, .inr (1, [.int 0, .int 0, .int 0, .int 0, .int 0, .null, .null, .null, .null])), rA q7 cI 10 (fun _ => 0)] := hD
  refine va_putF (C := RX1) (T := TX1) (N := 9) (v := .ref q7) (ty := .array .int) hx hb hts iw1 tyX1 tyX1_ok nmX1 hown hK hP hD hS 0 rfl rfl 5 (Nat.le_of_ble_eq_true rfl) (hts (.fieldLink RX1 9 "FogGuides$Tale" "corners" "[I") (by decide +kernel)) (fun _ h9 => h9) rfl hin rfl (by decide +kernel) rfl rfl (Nat.le_of_ble_eq_true rfl) dX1_init_9 (fun H locs hP hD hS => ?_)
  have hP : va_P D vwCl [(h0, .inr (1, [.int 0, .int 0, .int 0, .int 0, .int 0, .ref q7, .null, .null, .null])), rA q7 cI 10 (fun _ => 0)] H := hP
  have hD : va_D A [(h0, .inr (1, [.int 0, .int 0, .int 0, .int 0, .int 0, .ref q7, .null, .null, .null])), rA q7 cI 10 (fun _ => 0)] := hD
  refine lv_aload_n hx hb dX1_init_12 rfl (lv_at hl 0 rfl) ?_
  refine lv_bipush (v := 10) hx hb dX1_init_13 (by decide) ?_
  refine va_newa (atype := .int) (ty := .int) (N' := 10) (a0 := (10, .inl (fun _ => 0))) hx hb (hts (.arrayClass .int) (by decide +kernel)) rfl hK hP hD hS hA (fun _ => vp_cell_i _ _ _) (by decide) (by decide) (by decide) (Nat.le_of_ble_eq_true rfl) (Nat.le_of_ble_eq_true rfl) dX1_init_15 (fun q15 c15 H hK hP hD hS => ?_)
  obtain ⟨e9, hKn⟩ := vx_eqI hK; clear hK; subst e9; have hK := hKn; clear hKn
  have hP : va_P D vwCl [(h0, .inr (1, [.int 0, .int 0, .int 0, .int 0, .int 0, .ref q7, .null, .null, .null])), rA q7 cI 10 (fun _ => 0), rA q15 cI 10 (fun _ => 0)] H := hP
  have hD : va_D A [(h0, .inr (1, [.int 0, .int 0, .int 0, .int 0, .int 0, .ref q7, .null, .null, .null])), rA q7 cI 10 (fun _ => 0), rA q15 cI 10 (fun _ => 0)] := hD
  refine va_putF (C := RX1) (T := TX1) (N := 9) (v := .ref q15) (ty := .array .int) hx hb hts iw1 tyX1 tyX1_ok nmX1 hown hK hP hD hS 0 rfl rfl 6 (Nat.le_of_ble_eq_true rfl) (hts (.fieldLink RX1 15 "FogGuides$Tale" "minutes" "[I") (by decide +kernel)) (fun _ h9 => h9) rfl hin rfl (by decide +kernel) rfl rfl (Nat.le_of_ble_eq_true rfl) dX1_init_17 (fun H locs hP hD hS => ?_)
  have hP : va_P D vwCl [(h0, .inr (1, [.int 0, .int 0, .int 0, .int 0, .int 0, .ref q7, .ref q15, .null, .null])), rA q7 cI 10 (fun _ => 0), rA q15 cI 10 (fun _ => 0)] H := hP
  have hD : va_D A [(h0, .inr (1, [.int 0, .int 0, .int 0, .int 0, .int 0, .ref q7, .ref q15, .null, .null])), rA q7 cI 10 (fun _ => 0), rA q15 cI 10 (fun _ => 0)] := hD
  refine lv_aload_n hx hb dX1_init_20 rfl (lv_at hl 0 rfl) ?_
  refine lv_bipush (v := 10) hx hb dX1_init_21 (by decide) ?_
  refine va_newa (atype := .int) (ty := .int) (N' := 10) (a0 := (10, .inl (fun _ => 0))) hx hb (hts (.arrayClass .int) (by decide +kernel)) rfl hK hP hD hS hA (fun _ => vp_cell_i _ _ _) (by decide) (by decide) (by decide) (Nat.le_of_ble_eq_true rfl) (Nat.le_of_ble_eq_true rfl) dX1_init_23 (fun q23 c23 H hK hP hD hS => ?_)
  obtain ⟨e9, hKn⟩ := vx_eqI hK; clear hK; subst e9; have hK := hKn; clear hKn
  have hP : va_P D vwCl [(h0, .inr (1, [.int 0, .int 0, .int 0, .int 0, .int 0, .ref q7, .ref q15, .null, .null])), rA q7 cI 10 (fun _ => 0), rA q15 cI 10 (fun _ => 0), rA q23 cI 10 (fun _ => 0)] H := hP
  have hD : va_D A [(h0, .inr (1, [.int 0, .int 0, .int 0, .int 0, .int 0, .ref q7, .ref q15, .null, .null])), rA q7 cI 10 (fun _ => 0), rA q15 cI 10 (fun _ => 0), rA q23 cI 10 (fun _ => 0)] := hD
  refine va_putF (C := RX1) (T := TX1) (N := 9) (v := .ref q23) (ty := .array .int) hx hb hts iw1 tyX1 tyX1_ok nmX1 hown hK hP hD hS 0 rfl rfl 7 (Nat.le_of_ble_eq_true rfl) (hts (.fieldLink RX1 18 "FogGuides$Tale" "paids" "[I") (by decide +kernel)) (fun _ h9 => h9) rfl hin rfl (by decide +kernel) rfl rfl (Nat.le_of_ble_eq_true rfl) dX1_init_25 (fun H locs hP hD hS => ?_)
  have hP : va_P D vwCl [(h0, .inr (1, [.int 0, .int 0, .int 0, .int 0, .int 0, .ref q7, .ref q15, .ref q23, .null])), rA q7 cI 10 (fun _ => 0), rA q15 cI 10 (fun _ => 0), rA q23 cI 10 (fun _ => 0)] H := hP
  have hD : va_D A [(h0, .inr (1, [.int 0, .int 0, .int 0, .int 0, .int 0, .ref q7, .ref q15, .ref q23, .null])), rA q7 cI 10 (fun _ => 0), rA q15 cI 10 (fun _ => 0), rA q23 cI 10 (fun _ => 0)] := hD
  refine lv_aload_n hx hb dX1_init_28 rfl (lv_at hl 0 rfl) ?_
  refine lv_bipush (v := 10) hx hb dX1_init_29 (by decide) ?_
  refine va_newa (atype := .int) (ty := .int) (N' := 10) (a0 := (10, .inl (fun _ => 0))) hx hb (hts (.arrayClass .int) (by decide +kernel)) rfl hK hP hD hS hA (fun _ => vp_cell_i _ _ _) (by decide) (by decide) (by decide) (Nat.le_of_ble_eq_true rfl) (Nat.le_of_ble_eq_true rfl) dX1_init_31 (fun q31 c31 H hK hP hD hS => ?_)
  obtain ⟨e9, hKn⟩ := vx_eqI hK; clear hK; subst e9; have hK := hKn; clear hKn
  have hP : va_P D vwCl [(h0, .inr (1, [.int 0, .int 0, .int 0, .int 0, .int 0, .ref q7, .ref q15, .ref q23, .null])), rA q7 cI 10 (fun _ => 0), rA q15 cI 10 (fun _ => 0), rA q23 cI 10 (fun _ => 0), rA q31 cI 10 (fun _ => 0)] H := hP
  have hD : va_D A [(h0, .inr (1, [.int 0, .int 0, .int 0, .int 0, .int 0, .ref q7, .ref q15, .ref q23, .null])), rA q7 cI 10 (fun _ => 0), rA q15 cI 10 (fun _ => 0), rA q23 cI 10 (fun _ => 0), rA q31 cI 10 (fun _ => 0)] := hD
  refine va_putF (C := RX1) (T := TX1) (N := 9) (v := .ref q31) (ty := .array .int) hx hb hts iw1 tyX1 tyX1_ok nmX1 hown hK hP hD hS 0 rfl rfl 8 (Nat.le_of_ble_eq_true rfl) (hts (.fieldLink RX1 21 "FogGuides$Tale" "leaders" "[I") (by decide +kernel)) (fun _ h9 => h9) rfl hin rfl (by decide +kernel) rfl rfl (Nat.le_of_ble_eq_true rfl) dX1_init_33 (fun H locs hP hD hS => ?_)
  have hP : va_P D vwCl [(h0, .inr (1, [.int 0, .int 0, .int 0, .int 0, .int 0, .ref q7, .ref q15, .ref q23, .ref q31])), rA q7 cI 10 (fun _ => 0), rA q15 cI 10 (fun _ => 0), rA q23 cI 10 (fun _ => 0), rA q31 cI 10 (fun _ => 0)] H := hP
  have hD : va_D A [(h0, .inr (1, [.int 0, .int 0, .int 0, .int 0, .int 0, .ref q7, .ref q15, .ref q23, .ref q31])), rA q7 cI 10 (fun _ => 0), rA q15 cI 10 (fun _ => 0), rA q23 cI 10 (fun _ => 0), rA q31 cI 10 (fun _ => 0)] := hD
  refine lv_aload_n hx hb dX1_init_36 rfl (lv_at hl 0 rfl) ?_
  refine lv_bipush (v := (-9)) hx hb dX1_init_37 (by decide) ?_
  refine va_put (C := RX1) (T := TX1) (N := 9) (v := .int (-9)) (ty := .int) hx hb hts iw1 tyX1 tyX1_ok nmX1 hown hK hP hD hS 0 rfl rfl 3 (Nat.le_of_ble_eq_true rfl) (hts (.fieldLink RX1 24 "FogGuides$Tale" "leader" "I") (by decide +kernel)) (fun _ h9 => h9) rfl (by decide +kernel) rfl rfl (Nat.le_of_ble_eq_true rfl) dX1_init_39 (fun H locs hP hD hS => ?_)
  have hP : va_P D vwCl [(h0, .inr (1, [.int 0, .int 0, .int 0, .int (-9), .int 0, .ref q7, .ref q15, .ref q23, .ref q31])), rA q7 cI 10 (fun _ => 0), rA q15 cI 10 (fun _ => 0), rA q23 cI 10 (fun _ => 0), rA q31 cI 10 (fun _ => 0)] H := hP
  have hD : va_D A [(h0, .inr (1, [.int 0, .int 0, .int 0, .int (-9), .int 0, .ref q7, .ref q15, .ref q23, .ref q31])), rA q7 cI 10 (fun _ => 0), rA q15 cI 10 (fun _ => 0), rA q23 cI 10 (fun _ => 0), rA q31 cI 10 (fun _ => 0)] := hD
  refine W.widen (k := 4) (n := 40) (by omega) (by omega) ?_
  exact hret (qf [h0, 0, 0, 0, 0, 0, q7, q15, q23, q31]) H _ _ ls rfl (hP.sub (ws' := [oX1 (qf [h0, 0, 0, 0, 0, 0, q7, q15, q23, q31]) 0 0 0 (-9) 0, rA ((qf [h0, 0, 0, 0, 0, 0, q7, q15, q23, q31]) 6) cI 10 (fun _ => 0), rA ((qf [h0, 0, 0, 0, 0, 0, q7, q15, q23, q31]) 7) cI 10 (fun _ => 0), rA ((qf [h0, 0, 0, 0, 0, 0, q7, q15, q23, q31]) 8) cI 10 (fun _ => 0), rA ((qf [h0, 0, 0, 0, 0, 0, q7, q15, q23, q31]) 9) cI 10 (fun _ => 0)]) [0, 1, 2, 3, 4] rfl) (hD.sub (ws' := [oX1 (qf [h0, 0, 0, 0, 0, 0, q7, q15, q23, q31]) 0 0 0 (-9) 0, rA ((qf [h0, 0, 0, 0, 0, 0, q7, q15, q23, q31]) 6) cI 10 (fun _ => 0), rA ((qf [h0, 0, 0, 0, 0, 0, q7, q15, q23, q31]) 7) cI 10 (fun _ => 0), rA ((qf [h0, 0, 0, 0, 0, 0, q7, q15, q23, q31]) 8) cI 10 (fun _ => 0), rA ((qf [h0, 0, 0, 0, 0, 0, q7, q15, q23, q31]) 9) cI 10 (fun _ => 0)]) [0, 1, 2, 3, 4] (by decide) rfl) hS dX1_init_42
abbrev rm_X2_init : Room := { frames := 1, cells := 1, slots := 200, locals := 12 }
set_option maxHeartbeats 4000000 in
set_option maxRecDepth 100000 in
theorem k_X2_init (l : Launch) (D : va_G) (cI cZ cT : ClassId) (h0 sz : Nat) : Met l yX2_init wsX2_init rm_X2_init (cPre D (tyz cI cZ cT) [.ref h0] sz [(h0, .inr (2, [.null, .int 0, .int 0, .int 0, .int 0, .int 0, .int 0]))]) (cPv D (tyz cI cZ cT) (fun (u : Nat → Nat) => u 0 = h0) (fun u => [oX2 u 0 0 0 0 0 0, rA (u 1) cI 200 (fun _ => 0)]) [(h0, .inr (2, [.null, .int 0, .int 0, .int 0, .int 0, .int 0, .int 0]))] sz) 1 200 (va_A [(h0, .inr (2, [.null, .int 0, .int 0, .int 0, .int 0, .int 0, .int 0]))] sz) := by
  refine vx_init (by decide) rfl (Nat.le_of_ble_eq_true rfl) rfl ?_
  intro p e s m args below meth c A Q hx hb hml hown hts hin hK hP hD hA hS hret ls hl
  have hown : s.vm.findClass RX2 = some m.cls := hown
  have hl : lv_has ls 1 [(0, .ref h0)] := hl
  have iw2 : ∀ w ∈ u_ws RX2 TX2 7, w ∈ wsX2_init := by decide +kernel
  refine lv_aload_n hx hb dX2_init_0 rfl (lv_at hl 0 rfl) ?_
  refine W.objInit hx hb hown (hts (.methodLink RX2 3 objectInit) (by decide +kernel)) (hts (.instanceMethod objectInit) (by decide +kernel)) (hts _ (List.mem_of_getElem? (l := wsX2_init) (i := 3) rfl)) rfl (by rw [hml]; exact hl.1) rfl dX2_init_1 (Nat.le_of_ble_eq_true rfl) (Nat.le_of_ble_eq_true rfl) ?_
  refine W.eq (g2 := F0 m 4 ls []) rfl ?_
  refine lv_aload_n hx hb dX2_init_4 rfl (lv_at hl 0 rfl) ?_
  refine lv_sipush (v := 200) hx hb dX2_init_5 (by decide) ?_
  refine va_newa (atype := .int) (ty := .int) (N' := 200) (a0 := (200, .inl (fun _ => 0))) hx hb (hts (.arrayClass .int) (by decide +kernel)) rfl hK hP hD hS hA (fun _ => vp_cell_i _ _ _) (by decide) (by decide) (by decide) (Nat.le_of_ble_eq_true rfl) (Nat.le_of_ble_eq_true rfl) dX2_init_8 (fun q8 c8 H hK hP hD hS => ?_)
  obtain ⟨e9, hKn⟩ := vx_eqI hK; clear hK; subst e9; have hK := hKn; clear hKn
  have hP : va_P D vwCl [(h0, .inr (2, [.null, .int 0, .int 0, .int 0, .int 0, .int 0, .int 0])), rA q8 cI 200 (fun _ => 0)] H := hP
  have hD : va_D A [(h0, .inr (2, [.null, .int 0, .int 0, .int 0, .int 0, .int 0, .int 0])), rA q8 cI 200 (fun _ => 0)] := hD
  refine va_putF (C := RX2) (T := TX2) (N := 7) (v := .ref q8) (ty := .array .int) hx hb hts iw2 tyX2 tyX2_ok nmX2 hown hK hP hD hS 0 rfl rfl 0 (Nat.le_of_ble_eq_true rfl) (hts (.fieldLink RX2 9 "FogGuides$TextReader" "text" "[I") (by decide +kernel)) (fun _ h9 => h9) rfl hin rfl (by decide +kernel) rfl rfl (Nat.le_of_ble_eq_true rfl) dX2_init_10 (fun H locs hP hD hS => ?_)
  have hP : va_P D vwCl [(h0, .inr (2, [.ref q8, .int 0, .int 0, .int 0, .int 0, .int 0, .int 0])), rA q8 cI 200 (fun _ => 0)] H := hP
  have hD : va_D A [(h0, .inr (2, [.ref q8, .int 0, .int 0, .int 0, .int 0, .int 0, .int 0])), rA q8 cI 200 (fun _ => 0)] := hD
  refine W.widen (k := 1) (n := 200) (by omega) (by omega) ?_
  exact hret (qf [h0, q8, 0, 0, 0, 0, 0, 0]) H _ _ ls rfl (hP.sub (ws' := [oX2 (qf [h0, q8, 0, 0, 0, 0, 0, 0]) 0 0 0 0 0 0, rA ((qf [h0, q8, 0, 0, 0, 0, 0, 0]) 1) cI 200 (fun _ => 0)]) [0, 1] rfl) (hD.sub (ws' := [oX2 (qf [h0, q8, 0, 0, 0, 0, 0, 0]) 0 0 0 0 0 0, rA ((qf [h0, q8, 0, 0, 0, 0, 0, 0]) 1) cI 200 (fun _ => 0)]) [0, 1] (by decide) rfl) hS dX2_init_13
abbrev rm_X3_init : Room := { frames := 1, cells := 4, slots := 26, locals := 12 }
set_option maxHeartbeats 4000000 in
set_option maxRecDepth 100000 in
theorem k_X3_init (l : Launch) (D : va_G) (cI cZ cT : ClassId) (h0 sz : Nat) : Met l yX3_init wsX3_init rm_X3_init (cPre D (tyz cI cZ cT) [.ref h0] sz [(h0, .inr (3, [.int 0, .int 0, .null, .null, .null, .null]))]) (cPv D (tyz cI cZ cT) (fun (u : Nat → Nat) => u 0 = h0) (fun u => [oX3 u 0 0, rA (u 3) cI 6 (fun _ => 0), rA (u 4) cI 6 (fun _ => 0), rA (u 5) cI 7 (fun _ => 0), rA (u 6) cI 7 (fun _ => 0)]) [(h0, .inr (3, [.int 0, .int 0, .null, .null, .null, .null]))] sz) 4 26 (va_A [(h0, .inr (3, [.int 0, .int 0, .null, .null, .null, .null]))] sz) := by
  refine vx_init (by decide) rfl (Nat.le_of_ble_eq_true rfl) rfl ?_
  intro p e s m args below meth c A Q hx hb hml hown hts hin hK hP hD hA hS hret ls hl
  have hown : s.vm.findClass RX3 = some m.cls := hown
  have hl : lv_has ls 1 [(0, .ref h0)] := hl
  have iw3 : ∀ w ∈ u_ws RX3 TX3 6, w ∈ wsX3_init := by decide +kernel
  refine lv_aload_n hx hb dX3_init_0 rfl (lv_at hl 0 rfl) ?_
  refine W.objInit hx hb hown (hts (.methodLink RX3 3 objectInit) (by decide +kernel)) (hts (.instanceMethod objectInit) (by decide +kernel)) (hts _ (List.mem_of_getElem? (l := wsX3_init) (i := 3) rfl)) rfl (by rw [hml]; exact hl.1) rfl dX3_init_1 (Nat.le_of_ble_eq_true rfl) (Nat.le_of_ble_eq_true rfl) ?_
  refine W.eq (g2 := F0 m 4 ls []) rfl ?_
  refine lv_aload_n hx hb dX3_init_4 rfl (lv_at hl 0 rfl) ?_
  refine lv_bipush (v := 6) hx hb dX3_init_5 (by decide) ?_
  refine va_newa (atype := .int) (ty := .int) (N' := 6) (a0 := (6, .inl (fun _ => 0))) hx hb (hts (.arrayClass .int) (by decide +kernel)) rfl hK hP hD hS hA (fun _ => vp_cell_i _ _ _) (by decide) (by decide) (by decide) (Nat.le_of_ble_eq_true rfl) (Nat.le_of_ble_eq_true rfl) dX3_init_7 (fun q7 c7 H hK hP hD hS => ?_)
  obtain ⟨e9, hKn⟩ := vx_eqI hK; clear hK; subst e9; have hK := hKn; clear hKn
  have hP : va_P D vwCl [(h0, .inr (3, [.int 0, .int 0, .null, .null, .null, .null])), rA q7 cI 6 (fun _ => 0)] H := hP
  have hD : va_D A [(h0, .inr (3, [.int 0, .int 0, .null, .null, .null, .null])), rA q7 cI 6 (fun _ => 0)] := hD
  refine va_putF (C := RX3) (T := TX3) (N := 6) (v := .ref q7) (ty := .array .int) hx hb hts iw3 tyX3 tyX3_ok nmX3 hown hK hP hD hS 0 rfl rfl 2 (Nat.le_of_ble_eq_true rfl) (hts (.fieldLink RX3 9 "FogGuides$Touches" "feltMarks" "[I") (by decide +kernel)) (fun _ h9 => h9) rfl hin rfl (by decide +kernel) rfl rfl (Nat.le_of_ble_eq_true rfl) dX3_init_9 (fun H locs hP hD hS => ?_)
  have hP : va_P D vwCl [(h0, .inr (3, [.int 0, .int 0, .ref q7, .null, .null, .null])), rA q7 cI 6 (fun _ => 0)] H := hP
  have hD : va_D A [(h0, .inr (3, [.int 0, .int 0, .ref q7, .null, .null, .null])), rA q7 cI 6 (fun _ => 0)] := hD
  refine lv_aload_n hx hb dX3_init_12 rfl (lv_at hl 0 rfl) ?_
  refine lv_bipush (v := 6) hx hb dX3_init_13 (by decide) ?_
  refine va_newa (atype := .int) (ty := .int) (N' := 6) (a0 := (6, .inl (fun _ => 0))) hx hb (hts (.arrayClass .int) (by decide +kernel)) rfl hK hP hD hS hA (fun _ => vp_cell_i _ _ _) (by decide) (by decide) (by decide) (Nat.le_of_ble_eq_true rfl) (Nat.le_of_ble_eq_true rfl) dX3_init_15 (fun q15 c15 H hK hP hD hS => ?_)
  obtain ⟨e9, hKn⟩ := vx_eqI hK; clear hK; subst e9; have hK := hKn; clear hKn
  have hP : va_P D vwCl [(h0, .inr (3, [.int 0, .int 0, .ref q7, .null, .null, .null])), rA q7 cI 6 (fun _ => 0), rA q15 cI 6 (fun _ => 0)] H := hP
  have hD : va_D A [(h0, .inr (3, [.int 0, .int 0, .ref q7, .null, .null, .null])), rA q7 cI 6 (fun _ => 0), rA q15 cI 6 (fun _ => 0)] := hD
  refine va_putF (C := RX3) (T := TX3) (N := 6) (v := .ref q15) (ty := .array .int) hx hb hts iw3 tyX3 tyX3_ok nmX3 hown hK hP hD hS 0 rfl rfl 3 (Nat.le_of_ble_eq_true rfl) (hts (.fieldLink RX3 15 "FogGuides$Touches" "walkedCorners" "[I") (by decide +kernel)) (fun _ h9 => h9) rfl hin rfl (by decide +kernel) rfl rfl (Nat.le_of_ble_eq_true rfl) dX3_init_17 (fun H locs hP hD hS => ?_)
  have hP : va_P D vwCl [(h0, .inr (3, [.int 0, .int 0, .ref q7, .ref q15, .null, .null])), rA q7 cI 6 (fun _ => 0), rA q15 cI 6 (fun _ => 0)] H := hP
  have hD : va_D A [(h0, .inr (3, [.int 0, .int 0, .ref q7, .ref q15, .null, .null])), rA q7 cI 6 (fun _ => 0), rA q15 cI 6 (fun _ => 0)] := hD
  refine lv_aload_n hx hb dX3_init_20 rfl (lv_at hl 0 rfl) ?_
  refine lv_bipush (v := 7) hx hb dX3_init_21 (by decide) ?_
  refine va_newa (atype := .int) (ty := .int) (N' := 7) (a0 := (7, .inl (fun _ => 0))) hx hb (hts (.arrayClass .int) (by decide +kernel)) rfl hK hP hD hS hA (fun _ => vp_cell_i _ _ _) (by decide) (by decide) (by decide) (Nat.le_of_ble_eq_true rfl) (Nat.le_of_ble_eq_true rfl) dX3_init_23 (fun q23 c23 H hK hP hD hS => ?_)
  obtain ⟨e9, hKn⟩ := vx_eqI hK; clear hK; subst e9; have hK := hKn; clear hKn
  have hP : va_P D vwCl [(h0, .inr (3, [.int 0, .int 0, .ref q7, .ref q15, .null, .null])), rA q7 cI 6 (fun _ => 0), rA q15 cI 6 (fun _ => 0), rA q23 cI 7 (fun _ => 0)] H := hP
  have hD : va_D A [(h0, .inr (3, [.int 0, .int 0, .ref q7, .ref q15, .null, .null])), rA q7 cI 6 (fun _ => 0), rA q15 cI 6 (fun _ => 0), rA q23 cI 7 (fun _ => 0)] := hD
  refine va_putF (C := RX3) (T := TX3) (N := 6) (v := .ref q23) (ty := .array .int) hx hb hts iw3 tyX3 tyX3_ok nmX3 hown hK hP hD hS 0 rfl rfl 4 (Nat.le_of_ble_eq_true rfl) (hts (.fieldLink RX3 18 "FogGuides$Touches" "rows" "[I") (by decide +kernel)) (fun _ h9 => h9) rfl hin rfl (by decide +kernel) rfl rfl (Nat.le_of_ble_eq_true rfl) dX3_init_25 (fun H locs hP hD hS => ?_)
  have hP : va_P D vwCl [(h0, .inr (3, [.int 0, .int 0, .ref q7, .ref q15, .ref q23, .null])), rA q7 cI 6 (fun _ => 0), rA q15 cI 6 (fun _ => 0), rA q23 cI 7 (fun _ => 0)] H := hP
  have hD : va_D A [(h0, .inr (3, [.int 0, .int 0, .ref q7, .ref q15, .ref q23, .null])), rA q7 cI 6 (fun _ => 0), rA q15 cI 6 (fun _ => 0), rA q23 cI 7 (fun _ => 0)] := hD
  refine lv_aload_n hx hb dX3_init_28 rfl (lv_at hl 0 rfl) ?_
  refine lv_bipush (v := 7) hx hb dX3_init_29 (by decide) ?_
  refine va_newa (atype := .int) (ty := .int) (N' := 7) (a0 := (7, .inl (fun _ => 0))) hx hb (hts (.arrayClass .int) (by decide +kernel)) rfl hK hP hD hS hA (fun _ => vp_cell_i _ _ _) (by decide) (by decide) (by decide) (Nat.le_of_ble_eq_true rfl) (Nat.le_of_ble_eq_true rfl) dX3_init_31 (fun q31 c31 H hK hP hD hS => ?_)
  obtain ⟨e9, hKn⟩ := vx_eqI hK; clear hK; subst e9; have hK := hKn; clear hKn
  have hP : va_P D vwCl [(h0, .inr (3, [.int 0, .int 0, .ref q7, .ref q15, .ref q23, .null])), rA q7 cI 6 (fun _ => 0), rA q15 cI 6 (fun _ => 0), rA q23 cI 7 (fun _ => 0), rA q31 cI 7 (fun _ => 0)] H := hP
  have hD : va_D A [(h0, .inr (3, [.int 0, .int 0, .ref q7, .ref q15, .ref q23, .null])), rA q7 cI 6 (fun _ => 0), rA q15 cI 6 (fun _ => 0), rA q23 cI 7 (fun _ => 0), rA q31 cI 7 (fun _ => 0)] := hD
  refine va_putF (C := RX3) (T := TX3) (N := 6) (v := .ref q31) (ty := .array .int) hx hb hts iw3 tyX3 tyX3_ok nmX3 hown hK hP hD hS 0 rfl rfl 5 (Nat.le_of_ble_eq_true rfl) (hts (.fieldLink RX3 21 "FogGuides$Touches" "nextRows" "[I") (by decide +kernel)) (fun _ h9 => h9) rfl hin rfl (by decide +kernel) rfl rfl (Nat.le_of_ble_eq_true rfl) dX3_init_33 (fun H locs hP hD hS => ?_)
  have hP : va_P D vwCl [(h0, .inr (3, [.int 0, .int 0, .ref q7, .ref q15, .ref q23, .ref q31])), rA q7 cI 6 (fun _ => 0), rA q15 cI 6 (fun _ => 0), rA q23 cI 7 (fun _ => 0), rA q31 cI 7 (fun _ => 0)] H := hP
  have hD : va_D A [(h0, .inr (3, [.int 0, .int 0, .ref q7, .ref q15, .ref q23, .ref q31])), rA q7 cI 6 (fun _ => 0), rA q15 cI 6 (fun _ => 0), rA q23 cI 7 (fun _ => 0), rA q31 cI 7 (fun _ => 0)] := hD
  refine W.widen (k := 4) (n := 26) (by omega) (by omega) ?_
  exact hret (qf [h0, 0, 0, q7, q15, q23, q31]) H _ _ ls rfl (hP.sub (ws' := [oX3 (qf [h0, 0, 0, q7, q15, q23, q31]) 0 0, rA ((qf [h0, 0, 0, q7, q15, q23, q31]) 3) cI 6 (fun _ => 0), rA ((qf [h0, 0, 0, q7, q15, q23, q31]) 4) cI 6 (fun _ => 0), rA ((qf [h0, 0, 0, q7, q15, q23, q31]) 5) cI 7 (fun _ => 0), rA ((qf [h0, 0, 0, q7, q15, q23, q31]) 6) cI 7 (fun _ => 0)]) [0, 1, 2, 3, 4] rfl) (hD.sub (ws' := [oX3 (qf [h0, 0, 0, q7, q15, q23, q31]) 0 0, rA ((qf [h0, 0, 0, q7, q15, q23, q31]) 3) cI 6 (fun _ => 0), rA ((qf [h0, 0, 0, q7, q15, q23, q31]) 4) cI 6 (fun _ => 0), rA ((qf [h0, 0, 0, q7, q15, q23, q31]) 5) cI 7 (fun _ => 0), rA ((qf [h0, 0, 0, q7, q15, q23, q31]) 6) cI 7 (fun _ => 0)]) [0, 1, 2, 3, 4] (by decide) rfl) hS dX3_init_36
abbrev rm_X4_init : Room := { frames := 1, cells := 9, slots := 58, locals := 12 }
set_option maxHeartbeats 4000000 in
set_option maxRecDepth 100000 in
theorem k_X4_init (l : Launch) (D : va_G) (cI cZ cT : ClassId) (h0 sz : Nat) : Met l yX4_init wsX4_init rm_X4_init (cPre D (tyz cI cZ cT) [.ref h0] sz [(h0, .inr (4, [.int 0, .int 0, .int 0, .int 0, .int 0, .int 0, .null, .null, .null, .null, .null, .null, .null, .null, .null]))]) (cPv D (tyz cI cZ cT) (fun (u : Nat → Nat) => u 0 = h0) (fun u => [oX4 u 0 0 0 0 1 0, rA (u 7) cI 7 (fun _ => 0), rA (u 8) cI 9 (fun _ => 0), rA (u 9) cI 9 (fun _ => 0), rA (u 10) cI 9 (fun _ => 0), rA (u 11) cI 4 (fun _ => 0), rA (u 12) cI 4 (fun _ => 0), rA (u 13) cI 4 (fun _ => 0), rA (u 14) cI 4 (fun _ => 0), rA (u 15) cI 8 (fun _ => 0)]) [(h0, .inr (4, [.int 0, .int 0, .int 0, .int 0, .int 0, .int 0, .null, .null, .null, .null, .null, .null, .null, .null, .null]))] sz) 9 58 (va_A [(h0, .inr (4, [.int 0, .int 0, .int 0, .int 0, .int 0, .int 0, .null, .null, .null, .null, .null, .null, .null, .null, .null]))] sz) := by
  refine vx_init (by decide) rfl (Nat.le_of_ble_eq_true rfl) rfl ?_
  intro p e s m args below meth c A Q hx hb hml hown hts hin hK hP hD hA hS hret ls hl
  have hown : s.vm.findClass RX4 = some m.cls := hown
  have hl : lv_has ls 1 [(0, .ref h0)] := hl
  have iw4 : ∀ w ∈ u_ws RX4 TX4 15, w ∈ wsX4_init := by decide +kernel
  refine lv_aload_n hx hb dX4_init_0 rfl (lv_at hl 0 rfl) ?_
  refine W.objInit hx hb hown (hts (.methodLink RX4 3 objectInit) (by decide +kernel)) (hts (.instanceMethod objectInit) (by decide +kernel)) (hts _ (List.mem_of_getElem? (l := wsX4_init) (i := 3) rfl)) rfl (by rw [hml]; exact hl.1) rfl dX4_init_1 (Nat.le_of_ble_eq_true rfl) (Nat.le_of_ble_eq_true rfl) ?_
  refine W.eq (g2 := F0 m 4 ls []) rfl ?_
  refine lv_aload_n hx hb dX4_init_4 rfl (lv_at hl 0 rfl) ?_
  refine lv_bipush (v := 7) hx hb dX4_init_5 (by decide) ?_
  refine va_newa (atype := .int) (ty := .int) (N' := 7) (a0 := (7, .inl (fun _ => 0))) hx hb (hts (.arrayClass .int) (by decide +kernel)) rfl hK hP hD hS hA (fun _ => vp_cell_i _ _ _) (by decide) (by decide) (by decide) (Nat.le_of_ble_eq_true rfl) (Nat.le_of_ble_eq_true rfl) dX4_init_7 (fun q7 c7 H hK hP hD hS => ?_)
  obtain ⟨e9, hKn⟩ := vx_eqI hK; clear hK; subst e9; have hK := hKn; clear hKn
  have hP : va_P D vwCl [(h0, .inr (4, [.int 0, .int 0, .int 0, .int 0, .int 0, .int 0, .null, .null, .null, .null, .null, .null, .null, .null, .null])), rA q7 cI 7 (fun _ => 0)] H := hP
  have hD : va_D A [(h0, .inr (4, [.int 0, .int 0, .int 0, .int 0, .int 0, .int 0, .null, .null, .null, .null, .null, .null, .null, .null, .null])), rA q7 cI 7 (fun _ => 0)] := hD
  refine va_putF (C := RX4) (T := TX4) (N := 15) (v := .ref q7) (ty := .array .int) hx hb hts iw4 tyX4 tyX4_ok nmX4 hown hK hP hD hS 0 rfl rfl 6 (Nat.le_of_ble_eq_true rfl) (hts (.fieldLink RX4 9 "FogGuides$TownMap" "marks" "[I") (by decide +kernel)) (fun _ h9 => h9) rfl hin rfl (by decide +kernel) rfl rfl (Nat.le_of_ble_eq_true rfl) dX4_init_9 (fun H locs hP hD hS => ?_)
  have hP : va_P D vwCl [(h0, .inr (4, [.int 0, .int 0, .int 0, .int 0, .int 0, .int 0, .ref q7, .null, .null, .null, .null, .null, .null, .null, .null])), rA q7 cI 7 (fun _ => 0)] H := hP
  have hD : va_D A [(h0, .inr (4, [.int 0, .int 0, .int 0, .int 0, .int 0, .int 0, .ref q7, .null, .null, .null, .null, .null, .null, .null, .null])), rA q7 cI 7 (fun _ => 0)] := hD
  refine lv_aload_n hx hb dX4_init_12 rfl (lv_at hl 0 rfl) ?_
  refine lv_bipush (v := 9) hx hb dX4_init_13 (by decide) ?_
  refine va_newa (atype := .int) (ty := .int) (N' := 9) (a0 := (9, .inl (fun _ => 0))) hx hb (hts (.arrayClass .int) (by decide +kernel)) rfl hK hP hD hS hA (fun _ => vp_cell_i _ _ _) (by decide) (by decide) (by decide) (Nat.le_of_ble_eq_true rfl) (Nat.le_of_ble_eq_true rfl) dX4_init_15 (fun q15 c15 H hK hP hD hS => ?_)
  obtain ⟨e9, hKn⟩ := vx_eqI hK; clear hK; subst e9; have hK := hKn; clear hKn
  have hP : va_P D vwCl [(h0, .inr (4, [.int 0, .int 0, .int 0, .int 0, .int 0, .int 0, .ref q7, .null, .null, .null, .null, .null, .null, .null, .null])), rA q7 cI 7 (fun _ => 0), rA q15 cI 9 (fun _ => 0)] H := hP
  have hD : va_D A [(h0, .inr (4, [.int 0, .int 0, .int 0, .int 0, .int 0, .int 0, .ref q7, .null, .null, .null, .null, .null, .null, .null, .null])), rA q7 cI 7 (fun _ => 0), rA q15 cI 9 (fun _ => 0)] := hD
  refine va_putF (C := RX4) (T := TX4) (N := 15) (v := .ref q15) (ty := .array .int) hx hb hts iw4 tyX4 tyX4_ok nmX4 hown hK hP hD hS 0 rfl rfl 7 (Nat.le_of_ble_eq_true rfl) (hts (.fieldLink RX4 15 "FogGuides$TownMap" "ends" "[I") (by decide +kernel)) (fun _ h9 => h9) rfl hin rfl (by decide +kernel) rfl rfl (Nat.le_of_ble_eq_true rfl) dX4_init_17 (fun H locs hP hD hS => ?_)
  have hP : va_P D vwCl [(h0, .inr (4, [.int 0, .int 0, .int 0, .int 0, .int 0, .int 0, .ref q7, .ref q15, .null, .null, .null, .null, .null, .null, .null])), rA q7 cI 7 (fun _ => 0), rA q15 cI 9 (fun _ => 0)] H := hP
  have hD : va_D A [(h0, .inr (4, [.int 0, .int 0, .int 0, .int 0, .int 0, .int 0, .ref q7, .ref q15, .null, .null, .null, .null, .null, .null, .null])), rA q7 cI 7 (fun _ => 0), rA q15 cI 9 (fun _ => 0)] := hD
  refine lv_aload_n hx hb dX4_init_20 rfl (lv_at hl 0 rfl) ?_
  refine lv_bipush (v := 9) hx hb dX4_init_21 (by decide) ?_
  refine va_newa (atype := .int) (ty := .int) (N' := 9) (a0 := (9, .inl (fun _ => 0))) hx hb (hts (.arrayClass .int) (by decide +kernel)) rfl hK hP hD hS hA (fun _ => vp_cell_i _ _ _) (by decide) (by decide) (by decide) (Nat.le_of_ble_eq_true rfl) (Nat.le_of_ble_eq_true rfl) dX4_init_23 (fun q23 c23 H hK hP hD hS => ?_)
  obtain ⟨e9, hKn⟩ := vx_eqI hK; clear hK; subst e9; have hK := hKn; clear hKn
  have hP : va_P D vwCl [(h0, .inr (4, [.int 0, .int 0, .int 0, .int 0, .int 0, .int 0, .ref q7, .ref q15, .null, .null, .null, .null, .null, .null, .null])), rA q7 cI 7 (fun _ => 0), rA q15 cI 9 (fun _ => 0), rA q23 cI 9 (fun _ => 0)] H := hP
  have hD : va_D A [(h0, .inr (4, [.int 0, .int 0, .int 0, .int 0, .int 0, .int 0, .ref q7, .ref q15, .null, .null, .null, .null, .null, .null, .null])), rA q7 cI 7 (fun _ => 0), rA q15 cI 9 (fun _ => 0), rA q23 cI 9 (fun _ => 0)] := hD
  refine va_putF (C := RX4) (T := TX4) (N := 15) (v := .ref q23) (ty := .array .int) hx hb hts iw4 tyX4 tyX4_ok nmX4 hown hK hP hD hS 0 rfl rfl 8 (Nat.le_of_ble_eq_true rfl) (hts (.fieldLink RX4 18 "FogGuides$TownMap" "farEnds" "[I") (by decide +kernel)) (fun _ h9 => h9) rfl hin rfl (by decide +kernel) rfl rfl (Nat.le_of_ble_eq_true rfl) dX4_init_25 (fun H locs hP hD hS => ?_)
  have hP : va_P D vwCl [(h0, .inr (4, [.int 0, .int 0, .int 0, .int 0, .int 0, .int 0, .ref q7, .ref q15, .ref q23, .null, .null, .null, .null, .null, .null])), rA q7 cI 7 (fun _ => 0), rA q15 cI 9 (fun _ => 0), rA q23 cI 9 (fun _ => 0)] H := hP
  have hD : va_D A [(h0, .inr (4, [.int 0, .int 0, .int 0, .int 0, .int 0, .int 0, .ref q7, .ref q15, .ref q23, .null, .null, .null, .null, .null, .null])), rA q7 cI 7 (fun _ => 0), rA q15 cI 9 (fun _ => 0), rA q23 cI 9 (fun _ => 0)] := hD
  refine lv_aload_n hx hb dX4_init_28 rfl (lv_at hl 0 rfl) ?_
  refine lv_bipush (v := 9) hx hb dX4_init_29 (by decide) ?_
  refine va_newa (atype := .int) (ty := .int) (N' := 9) (a0 := (9, .inl (fun _ => 0))) hx hb (hts (.arrayClass .int) (by decide +kernel)) rfl hK hP hD hS hA (fun _ => vp_cell_i _ _ _) (by decide) (by decide) (by decide) (Nat.le_of_ble_eq_true rfl) (Nat.le_of_ble_eq_true rfl) dX4_init_31 (fun q31 c31 H hK hP hD hS => ?_)
  obtain ⟨e9, hKn⟩ := vx_eqI hK; clear hK; subst e9; have hK := hKn; clear hKn
  have hP : va_P D vwCl [(h0, .inr (4, [.int 0, .int 0, .int 0, .int 0, .int 0, .int 0, .ref q7, .ref q15, .ref q23, .null, .null, .null, .null, .null, .null])), rA q7 cI 7 (fun _ => 0), rA q15 cI 9 (fun _ => 0), rA q23 cI 9 (fun _ => 0), rA q31 cI 9 (fun _ => 0)] H := hP
  have hD : va_D A [(h0, .inr (4, [.int 0, .int 0, .int 0, .int 0, .int 0, .int 0, .ref q7, .ref q15, .ref q23, .null, .null, .null, .null, .null, .null])), rA q7 cI 7 (fun _ => 0), rA q15 cI 9 (fun _ => 0), rA q23 cI 9 (fun _ => 0), rA q31 cI 9 (fun _ => 0)] := hD
  refine va_putF (C := RX4) (T := TX4) (N := 15) (v := .ref q31) (ty := .array .int) hx hb hts iw4 tyX4 tyX4_ok nmX4 hown hK hP hD hS 0 rfl rfl 9 (Nat.le_of_ble_eq_true rfl) (hts (.fieldLink RX4 21 "FogGuides$TownMap" "lengths" "[I") (by decide +kernel)) (fun _ h9 => h9) rfl hin rfl (by decide +kernel) rfl rfl (Nat.le_of_ble_eq_true rfl) dX4_init_33 (fun H locs hP hD hS => ?_)
  have hP : va_P D vwCl [(h0, .inr (4, [.int 0, .int 0, .int 0, .int 0, .int 0, .int 0, .ref q7, .ref q15, .ref q23, .ref q31, .null, .null, .null, .null, .null])), rA q7 cI 7 (fun _ => 0), rA q15 cI 9 (fun _ => 0), rA q23 cI 9 (fun _ => 0), rA q31 cI 9 (fun _ => 0)] H := hP
  have hD : va_D A [(h0, .inr (4, [.int 0, .int 0, .int 0, .int 0, .int 0, .int 0, .ref q7, .ref q15, .ref q23, .ref q31, .null, .null, .null, .null, .null])), rA q7 cI 7 (fun _ => 0), rA q15 cI 9 (fun _ => 0), rA q23 cI 9 (fun _ => 0), rA q31 cI 9 (fun _ => 0)] := hD
  refine lv_aload_n hx hb dX4_init_36 rfl (lv_at hl 0 rfl) ?_
  refine lv_iconst (v := 4) hx hb dX4_init_37 (by decide) ?_
  refine va_newa (atype := .int) (ty := .int) (N' := 4) (a0 := (4, .inl (fun _ => 0))) hx hb (hts (.arrayClass .int) (by decide +kernel)) rfl hK hP hD hS hA (fun _ => vp_cell_i _ _ _) (by decide) (by decide) (by decide) (Nat.le_of_ble_eq_true rfl) (Nat.le_of_ble_eq_true rfl) dX4_init_38 (fun q38 c38 H hK hP hD hS => ?_)
  obtain ⟨e9, hKn⟩ := vx_eqI hK; clear hK; subst e9; have hK := hKn; clear hKn
  have hP : va_P D vwCl [(h0, .inr (4, [.int 0, .int 0, .int 0, .int 0, .int 0, .int 0, .ref q7, .ref q15, .ref q23, .ref q31, .null, .null, .null, .null, .null])), rA q7 cI 7 (fun _ => 0), rA q15 cI 9 (fun _ => 0), rA q23 cI 9 (fun _ => 0), rA q31 cI 9 (fun _ => 0), rA q38 cI 4 (fun _ => 0)] H := hP
  have hD : va_D A [(h0, .inr (4, [.int 0, .int 0, .int 0, .int 0, .int 0, .int 0, .ref q7, .ref q15, .ref q23, .ref q31, .null, .null, .null, .null, .null])), rA q7 cI 7 (fun _ => 0), rA q15 cI 9 (fun _ => 0), rA q23 cI 9 (fun _ => 0), rA q31 cI 9 (fun _ => 0), rA q38 cI 4 (fun _ => 0)] := hD
  refine va_putF (C := RX4) (T := TX4) (N := 15) (v := .ref q38) (ty := .array .int) hx hb hts iw4 tyX4 tyX4_ok nmX4 hown hK hP hD hS 0 rfl rfl 10 (Nat.le_of_ble_eq_true rfl) (hts (.fieldLink RX4 24 "FogGuides$TownMap" "paces" "[I") (by decide +kernel)) (fun _ h9 => h9) rfl hin rfl (by decide +kernel) rfl rfl (Nat.le_of_ble_eq_true rfl) dX4_init_40 (fun H locs hP hD hS => ?_)
  have hP : va_P D vwCl [(h0, .inr (4, [.int 0, .int 0, .int 0, .int 0, .int 0, .int 0, .ref q7, .ref q15, .ref q23, .ref q31, .ref q38, .null, .null, .null, .null])), rA q7 cI 7 (fun _ => 0), rA q15 cI 9 (fun _ => 0), rA q23 cI 9 (fun _ => 0), rA q31 cI 9 (fun _ => 0), rA q38 cI 4 (fun _ => 0)] H := hP
  have hD : va_D A [(h0, .inr (4, [.int 0, .int 0, .int 0, .int 0, .int 0, .int 0, .ref q7, .ref q15, .ref q23, .ref q31, .ref q38, .null, .null, .null, .null])), rA q7 cI 7 (fun _ => 0), rA q15 cI 9 (fun _ => 0), rA q23 cI 9 (fun _ => 0), rA q31 cI 9 (fun _ => 0), rA q38 cI 4 (fun _ => 0)] := hD
  refine lv_aload_n hx hb dX4_init_43 rfl (lv_at hl 0 rfl) ?_
  refine lv_iconst (v := 4) hx hb dX4_init_44 (by decide) ?_
  refine va_newa (atype := .int) (ty := .int) (N' := 4) (a0 := (4, .inl (fun _ => 0))) hx hb (hts (.arrayClass .int) (by decide +kernel)) rfl hK hP hD hS hA (fun _ => vp_cell_i _ _ _) (by decide) (by decide) (by decide) (Nat.le_of_ble_eq_true rfl) (Nat.le_of_ble_eq_true rfl) dX4_init_45 (fun q45 c45 H hK hP hD hS => ?_)
  obtain ⟨e9, hKn⟩ := vx_eqI hK; clear hK; subst e9; have hK := hKn; clear hKn
  have hP : va_P D vwCl [(h0, .inr (4, [.int 0, .int 0, .int 0, .int 0, .int 0, .int 0, .ref q7, .ref q15, .ref q23, .ref q31, .ref q38, .null, .null, .null, .null])), rA q7 cI 7 (fun _ => 0), rA q15 cI 9 (fun _ => 0), rA q23 cI 9 (fun _ => 0), rA q31 cI 9 (fun _ => 0), rA q38 cI 4 (fun _ => 0), rA q45 cI 4 (fun _ => 0)] H := hP
  have hD : va_D A [(h0, .inr (4, [.int 0, .int 0, .int 0, .int 0, .int 0, .int 0, .ref q7, .ref q15, .ref q23, .ref q31, .ref q38, .null, .null, .null, .null])), rA q7 cI 7 (fun _ => 0), rA q15 cI 9 (fun _ => 0), rA q23 cI 9 (fun _ => 0), rA q31 cI 9 (fun _ => 0), rA q38 cI 4 (fun _ => 0), rA q45 cI 4 (fun _ => 0)] := hD
  refine va_putF (C := RX4) (T := TX4) (N := 15) (v := .ref q45) (ty := .array .int) hx hb hts iw4 tyX4 tyX4_ok nmX4 hown hK hP hD hS 0 rfl rfl 11 (Nat.le_of_ble_eq_true rfl) (hts (.fieldLink RX4 27 "FogGuides$TownMap" "fees" "[I") (by decide +kernel)) (fun _ h9 => h9) rfl hin rfl (by decide +kernel) rfl rfl (Nat.le_of_ble_eq_true rfl) dX4_init_47 (fun H locs hP hD hS => ?_)
  have hP : va_P D vwCl [(h0, .inr (4, [.int 0, .int 0, .int 0, .int 0, .int 0, .int 0, .ref q7, .ref q15, .ref q23, .ref q31, .ref q38, .ref q45, .null, .null, .null])), rA q7 cI 7 (fun _ => 0), rA q15 cI 9 (fun _ => 0), rA q23 cI 9 (fun _ => 0), rA q31 cI 9 (fun _ => 0), rA q38 cI 4 (fun _ => 0), rA q45 cI 4 (fun _ => 0)] H := hP
  have hD : va_D A [(h0, .inr (4, [.int 0, .int 0, .int 0, .int 0, .int 0, .int 0, .ref q7, .ref q15, .ref q23, .ref q31, .ref q38, .ref q45, .null, .null, .null])), rA q7 cI 7 (fun _ => 0), rA q15 cI 9 (fun _ => 0), rA q23 cI 9 (fun _ => 0), rA q31 cI 9 (fun _ => 0), rA q38 cI 4 (fun _ => 0), rA q45 cI 4 (fun _ => 0)] := hD
  refine lv_aload_n hx hb dX4_init_50 rfl (lv_at hl 0 rfl) ?_
  refine lv_iconst (v := 4) hx hb dX4_init_51 (by decide) ?_
  refine va_newa (atype := .int) (ty := .int) (N' := 4) (a0 := (4, .inl (fun _ => 0))) hx hb (hts (.arrayClass .int) (by decide +kernel)) rfl hK hP hD hS hA (fun _ => vp_cell_i _ _ _) (by decide) (by decide) (by decide) (Nat.le_of_ble_eq_true rfl) (Nat.le_of_ble_eq_true rfl) dX4_init_52 (fun q52 c52 H hK hP hD hS => ?_)
  obtain ⟨e9, hKn⟩ := vx_eqI hK; clear hK; subst e9; have hK := hKn; clear hKn
  have hP : va_P D vwCl [(h0, .inr (4, [.int 0, .int 0, .int 0, .int 0, .int 0, .int 0, .ref q7, .ref q15, .ref q23, .ref q31, .ref q38, .ref q45, .null, .null, .null])), rA q7 cI 7 (fun _ => 0), rA q15 cI 9 (fun _ => 0), rA q23 cI 9 (fun _ => 0), rA q31 cI 9 (fun _ => 0), rA q38 cI 4 (fun _ => 0), rA q45 cI 4 (fun _ => 0), rA q52 cI 4 (fun _ => 0)] H := hP
  have hD : va_D A [(h0, .inr (4, [.int 0, .int 0, .int 0, .int 0, .int 0, .int 0, .ref q7, .ref q15, .ref q23, .ref q31, .ref q38, .ref q45, .null, .null, .null])), rA q7 cI 7 (fun _ => 0), rA q15 cI 9 (fun _ => 0), rA q23 cI 9 (fun _ => 0), rA q31 cI 9 (fun _ => 0), rA q38 cI 4 (fun _ => 0), rA q45 cI 4 (fun _ => 0), rA q52 cI 4 (fun _ => 0)] := hD
  refine va_putF (C := RX4) (T := TX4) (N := 15) (v := .ref q52) (ty := .array .int) hx hb hts iw4 tyX4 tyX4_ok nmX4 hown hK hP hD hS 0 rfl rfl 12 (Nat.le_of_ble_eq_true rfl) (hts (.fieldLink RX4 30 "FogGuides$TownMap" "knows" "[I") (by decide +kernel)) (fun _ h9 => h9) rfl hin rfl (by decide +kernel) rfl rfl (Nat.le_of_ble_eq_true rfl) dX4_init_54 (fun H locs hP hD hS => ?_)
  have hP : va_P D vwCl [(h0, .inr (4, [.int 0, .int 0, .int 0, .int 0, .int 0, .int 0, .ref q7, .ref q15, .ref q23, .ref q31, .ref q38, .ref q45, .ref q52, .null, .null])), rA q7 cI 7 (fun _ => 0), rA q15 cI 9 (fun _ => 0), rA q23 cI 9 (fun _ => 0), rA q31 cI 9 (fun _ => 0), rA q38 cI 4 (fun _ => 0), rA q45 cI 4 (fun _ => 0), rA q52 cI 4 (fun _ => 0)] H := hP
  have hD : va_D A [(h0, .inr (4, [.int 0, .int 0, .int 0, .int 0, .int 0, .int 0, .ref q7, .ref q15, .ref q23, .ref q31, .ref q38, .ref q45, .ref q52, .null, .null])), rA q7 cI 7 (fun _ => 0), rA q15 cI 9 (fun _ => 0), rA q23 cI 9 (fun _ => 0), rA q31 cI 9 (fun _ => 0), rA q38 cI 4 (fun _ => 0), rA q45 cI 4 (fun _ => 0), rA q52 cI 4 (fun _ => 0)] := hD
  refine lv_aload_n hx hb dX4_init_57 rfl (lv_at hl 0 rfl) ?_
  refine lv_iconst (v := 4) hx hb dX4_init_58 (by decide) ?_
  refine va_newa (atype := .int) (ty := .int) (N' := 4) (a0 := (4, .inl (fun _ => 0))) hx hb (hts (.arrayClass .int) (by decide +kernel)) rfl hK hP hD hS hA (fun _ => vp_cell_i _ _ _) (by decide) (by decide) (by decide) (Nat.le_of_ble_eq_true rfl) (Nat.le_of_ble_eq_true rfl) dX4_init_59 (fun q59 c59 H hK hP hD hS => ?_)
  obtain ⟨e9, hKn⟩ := vx_eqI hK; clear hK; subst e9; have hK := hKn; clear hKn
  have hP : va_P D vwCl [(h0, .inr (4, [.int 0, .int 0, .int 0, .int 0, .int 0, .int 0, .ref q7, .ref q15, .ref q23, .ref q31, .ref q38, .ref q45, .ref q52, .null, .null])), rA q7 cI 7 (fun _ => 0), rA q15 cI 9 (fun _ => 0), rA q23 cI 9 (fun _ => 0), rA q31 cI 9 (fun _ => 0), rA q38 cI 4 (fun _ => 0), rA q45 cI 4 (fun _ => 0), rA q52 cI 4 (fun _ => 0), rA q59 cI 4 (fun _ => 0)] H := hP
  have hD : va_D A [(h0, .inr (4, [.int 0, .int 0, .int 0, .int 0, .int 0, .int 0, .ref q7, .ref q15, .ref q23, .ref q31, .ref q38, .ref q45, .ref q52, .null, .null])), rA q7 cI 7 (fun _ => 0), rA q15 cI 9 (fun _ => 0), rA q23 cI 9 (fun _ => 0), rA q31 cI 9 (fun _ => 0), rA q38 cI 4 (fun _ => 0), rA q45 cI 4 (fun _ => 0), rA q52 cI 4 (fun _ => 0), rA q59 cI 4 (fun _ => 0)] := hD
  refine va_putF (C := RX4) (T := TX4) (N := 15) (v := .ref q59) (ty := .array .int) hx hb hts iw4 tyX4 tyX4_ok nmX4 hown hK hP hD hS 0 rfl rfl 13 (Nat.le_of_ble_eq_true rfl) (hts (.fieldLink RX4 33 "FogGuides$TownMap" "his" "[I") (by decide +kernel)) (fun _ h9 => h9) rfl hin rfl (by decide +kernel) rfl rfl (Nat.le_of_ble_eq_true rfl) dX4_init_61 (fun H locs hP hD hS => ?_)
  have hP : va_P D vwCl [(h0, .inr (4, [.int 0, .int 0, .int 0, .int 0, .int 0, .int 0, .ref q7, .ref q15, .ref q23, .ref q31, .ref q38, .ref q45, .ref q52, .ref q59, .null])), rA q7 cI 7 (fun _ => 0), rA q15 cI 9 (fun _ => 0), rA q23 cI 9 (fun _ => 0), rA q31 cI 9 (fun _ => 0), rA q38 cI 4 (fun _ => 0), rA q45 cI 4 (fun _ => 0), rA q52 cI 4 (fun _ => 0), rA q59 cI 4 (fun _ => 0)] H := hP
  have hD : va_D A [(h0, .inr (4, [.int 0, .int 0, .int 0, .int 0, .int 0, .int 0, .ref q7, .ref q15, .ref q23, .ref q31, .ref q38, .ref q45, .ref q52, .ref q59, .null])), rA q7 cI 7 (fun _ => 0), rA q15 cI 9 (fun _ => 0), rA q23 cI 9 (fun _ => 0), rA q31 cI 9 (fun _ => 0), rA q38 cI 4 (fun _ => 0), rA q45 cI 4 (fun _ => 0), rA q52 cI 4 (fun _ => 0), rA q59 cI 4 (fun _ => 0)] := hD
  refine lv_aload_n hx hb dX4_init_64 rfl (lv_at hl 0 rfl) ?_
  refine lv_bipush (v := 8) hx hb dX4_init_65 (by decide) ?_
  refine va_newa (atype := .int) (ty := .int) (N' := 8) (a0 := (8, .inl (fun _ => 0))) hx hb (hts (.arrayClass .int) (by decide +kernel)) rfl hK hP hD hS hA (fun _ => vp_cell_i _ _ _) (by decide) (by decide) (by decide) (Nat.le_of_ble_eq_true rfl) (Nat.le_of_ble_eq_true rfl) dX4_init_67 (fun q67 c67 H hK hP hD hS => ?_)
  obtain ⟨e9, hKn⟩ := vx_eqI hK; clear hK; subst e9; have hK := hKn; clear hKn
  have hP : va_P D vwCl [(h0, .inr (4, [.int 0, .int 0, .int 0, .int 0, .int 0, .int 0, .ref q7, .ref q15, .ref q23, .ref q31, .ref q38, .ref q45, .ref q52, .ref q59, .null])), rA q7 cI 7 (fun _ => 0), rA q15 cI 9 (fun _ => 0), rA q23 cI 9 (fun _ => 0), rA q31 cI 9 (fun _ => 0), rA q38 cI 4 (fun _ => 0), rA q45 cI 4 (fun _ => 0), rA q52 cI 4 (fun _ => 0), rA q59 cI 4 (fun _ => 0), rA q67 cI 8 (fun _ => 0)] H := hP
  have hD : va_D A [(h0, .inr (4, [.int 0, .int 0, .int 0, .int 0, .int 0, .int 0, .ref q7, .ref q15, .ref q23, .ref q31, .ref q38, .ref q45, .ref q52, .ref q59, .null])), rA q7 cI 7 (fun _ => 0), rA q15 cI 9 (fun _ => 0), rA q23 cI 9 (fun _ => 0), rA q31 cI 9 (fun _ => 0), rA q38 cI 4 (fun _ => 0), rA q45 cI 4 (fun _ => 0), rA q52 cI 4 (fun _ => 0), rA q59 cI 4 (fun _ => 0), rA q67 cI 8 (fun _ => 0)] := hD
  refine va_putF (C := RX4) (T := TX4) (N := 15) (v := .ref q67) (ty := .array .int) hx hb hts iw4 tyX4 tyX4_ok nmX4 hown hK hP hD hS 0 rfl rfl 14 (Nat.le_of_ble_eq_true rfl) (hts (.fieldLink RX4 36 "FogGuides$TownMap" "bells" "[I") (by decide +kernel)) (fun _ h9 => h9) rfl hin rfl (by decide +kernel) rfl rfl (Nat.le_of_ble_eq_true rfl) dX4_init_69 (fun H locs hP hD hS => ?_)
  have hP : va_P D vwCl [(h0, .inr (4, [.int 0, .int 0, .int 0, .int 0, .int 0, .int 0, .ref q7, .ref q15, .ref q23, .ref q31, .ref q38, .ref q45, .ref q52, .ref q59, .ref q67])), rA q7 cI 7 (fun _ => 0), rA q15 cI 9 (fun _ => 0), rA q23 cI 9 (fun _ => 0), rA q31 cI 9 (fun _ => 0), rA q38 cI 4 (fun _ => 0), rA q45 cI 4 (fun _ => 0), rA q52 cI 4 (fun _ => 0), rA q59 cI 4 (fun _ => 0), rA q67 cI 8 (fun _ => 0)] H := hP
  have hD : va_D A [(h0, .inr (4, [.int 0, .int 0, .int 0, .int 0, .int 0, .int 0, .ref q7, .ref q15, .ref q23, .ref q31, .ref q38, .ref q45, .ref q52, .ref q59, .ref q67])), rA q7 cI 7 (fun _ => 0), rA q15 cI 9 (fun _ => 0), rA q23 cI 9 (fun _ => 0), rA q31 cI 9 (fun _ => 0), rA q38 cI 4 (fun _ => 0), rA q45 cI 4 (fun _ => 0), rA q52 cI 4 (fun _ => 0), rA q59 cI 4 (fun _ => 0), rA q67 cI 8 (fun _ => 0)] := hD
  refine lv_aload_n hx hb dX4_init_72 rfl (lv_at hl 0 rfl) ?_
  refine lv_iconst (v := 1) hx hb dX4_init_73 (by decide) ?_
  refine va_put (C := RX4) (T := TX4) (N := 15) (v := .int 1) (ty := .int) hx hb hts iw4 tyX4 tyX4_ok nmX4 hown hK hP hD hS 0 rfl rfl 4 (Nat.le_of_ble_eq_true rfl) (hts (.fieldLink RX4 39 "FogGuides$TownMap" "hand" "I") (by decide +kernel)) (fun _ h9 => h9) rfl (by decide +kernel) rfl rfl (Nat.le_of_ble_eq_true rfl) dX4_init_74 (fun H locs hP hD hS => ?_)
  have hP : va_P D vwCl [(h0, .inr (4, [.int 0, .int 0, .int 0, .int 0, .int 1, .int 0, .ref q7, .ref q15, .ref q23, .ref q31, .ref q38, .ref q45, .ref q52, .ref q59, .ref q67])), rA q7 cI 7 (fun _ => 0), rA q15 cI 9 (fun _ => 0), rA q23 cI 9 (fun _ => 0), rA q31 cI 9 (fun _ => 0), rA q38 cI 4 (fun _ => 0), rA q45 cI 4 (fun _ => 0), rA q52 cI 4 (fun _ => 0), rA q59 cI 4 (fun _ => 0), rA q67 cI 8 (fun _ => 0)] H := hP
  have hD : va_D A [(h0, .inr (4, [.int 0, .int 0, .int 0, .int 0, .int 1, .int 0, .ref q7, .ref q15, .ref q23, .ref q31, .ref q38, .ref q45, .ref q52, .ref q59, .ref q67])), rA q7 cI 7 (fun _ => 0), rA q15 cI 9 (fun _ => 0), rA q23 cI 9 (fun _ => 0), rA q31 cI 9 (fun _ => 0), rA q38 cI 4 (fun _ => 0), rA q45 cI 4 (fun _ => 0), rA q52 cI 4 (fun _ => 0), rA q59 cI 4 (fun _ => 0), rA q67 cI 8 (fun _ => 0)] := hD
  refine W.widen (k := 9) (n := 58) (by omega) (by omega) ?_
  exact hret (qf [h0, 0, 0, 0, 0, 0, 0, q7, q15, q23, q31, q38, q45, q52, q59, q67]) H _ _ ls rfl (hP.sub (ws' := [oX4 (qf [h0, 0, 0, 0, 0, 0, 0, q7, q15, q23, q31, q38, q45, q52, q59, q67]) 0 0 0 0 1 0, rA ((qf [h0, 0, 0, 0, 0, 0, 0, q7, q15, q23, q31, q38, q45, q52, q59, q67]) 7) cI 7 (fun _ => 0), rA ((qf [h0, 0, 0, 0, 0, 0, 0, q7, q15, q23, q31, q38, q45, q52, q59, q67]) 8) cI 9 (fun _ => 0), rA ((qf [h0, 0, 0, 0, 0, 0, 0, q7, q15, q23, q31, q38, q45, q52, q59, q67]) 9) cI 9 (fun _ => 0), rA ((qf [h0, 0, 0, 0, 0, 0, 0, q7, q15, q23, q31, q38, q45, q52, q59, q67]) 10) cI 9 (fun _ => 0), rA ((qf [h0, 0, 0, 0, 0, 0, 0, q7, q15, q23, q31, q38, q45, q52, q59, q67]) 11) cI 4 (fun _ => 0), rA ((qf [h0, 0, 0, 0, 0, 0, 0, q7, q15, q23, q31, q38, q45, q52, q59, q67]) 12) cI 4 (fun _ => 0), rA ((qf [h0, 0, 0, 0, 0, 0, 0, q7, q15, q23, q31, q38, q45, q52, q59, q67]) 13) cI 4 (fun _ => 0), rA ((qf [h0, 0, 0, 0, 0, 0, 0, q7, q15, q23, q31, q38, q45, q52, q59, q67]) 14) cI 4 (fun _ => 0), rA ((qf [h0, 0, 0, 0, 0, 0, 0, q7, q15, q23, q31, q38, q45, q52, q59, q67]) 15) cI 8 (fun _ => 0)]) [0, 1, 2, 3, 4, 5, 6, 7, 8, 9] rfl) (hD.sub (ws' := [oX4 (qf [h0, 0, 0, 0, 0, 0, 0, q7, q15, q23, q31, q38, q45, q52, q59, q67]) 0 0 0 0 1 0, rA ((qf [h0, 0, 0, 0, 0, 0, 0, q7, q15, q23, q31, q38, q45, q52, q59, q67]) 7) cI 7 (fun _ => 0), rA ((qf [h0, 0, 0, 0, 0, 0, 0, q7, q15, q23, q31, q38, q45, q52, q59, q67]) 8) cI 9 (fun _ => 0), rA ((qf [h0, 0, 0, 0, 0, 0, 0, q7, q15, q23, q31, q38, q45, q52, q59, q67]) 9) cI 9 (fun _ => 0), rA ((qf [h0, 0, 0, 0, 0, 0, 0, q7, q15, q23, q31, q38, q45, q52, q59, q67]) 10) cI 9 (fun _ => 0), rA ((qf [h0, 0, 0, 0, 0, 0, 0, q7, q15, q23, q31, q38, q45, q52, q59, q67]) 11) cI 4 (fun _ => 0), rA ((qf [h0, 0, 0, 0, 0, 0, 0, q7, q15, q23, q31, q38, q45, q52, q59, q67]) 12) cI 4 (fun _ => 0), rA ((qf [h0, 0, 0, 0, 0, 0, 0, q7, q15, q23, q31, q38, q45, q52, q59, q67]) 13) cI 4 (fun _ => 0), rA ((qf [h0, 0, 0, 0, 0, 0, 0, q7, q15, q23, q31, q38, q45, q52, q59, q67]) 14) cI 4 (fun _ => 0), rA ((qf [h0, 0, 0, 0, 0, 0, 0, q7, q15, q23, q31, q38, q45, q52, q59, q67]) 15) cI 8 (fun _ => 0)]) [0, 1, 2, 3, 4, 5, 6, 7, 8, 9] (by decide) rfl) hS dX4_init_77
abbrev rm_X5_init : Room := { frames := 1, cells := 4, slots := 61, locals := 12 }
set_option maxHeartbeats 4000000 in
set_option maxRecDepth 100000 in
theorem k_X5_init (l : Launch) (D : va_G) (cI cZ cT : ClassId) (h0 sz : Nat) : Met l yX5_init wsX5_init rm_X5_init (cPre D (tyz cI cZ cT) [.ref h0] sz [(h0, .inr (5, [.int 0, .null, .null, .null, .null, .int 0, .int 0]))]) (cPv D (tyz cI cZ cT) (fun (u : Nat → Nat) => u 0 = h0) (fun u => [oX5 u 0 0 0, rA (u 2) cI 4 (fun _ => 0), rA (u 3) cI 4 (fun _ => 0), rA (u 4) cI 4 (fun _ => 0), rA (u 5) cI 49 (fun _ => 0)]) [(h0, .inr (5, [.int 0, .null, .null, .null, .null, .int 0, .int 0]))] sz) 4 61 (va_A [(h0, .inr (5, [.int 0, .null, .null, .null, .null, .int 0, .int 0]))] sz) := by
  refine vx_init (by decide) rfl (Nat.le_of_ble_eq_true rfl) rfl ?_
  intro p e s m args below meth c A Q hx hb hml hown hts hin hK hP hD hA hS hret ls hl
  have hown : s.vm.findClass RX5 = some m.cls := hown
  have hl : lv_has ls 1 [(0, .ref h0)] := hl
  have iw5 : ∀ w ∈ u_ws RX5 TX5 7, w ∈ wsX5_init := by decide +kernel
  refine lv_aload_n hx hb dX5_init_0 rfl (lv_at hl 0 rfl) ?_
  refine W.objInit hx hb hown (hts (.methodLink RX5 3 objectInit) (by decide +kernel)) (hts (.instanceMethod objectInit) (by decide +kernel)) (hts _ (List.mem_of_getElem? (l := wsX5_init) (i := 3) rfl)) rfl (by rw [hml]; exact hl.1) rfl dX5_init_1 (Nat.le_of_ble_eq_true rfl) (Nat.le_of_ble_eq_true rfl) ?_
  refine W.eq (g2 := F0 m 4 ls []) rfl ?_
  refine lv_aload_n hx hb dX5_init_4 rfl (lv_at hl 0 rfl) ?_
  refine lv_iconst (v := 4) hx hb dX5_init_5 (by decide) ?_
  refine va_newa (atype := .int) (ty := .int) (N' := 4) (a0 := (4, .inl (fun _ => 0))) hx hb (hts (.arrayClass .int) (by decide +kernel)) rfl hK hP hD hS hA (fun _ => vp_cell_i _ _ _) (by decide) (by decide) (by decide) (Nat.le_of_ble_eq_true rfl) (Nat.le_of_ble_eq_true rfl) dX5_init_6 (fun q6 c6 H hK hP hD hS => ?_)
  obtain ⟨e9, hKn⟩ := vx_eqI hK; clear hK; subst e9; have hK := hKn; clear hKn
  have hP : va_P D vwCl [(h0, .inr (5, [.int 0, .null, .null, .null, .null, .int 0, .int 0])), rA q6 cI 4 (fun _ => 0)] H := hP
  have hD : va_D A [(h0, .inr (5, [.int 0, .null, .null, .null, .null, .int 0, .int 0])), rA q6 cI 4 (fun _ => 0)] := hD
  refine va_putF (C := RX5) (T := TX5) (N := 7) (v := .ref q6) (ty := .array .int) hx hb hts iw5 tyX5 tyX5_ok nmX5 hown hK hP hD hS 0 rfl rfl 1 (Nat.le_of_ble_eq_true rfl) (hts (.fieldLink RX5 9 "FogGuides$WishList" "froms" "[I") (by decide +kernel)) (fun _ h9 => h9) rfl hin rfl (by decide +kernel) rfl rfl (Nat.le_of_ble_eq_true rfl) dX5_init_8 (fun H locs hP hD hS => ?_)
  have hP : va_P D vwCl [(h0, .inr (5, [.int 0, .ref q6, .null, .null, .null, .int 0, .int 0])), rA q6 cI 4 (fun _ => 0)] H := hP
  have hD : va_D A [(h0, .inr (5, [.int 0, .ref q6, .null, .null, .null, .int 0, .int 0])), rA q6 cI 4 (fun _ => 0)] := hD
  refine lv_aload_n hx hb dX5_init_11 rfl (lv_at hl 0 rfl) ?_
  refine lv_iconst (v := 4) hx hb dX5_init_12 (by decide) ?_
  refine va_newa (atype := .int) (ty := .int) (N' := 4) (a0 := (4, .inl (fun _ => 0))) hx hb (hts (.arrayClass .int) (by decide +kernel)) rfl hK hP hD hS hA (fun _ => vp_cell_i _ _ _) (by decide) (by decide) (by decide) (Nat.le_of_ble_eq_true rfl) (Nat.le_of_ble_eq_true rfl) dX5_init_13 (fun q13 c13 H hK hP hD hS => ?_)
  obtain ⟨e9, hKn⟩ := vx_eqI hK; clear hK; subst e9; have hK := hKn; clear hKn
  have hP : va_P D vwCl [(h0, .inr (5, [.int 0, .ref q6, .null, .null, .null, .int 0, .int 0])), rA q6 cI 4 (fun _ => 0), rA q13 cI 4 (fun _ => 0)] H := hP
  have hD : va_D A [(h0, .inr (5, [.int 0, .ref q6, .null, .null, .null, .int 0, .int 0])), rA q6 cI 4 (fun _ => 0), rA q13 cI 4 (fun _ => 0)] := hD
  refine va_putF (C := RX5) (T := TX5) (N := 7) (v := .ref q13) (ty := .array .int) hx hb hts iw5 tyX5 tyX5_ok nmX5 hown hK hP hD hS 0 rfl rfl 2 (Nat.le_of_ble_eq_true rfl) (hts (.fieldLink RX5 15 "FogGuides$WishList" "tos" "[I") (by decide +kernel)) (fun _ h9 => h9) rfl hin rfl (by decide +kernel) rfl rfl (Nat.le_of_ble_eq_true rfl) dX5_init_15 (fun H locs hP hD hS => ?_)
  have hP : va_P D vwCl [(h0, .inr (5, [.int 0, .ref q6, .ref q13, .null, .null, .int 0, .int 0])), rA q6 cI 4 (fun _ => 0), rA q13 cI 4 (fun _ => 0)] H := hP
  have hD : va_D A [(h0, .inr (5, [.int 0, .ref q6, .ref q13, .null, .null, .int 0, .int 0])), rA q6 cI 4 (fun _ => 0), rA q13 cI 4 (fun _ => 0)] := hD
  refine lv_aload_n hx hb dX5_init_18 rfl (lv_at hl 0 rfl) ?_
  refine lv_iconst (v := 4) hx hb dX5_init_19 (by decide) ?_
  refine va_newa (atype := .int) (ty := .int) (N' := 4) (a0 := (4, .inl (fun _ => 0))) hx hb (hts (.arrayClass .int) (by decide +kernel)) rfl hK hP hD hS hA (fun _ => vp_cell_i _ _ _) (by decide) (by decide) (by decide) (Nat.le_of_ble_eq_true rfl) (Nat.le_of_ble_eq_true rfl) dX5_init_20 (fun q20 c20 H hK hP hD hS => ?_)
  obtain ⟨e9, hKn⟩ := vx_eqI hK; clear hK; subst e9; have hK := hKn; clear hKn
  have hP : va_P D vwCl [(h0, .inr (5, [.int 0, .ref q6, .ref q13, .null, .null, .int 0, .int 0])), rA q6 cI 4 (fun _ => 0), rA q13 cI 4 (fun _ => 0), rA q20 cI 4 (fun _ => 0)] H := hP
  have hD : va_D A [(h0, .inr (5, [.int 0, .ref q6, .ref q13, .null, .null, .int 0, .int 0])), rA q6 cI 4 (fun _ => 0), rA q13 cI 4 (fun _ => 0), rA q20 cI 4 (fun _ => 0)] := hD
  refine va_putF (C := RX5) (T := TX5) (N := 7) (v := .ref q20) (ty := .array .int) hx hb hts iw5 tyX5 tyX5_ok nmX5 hown hK hP hD hS 0 rfl rfl 3 (Nat.le_of_ble_eq_true rfl) (hts (.fieldLink RX5 18 "FogGuides$WishList" "worths" "[I") (by decide +kernel)) (fun _ h9 => h9) rfl hin rfl (by decide +kernel) rfl rfl (Nat.le_of_ble_eq_true rfl) dX5_init_22 (fun H locs hP hD hS => ?_)
  have hP : va_P D vwCl [(h0, .inr (5, [.int 0, .ref q6, .ref q13, .ref q20, .null, .int 0, .int 0])), rA q6 cI 4 (fun _ => 0), rA q13 cI 4 (fun _ => 0), rA q20 cI 4 (fun _ => 0)] H := hP
  have hD : va_D A [(h0, .inr (5, [.int 0, .ref q6, .ref q13, .ref q20, .null, .int 0, .int 0])), rA q6 cI 4 (fun _ => 0), rA q13 cI 4 (fun _ => 0), rA q20 cI 4 (fun _ => 0)] := hD
  refine lv_aload_n hx hb dX5_init_25 rfl (lv_at hl 0 rfl) ?_
  refine lv_bipush (v := 49) hx hb dX5_init_26 (by decide) ?_
  refine va_newa (atype := .int) (ty := .int) (N' := 49) (a0 := (49, .inl (fun _ => 0))) hx hb (hts (.arrayClass .int) (by decide +kernel)) rfl hK hP hD hS hA (fun _ => vp_cell_i _ _ _) (by decide) (by decide) (by decide) (Nat.le_of_ble_eq_true rfl) (Nat.le_of_ble_eq_true rfl) dX5_init_28 (fun q28 c28 H hK hP hD hS => ?_)
  obtain ⟨e9, hKn⟩ := vx_eqI hK; clear hK; subst e9; have hK := hKn; clear hKn
  have hP : va_P D vwCl [(h0, .inr (5, [.int 0, .ref q6, .ref q13, .ref q20, .null, .int 0, .int 0])), rA q6 cI 4 (fun _ => 0), rA q13 cI 4 (fun _ => 0), rA q20 cI 4 (fun _ => 0), rA q28 cI 49 (fun _ => 0)] H := hP
  have hD : va_D A [(h0, .inr (5, [.int 0, .ref q6, .ref q13, .ref q20, .null, .int 0, .int 0])), rA q6 cI 4 (fun _ => 0), rA q13 cI 4 (fun _ => 0), rA q20 cI 4 (fun _ => 0), rA q28 cI 49 (fun _ => 0)] := hD
  refine va_putF (C := RX5) (T := TX5) (N := 7) (v := .ref q28) (ty := .array .int) hx hb hts iw5 tyX5 tyX5_ok nmX5 hown hK hP hD hS 0 rfl rfl 4 (Nat.le_of_ble_eq_true rfl) (hts (.fieldLink RX5 21 "FogGuides$WishList" "ways" "[I") (by decide +kernel)) (fun _ h9 => h9) rfl hin rfl (by decide +kernel) rfl rfl (Nat.le_of_ble_eq_true rfl) dX5_init_30 (fun H locs hP hD hS => ?_)
  have hP : va_P D vwCl [(h0, .inr (5, [.int 0, .ref q6, .ref q13, .ref q20, .ref q28, .int 0, .int 0])), rA q6 cI 4 (fun _ => 0), rA q13 cI 4 (fun _ => 0), rA q20 cI 4 (fun _ => 0), rA q28 cI 49 (fun _ => 0)] H := hP
  have hD : va_D A [(h0, .inr (5, [.int 0, .ref q6, .ref q13, .ref q20, .ref q28, .int 0, .int 0])), rA q6 cI 4 (fun _ => 0), rA q13 cI 4 (fun _ => 0), rA q20 cI 4 (fun _ => 0), rA q28 cI 49 (fun _ => 0)] := hD
  refine W.widen (k := 4) (n := 61) (by omega) (by omega) ?_
  exact hret (qf [h0, 0, q6, q13, q20, q28, 0, 0]) H _ _ ls rfl (hP.sub (ws' := [oX5 (qf [h0, 0, q6, q13, q20, q28, 0, 0]) 0 0 0, rA ((qf [h0, 0, q6, q13, q20, q28, 0, 0]) 2) cI 4 (fun _ => 0), rA ((qf [h0, 0, q6, q13, q20, q28, 0, 0]) 3) cI 4 (fun _ => 0), rA ((qf [h0, 0, q6, q13, q20, q28, 0, 0]) 4) cI 4 (fun _ => 0), rA ((qf [h0, 0, q6, q13, q20, q28, 0, 0]) 5) cI 49 (fun _ => 0)]) [0, 1, 2, 3, 4] rfl) (hD.sub (ws' := [oX5 (qf [h0, 0, q6, q13, q20, q28, 0, 0]) 0 0 0, rA ((qf [h0, 0, q6, q13, q20, q28, 0, 0]) 2) cI 4 (fun _ => 0), rA ((qf [h0, 0, q6, q13, q20, q28, 0, 0]) 3) cI 4 (fun _ => 0), rA ((qf [h0, 0, q6, q13, q20, q28, 0, 0]) 4) cI 4 (fun _ => 0), rA ((qf [h0, 0, q6, q13, q20, q28, 0, 0]) 5) cI 49 (fun _ => 0)]) [0, 1, 2, 3, 4] (by decide) rfl) hS dX5_init_33
