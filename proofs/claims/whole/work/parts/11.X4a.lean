abbrev rm_X4_empty : Room := { frames := 0, cells := 0, slots := 0, locals := 0 }
set_option maxHeartbeats 4000000 in
set_option maxRecDepth 100000 in
theorem k_X4_empty (l : Launch) (D : va_G) (cI cZ cT : ClassId) (q : Nat → Nat) (sz : Nat) (v_cornerCount : Int32) (v_streetCount : Int32) (v_guideCount : Int32) (v_bellCount : Int32) (v_hand : Int32) (v_handTold : Int32) (res : R_X4_empty) (hf : f_X4_empty v_cornerCount v_streetCount v_guideCount v_bellCount v_hand v_handTold = some res) : Met l yX4_empty wsX4_empty rm_X4_empty (cPre D (tyz cI cZ cT) [.ref (q 0)] sz [oX4 q v_cornerCount v_streetCount v_guideCount v_bellCount v_hand v_handTold]) (cPv D (tyz cI cZ cT) (fun (u : Int32 × Int32 × Int32 × Int32 × Int32 × Int32) => u = res) (fun u => [oX4 q u.1 u.2.1 u.2.2.1 u.2.2.2.1 u.2.2.2.2.1 u.2.2.2.2.2]) [oX4 q v_cornerCount v_streetCount v_guideCount v_bellCount v_hand v_handTold] sz) 0 0 (va_A [oX4 q v_cornerCount v_streetCount v_guideCount v_bellCount v_hand v_handTold] sz) := by
  refine vx_meth_v (by decide) rfl (Nat.le_of_ble_eq_true rfl) ?_
  intro p e s m args below meth c A Q hx hb hml hown hts hK hP hD hA hS hret ls hl
  have hown : s.vm.findClass RX4 = some m.cls := hown
  have hl : lv_has ls 1 [(0, .ref (q 0))] := hl
  have hFx : CallFix p m c cX4_empty 1 s args wsX4_empty RX4 := ⟨hx, hb, hml, hown, hts⟩
  have lk43 := hts (.fieldLink RX4 43 "FogGuides$TownMap" "cornerCount" "I") (by decide +kernel)
  have iw4 : ∀ w ∈ u_ws RX4 TX4 15, w ∈ wsX4_empty := by decide +kernel
  have lk46 := hts (.fieldLink RX4 46 "FogGuides$TownMap" "streetCount" "I") (by decide +kernel)
  have lk49 := hts (.fieldLink RX4 49 "FogGuides$TownMap" "guideCount" "I") (by decide +kernel)
  have lk52 := hts (.fieldLink RX4 52 "FogGuides$TownMap" "bellCount" "I") (by decide +kernel)
  have lk39 := hts (.fieldLink RX4 39 "FogGuides$TownMap" "hand" "I") (by decide +kernel)
  have lk55 := hts (.fieldLink RX4 55 "FogGuides$TownMap" "handTold" "Z") (by decide +kernel)
  have h := hf
  unfold f_X4_empty at h
  obtain ⟨H, eH⟩ : ∃ H, H = s.heap := ⟨_, rfl⟩
  rw [← eH] at hP ⊢
  obtain ⟨locs, el⟩ : ∃ locs : List Loc, locs = [] := ⟨_, rfl⟩
  rw [← el] at hS ⊢
  have hS : va_S A s.heap H locs := by rw [eH]; exact hS
  refine lv_aload_n hx hb dX4_empty_0 rfl (lv_at hl 0 rfl) ?_
  refine lv_iconst (v := 0) hx hb dX4_empty_1 (by decide) ?_
  refine va_put (C := RX4) (T := TX4) (N := 15) (v := .int (0 : Int32)) (ty := .int) hx hb hts iw4 tyX4 tyX4_ok nmX4 hown hK hP hD hS 0 rfl rfl 0 (Nat.le_of_ble_eq_true rfl) lk43 (fun _ h9 => h9) rfl (by decide +kernel) rfl rfl (Nat.le_of_ble_eq_true rfl) dX4_empty_2 (fun H locs hP hD hS => ?_)
  have hP : va_P D vwCl [oX4 q (0 : Int32) v_streetCount v_guideCount v_bellCount v_hand v_handTold] H := hP
  have hD : va_D A [oX4 q (0 : Int32) v_streetCount v_guideCount v_bellCount v_hand v_handTold] := hD
  refine lv_aload_n hx hb dX4_empty_5 rfl (lv_at hl 0 rfl) ?_
  refine lv_iconst (v := 0) hx hb dX4_empty_6 (by decide) ?_
  refine va_put (C := RX4) (T := TX4) (N := 15) (v := .int (0 : Int32)) (ty := .int) hx hb hts iw4 tyX4 tyX4_ok nmX4 hown hK hP hD hS 0 rfl rfl 1 (Nat.le_of_ble_eq_true rfl) lk46 (fun _ h9 => h9) rfl (by decide +kernel) rfl rfl (Nat.le_of_ble_eq_true rfl) dX4_empty_7 (fun H locs hP hD hS => ?_)
  have hP : va_P D vwCl [oX4 q (0 : Int32) (0 : Int32) v_guideCount v_bellCount v_hand v_handTold] H := hP
  have hD : va_D A [oX4 q (0 : Int32) (0 : Int32) v_guideCount v_bellCount v_hand v_handTold] := hD
  refine lv_aload_n hx hb dX4_empty_10 rfl (lv_at hl 0 rfl) ?_
  refine lv_iconst (v := 0) hx hb dX4_empty_11 (by decide) ?_
  refine va_put (C := RX4) (T := TX4) (N := 15) (v := .int (0 : Int32)) (ty := .int) hx hb hts iw4 tyX4 tyX4_ok nmX4 hown hK hP hD hS 0 rfl rfl 2 (Nat.le_of_ble_eq_true rfl) lk49 (fun _ h9 => h9) rfl (by decide +kernel) rfl rfl (Nat.le_of_ble_eq_true rfl) dX4_empty_12 (fun H locs hP hD hS => ?_)
  have hP : va_P D vwCl [oX4 q (0 : Int32) (0 : Int32) (0 : Int32) v_bellCount v_hand v_handTold] H := hP
  have hD : va_D A [oX4 q (0 : Int32) (0 : Int32) (0 : Int32) v_bellCount v_hand v_handTold] := hD
  refine lv_aload_n hx hb dX4_empty_15 rfl (lv_at hl 0 rfl) ?_
  refine lv_iconst (v := 0) hx hb dX4_empty_16 (by decide) ?_
  refine va_put (C := RX4) (T := TX4) (N := 15) (v := .int (0 : Int32)) (ty := .int) hx hb hts iw4 tyX4 tyX4_ok nmX4 hown hK hP hD hS 0 rfl rfl 3 (Nat.le_of_ble_eq_true rfl) lk52 (fun _ h9 => h9) rfl (by decide +kernel) rfl rfl (Nat.le_of_ble_eq_true rfl) dX4_empty_17 (fun H locs hP hD hS => ?_)
  have hP : va_P D vwCl [oX4 q (0 : Int32) (0 : Int32) (0 : Int32) (0 : Int32) v_hand v_handTold] H := hP
  have hD : va_D A [oX4 q (0 : Int32) (0 : Int32) (0 : Int32) (0 : Int32) v_hand v_handTold] := hD
  refine lv_aload_n hx hb dX4_empty_20 rfl (lv_at hl 0 rfl) ?_
  refine lv_iconst (v := 1) hx hb dX4_empty_21 (by decide) ?_
  refine va_put (C := RX4) (T := TX4) (N := 15) (v := .int (1 : Int32)) (ty := .int) hx hb hts iw4 tyX4 tyX4_ok nmX4 hown hK hP hD hS 0 rfl rfl 4 (Nat.le_of_ble_eq_true rfl) lk39 (fun _ h9 => h9) rfl (by decide +kernel) rfl rfl (Nat.le_of_ble_eq_true rfl) dX4_empty_22 (fun H locs hP hD hS => ?_)
  have hP : va_P D vwCl [oX4 q (0 : Int32) (0 : Int32) (0 : Int32) (0 : Int32) (1 : Int32) v_handTold] H := hP
  have hD : va_D A [oX4 q (0 : Int32) (0 : Int32) (0 : Int32) (0 : Int32) (1 : Int32) v_handTold] := hD
  refine lv_aload_n hx hb dX4_empty_25 rfl (lv_at hl 0 rfl) ?_
  refine lv_iconst (v := 0) hx hb dX4_empty_26 (by decide) ?_
  refine va_put (C := RX4) (T := TX4) (N := 15) (v := .int (0 : Int32)) (ty := .boolean) hx hb hts iw4 tyX4 tyX4_ok nmX4 hown hK hP hD hS 0 rfl rfl 5 (Nat.le_of_ble_eq_true rfl) lk55 (fun _ h9 => h9) rfl (by decide +kernel) (by decide +kernel) rfl (Nat.le_of_ble_eq_true rfl) dX4_empty_27 (fun H locs hP hD hS => ?_)
  have hP : va_P D vwCl [oX4 q (0 : Int32) (0 : Int32) (0 : Int32) (0 : Int32) (1 : Int32) (0 : Int32)] H := hP
  have hD : va_D A [oX4 q (0 : Int32) (0 : Int32) (0 : Int32) (0 : Int32) (1 : Int32) (0 : Int32)] := hD
  exact hret (((0 : Int32), (0 : Int32), (0 : Int32), (0 : Int32), (1 : Int32), (0 : Int32))) H locs _ ls (Option.some.inj h) hP hD hS dX4_empty_30
abbrev rm_X4_dropWhatIsNotThere : Room := { frames := 0, cells := 0, slots := 0, locals := 0 }
set_option maxHeartbeats 4000000 in
set_option maxRecDepth 100000 in
theorem k_X4_dropWhatIsNotThere (l : Launch) (D : va_G) (cI cZ cT : ClassId) (q : Nat → Nat) (sz : Nat) (v_cornerCount : Int32) (v_streetCount : Int32) (v_guideCount : Int32) (v_bellCount : Int32) (v_hand : Int32) (v_handTold : Int32) (v_knows : Nat → Int32) (v_his : Nat → Int32) (res : R_X4_dropWhatIsNotThere) (fu : Nat) (hf : f_X4_dropWhatIsNotThere fu v_cornerCount v_streetCount v_guideCount v_knows v_his = some res) : Met l yX4_dropWhatIsNotThere wsX4_dropWhatIsNotThere rm_X4_dropWhatIsNotThere (cPre D (tyz cI cZ cT) [.ref (q 0)] sz [oX4 q v_cornerCount v_streetCount v_guideCount v_bellCount v_hand v_handTold, rA (q 13) cI 4 v_knows, rA (q 14) cI 4 v_his]) (cPv D (tyz cI cZ cT) (fun (u : (Nat → Int32) × (Nat → Int32)) => u = res) (fun u => [oX4 q v_cornerCount v_streetCount v_guideCount v_bellCount v_hand v_handTold, rA (q 13) cI 4 u.1, rA (q 14) cI 4 u.2]) [oX4 q v_cornerCount v_streetCount v_guideCount v_bellCount v_hand v_handTold, rA (q 13) cI 4 v_knows, rA (q 14) cI 4 v_his] sz) 0 0 (va_A [oX4 q v_cornerCount v_streetCount v_guideCount v_bellCount v_hand v_handTold, rA (q 13) cI 4 v_knows, rA (q 14) cI 4 v_his] sz) := by
  refine vx_meth_v (by decide) rfl (Nat.le_of_ble_eq_true rfl) ?_
  intro p e s m args below meth c A Q hx hb hml hown hts hK hP hD hA hS hret ls hl
  have hown : s.vm.findClass RX4 = some m.cls := hown
  have hl : lv_has ls 2 [(0, .ref (q 0))] := hl
  have hFx : CallFix p m c cX4_dropWhatIsNotThere 2 s args wsX4_dropWhatIsNotThere RX4 := ⟨hx, hb, hml, hown, hts⟩
  have lk49 := hts (.fieldLink RX4 49 "FogGuides$TownMap" "guideCount" "I") (by decide +kernel)
  have iw4 : ∀ w ∈ u_ws RX4 TX4 15, w ∈ wsX4_dropWhatIsNotThere := by decide +kernel
  have lk30 := hts (.fieldLink RX4 30 "FogGuides$TownMap" "knows" "[I") (by decide +kernel)
  have lk46 := hts (.fieldLink RX4 46 "FogGuides$TownMap" "streetCount" "I") (by decide +kernel)
  have lk33 := hts (.fieldLink RX4 33 "FogGuides$TownMap" "his" "[I") (by decide +kernel)
  have lk43 := hts (.fieldLink RX4 43 "FogGuides$TownMap" "cornerCount" "I") (by decide +kernel)
  have hL2 : ∀ (n2 : Nat), ∀ (v_knows : (Nat → Int32)) (v_his : (Nat → Int32)) (x1 : Int32) (H : Heap) (locs : List Loc) (ls : Array Slot), f_X4_dropWhatIsNotThere_L2 fu n2 v_cornerCount v_streetCount v_guideCount v_knows v_his x1 = some res → va_P D vwCl [oX4 q v_cornerCount v_streetCount v_guideCount v_bellCount v_hand v_handTold, rA (q 13) cI 4 v_knows, rA (q 14) cI 4 v_his] H → va_D A [oX4 q v_cornerCount v_streetCount v_guideCount v_bellCount v_hand v_handTold, rA (q 13) cI 4 v_knows, rA (q 14) cI 4 v_his] → va_S A s.heap H locs → lv_has ls 2 [(0, .ref (q 0)), (1, .int x1)] → W p l e rm_X4_dropWhatIsNotThere s m args below meth c H locs 0 0 Q (F0 m 2 ls []) := by
    intro n2
    induction n2 with
    | zero =>
      intro v_knows v_his x1 H locs ls h hP hD hS hl
      cases (show (none : Option R_X4_dropWhatIsNotThere) = some res from h)
    | succ n2 ih2 =>
      intro v_knows v_his x1 H locs ls h hP hD hS hl
      have h : f_X4_dropWhatIsNotThere_L2b fu (f_X4_dropWhatIsNotThere_L2 fu n2) v_cornerCount v_streetCount v_guideCount v_knows v_his x1 = some res := h
      unfold f_X4_dropWhatIsNotThere_L2b at h
      refine lv_iload_n hx hb dX4_dropWhatIsNotThere_2 rfl (lv_at hl 1 rfl) ?_
      refine lv_aload_n hx hb dX4_dropWhatIsNotThere_3 rfl (lv_at hl 0 rfl) ?_
      refine va_get (C := RX4) (T := TX4) (N := 15) (v := .int v_guideCount) hx hb hts iw4 hown hK hP 0 rfl rfl 2 (Nat.le_of_ble_eq_true rfl) lk49 (fun _ h9 => h9) rfl dX4_dropWhatIsNotThere_4 ?_
      refine lv_icmp_ge (tgt := 50) hx hb dX4_dropWhatIsNotThere_7 (by decide) (fun c1 => ?_) (fun c1 => ?_)
      · have h := (if_pos c1).symm.trans h
        exact hret (v_knows, v_his) H locs _ ls (Option.some.inj h) hP hD hS dX4_dropWhatIsNotThere_50
      · have h := (if_neg c1).symm.trans h
        refine lv_aload_n hx hb dX4_dropWhatIsNotThere_10 rfl (lv_at hl 0 rfl) ?_
        refine va_get (C := RX4) (T := TX4) (N := 15) (v := .ref (q 13)) hx hb hts iw4 hown hK hP 0 rfl rfl 12 (Nat.le_of_ble_eq_true rfl) lk30 (fun _ h9 => h9) rfl dX4_dropWhatIsNotThere_11 ?_
        refine lv_iload_n hx hb dX4_dropWhatIsNotThere_14 rfl (lv_at hl 1 rfl) ?_
        refine lv_dup2_11 hx hb dX4_dropWhatIsNotThere_15 rfl rfl ?_
        obtain ⟨hi2, h⟩ := xb_some h
        refine va_iald hx hb hK hP 1 0 rfl rfl hi2 dX4_dropWhatIsNotThere_16 ?_
        refine lv_iconst (v := 1) hx hb dX4_dropWhatIsNotThere_17 (by decide) ?_
        refine lv_aload_n hx hb dX4_dropWhatIsNotThere_18 rfl (lv_at hl 0 rfl) ?_
        refine va_get (C := RX4) (T := TX4) (N := 15) (v := .int v_streetCount) hx hb hts iw4 hown hK hP 0 rfl rfl 1 (Nat.le_of_ble_eq_true rfl) lk46 (fun _ h9 => h9) rfl dX4_dropWhatIsNotThere_19 ?_
        refine lv_ishl hx hb dX4_dropWhatIsNotThere_22 ?_
        refine lv_iconst (v := 1) hx hb dX4_dropWhatIsNotThere_23 (by decide) ?_
        refine lv_isub hx hb dX4_dropWhatIsNotThere_24 ?_
        refine lv_iand hx hb dX4_dropWhatIsNotThere_25 ?_
        obtain ⟨hi3, h⟩ := xb_some h
        refine va_iast hx hb hK hP hD hS 1 0 rfl rfl hi3 dX4_dropWhatIsNotThere_26 (fun H locs hP hD hS => ?_)
        have hP : va_P D vwCl [oX4 q v_cornerCount v_streetCount v_guideCount v_bellCount v_hand v_handTold, rA (q 13) cI 4 (upd v_knows x1.toNatClampNeg ((v_knows x1.toNatClampNeg) &&& (((1 : Int32) <<< (v_streetCount &&& 31)) - (1 : Int32)))), rA (q 14) cI 4 v_his] H := hP
        have hD : va_D A [oX4 q v_cornerCount v_streetCount v_guideCount v_bellCount v_hand v_handTold, rA (q 13) cI 4 (upd v_knows x1.toNatClampNeg ((v_knows x1.toNatClampNeg) &&& (((1 : Int32) <<< (v_streetCount &&& 31)) - (1 : Int32)))), rA (q 14) cI 4 v_his] := hD
        refine lv_aload_n hx hb dX4_dropWhatIsNotThere_27 rfl (lv_at hl 0 rfl) ?_
        refine va_get (C := RX4) (T := TX4) (N := 15) (v := .ref (q 14)) hx hb hts iw4 hown hK hP 0 rfl rfl 13 (Nat.le_of_ble_eq_true rfl) lk33 (fun _ h9 => h9) rfl dX4_dropWhatIsNotThere_28 ?_
        refine lv_iload_n hx hb dX4_dropWhatIsNotThere_31 rfl (lv_at hl 1 rfl) ?_
        refine lv_dup2_11 hx hb dX4_dropWhatIsNotThere_32 rfl rfl ?_
        obtain ⟨hi4, h⟩ := xb_some h
        refine va_iald hx hb hK hP 2 0 rfl rfl hi4 dX4_dropWhatIsNotThere_33 ?_
        refine lv_iconst (v := 1) hx hb dX4_dropWhatIsNotThere_34 (by decide) ?_
        refine lv_aload_n hx hb dX4_dropWhatIsNotThere_35 rfl (lv_at hl 0 rfl) ?_
        refine va_get (C := RX4) (T := TX4) (N := 15) (v := .int v_cornerCount) hx hb hts iw4 hown hK hP 0 rfl rfl 0 (Nat.le_of_ble_eq_true rfl) lk43 (fun _ h9 => h9) rfl dX4_dropWhatIsNotThere_36 ?_
        refine lv_ishl hx hb dX4_dropWhatIsNotThere_39 ?_
        refine lv_iconst (v := 1) hx hb dX4_dropWhatIsNotThere_40 (by decide) ?_
        refine lv_isub hx hb dX4_dropWhatIsNotThere_41 ?_
        refine lv_iand hx hb dX4_dropWhatIsNotThere_42 ?_
        obtain ⟨hi5, h⟩ := xb_some h
        refine va_iast hx hb hK hP hD hS 2 0 rfl rfl hi5 dX4_dropWhatIsNotThere_43 (fun H locs hP hD hS => ?_)
        have hP : va_P D vwCl [oX4 q v_cornerCount v_streetCount v_guideCount v_bellCount v_hand v_handTold, rA (q 13) cI 4 (upd v_knows x1.toNatClampNeg ((v_knows x1.toNatClampNeg) &&& (((1 : Int32) <<< (v_streetCount &&& 31)) - (1 : Int32)))), rA (q 14) cI 4 (upd v_his x1.toNatClampNeg ((v_his x1.toNatClampNeg) &&& (((1 : Int32) <<< (v_cornerCount &&& 31)) - (1 : Int32))))] H := hP
        have hD : va_D A [oX4 q v_cornerCount v_streetCount v_guideCount v_bellCount v_hand v_handTold, rA (q 13) cI 4 (upd v_knows x1.toNatClampNeg ((v_knows x1.toNatClampNeg) &&& (((1 : Int32) <<< (v_streetCount &&& 31)) - (1 : Int32)))), rA (q 14) cI 4 (upd v_his x1.toNatClampNeg ((v_his x1.toNatClampNeg) &&& (((1 : Int32) <<< (v_cornerCount &&& 31)) - (1 : Int32))))] := hD
        refine lv_iinc (v := x1 + 1) (lv' := [(1, .int (x1 + 1)), (0, .ref (q 0))]) hx hb dX4_dropWhatIsNotThere_44 hl (k := 1) rfl rfl (by decide) rfl (fun ls hl => ?_)
        refine lv_goto (tgt := 2) hx hb dX4_dropWhatIsNotThere_47 (by decide) ?_
        exact ih2 (upd v_knows x1.toNatClampNeg ((v_knows x1.toNatClampNeg) &&& (((1 : Int32) <<< (v_streetCount &&& 31)) - (1 : Int32)))) (upd v_his x1.toNatClampNeg ((v_his x1.toNatClampNeg) &&& (((1 : Int32) <<< (v_cornerCount &&& 31)) - (1 : Int32)))) (x1 + 1) H locs ls h hP hD hS (lv_sub hl [1, 0] rfl)
  have h := hf
  unfold f_X4_dropWhatIsNotThere at h
  obtain ⟨H, eH⟩ : ∃ H, H = s.heap := ⟨_, rfl⟩
  rw [← eH] at hP ⊢
  obtain ⟨locs, el⟩ : ∃ locs : List Loc, locs = [] := ⟨_, rfl⟩
  rw [← el] at hS ⊢
  have hS : va_S A s.heap H locs := by rw [eH]; exact hS
  refine lv_iconst (v := 0) hx hb dX4_dropWhatIsNotThere_0 (by decide) ?_
  refine lv_istore_n (lv' := [(1, .int (0 : Int32)), (0, .ref (q 0))]) hx hb dX4_dropWhatIsNotThere_1 rfl hl (by decide) rfl (fun ls hl => ?_)
  exact hL2 fu v_knows v_his (0 : Int32) H locs ls h hP hD hS (lv_sub hl [1, 0] rfl)
abbrev rm_X4_hasCorner : Room := { frames := 0, cells := 0, slots := 0, locals := 0 }
set_option maxHeartbeats 4000000 in
set_option maxRecDepth 100000 in
theorem k_X4_hasCorner (l : Launch) (D : va_G) (cI cZ cT : ClassId) (q : Nat → Nat) (sz : Nat) (v_cornerCount : Int32) (v_streetCount : Int32) (v_guideCount : Int32) (v_bellCount : Int32) (v_hand : Int32) (v_handTold : Int32) (x1 : Int32) (res : R_X4_hasCorner) (hf : f_X4_hasCorner v_cornerCount x1 = some res) : Met l yX4_hasCorner wsX4_hasCorner rm_X4_hasCorner (cPre D (tyz cI cZ cT) [.ref (q 0), .int x1] sz [oX4 q v_cornerCount v_streetCount v_guideCount v_bellCount v_hand v_handTold]) (cPi D (tyz cI cZ cT) (fun (r : Int32) (_ : Unit) => r = res) (fun _ => [oX4 q v_cornerCount v_streetCount v_guideCount v_bellCount v_hand v_handTold]) [oX4 q v_cornerCount v_streetCount v_guideCount v_bellCount v_hand v_handTold] sz) 0 0 (va_A [oX4 q v_cornerCount v_streetCount v_guideCount v_bellCount v_hand v_handTold] sz) := by
  refine vx_meth_z (by decide) rfl (Nat.le_of_ble_eq_true rfl) ?_
  intro p e s m args below meth c A Q hx hb hml hown hts hK hP hD hA hS hret ls hl
  have hown : s.vm.findClass RX4 = some m.cls := hown
  have hl : lv_has ls 2 [(0, .ref (q 0)), (1, .int x1)] := hl
  have hFx : CallFix p m c cX4_hasCorner 2 s args wsX4_hasCorner RX4 := ⟨hx, hb, hml, hown, hts⟩
  have lk43 := hts (.fieldLink RX4 43 "FogGuides$TownMap" "cornerCount" "I") (by decide +kernel)
  have iw4 : ∀ w ∈ u_ws RX4 TX4 15, w ∈ wsX4_hasCorner := by decide +kernel
  have h := hf
  unfold f_X4_hasCorner at h
  obtain ⟨H, eH⟩ : ∃ H, H = s.heap := ⟨_, rfl⟩
  rw [← eH] at hP ⊢
  obtain ⟨locs, el⟩ : ∃ locs : List Loc, locs = [] := ⟨_, rfl⟩
  rw [← el] at hS ⊢
  have hS : va_S A s.heap H locs := by rw [eH]; exact hS
  refine lv_iload_n hx hb dX4_hasCorner_0 rfl (lv_at hl 1 rfl) ?_
  refine lv_if_lt (tgt := 16) hx hb dX4_hasCorner_1 (by decide) (fun c1 => ?_) (fun c1 => ?_)
  · have h := (if_pos c1).symm.trans h
    refine lv_iconst (v := 0) hx hb dX4_hasCorner_16 (by decide) ?_
    exact hret (0 : Int32) () H locs _ ls (Or.inl rfl) (Option.some.inj h) hP hD hS dX4_hasCorner_17
  · have h := (if_neg c1).symm.trans h
    refine lv_iload_n hx hb dX4_hasCorner_4 rfl (lv_at hl 1 rfl) ?_
    refine lv_aload_n hx hb dX4_hasCorner_5 rfl (lv_at hl 0 rfl) ?_
    refine va_get (C := RX4) (T := TX4) (N := 15) (v := .int v_cornerCount) hx hb hts iw4 hown hK hP 0 rfl rfl 0 (Nat.le_of_ble_eq_true rfl) lk43 (fun _ h9 => h9) rfl dX4_hasCorner_6 ?_
    refine lv_icmp_ge (tgt := 16) hx hb dX4_hasCorner_9 (by decide) (fun c2 => ?_) (fun c2 => ?_)
    · have h := (if_pos c2).symm.trans h
      refine lv_iconst (v := 0) hx hb dX4_hasCorner_16 (by decide) ?_
      exact hret (0 : Int32) () H locs _ ls (Or.inl rfl) (Option.some.inj h) hP hD hS dX4_hasCorner_17
    · have h := (if_neg c2).symm.trans h
      refine lv_iconst (v := 1) hx hb dX4_hasCorner_12 (by decide) ?_
      refine lv_goto (tgt := 17) hx hb dX4_hasCorner_13 (by decide) ?_
      exact hret (1 : Int32) () H locs _ ls (Or.inr rfl) (Option.some.inj h) hP hD hS dX4_hasCorner_17
abbrev rm_X4_hasStreet : Room := { frames := 0, cells := 0, slots := 0, locals := 0 }
set_option maxHeartbeats 4000000 in
set_option maxRecDepth 100000 in
theorem k_X4_hasStreet (l : Launch) (D : va_G) (cI cZ cT : ClassId) (q : Nat → Nat) (sz : Nat) (v_cornerCount : Int32) (v_streetCount : Int32) (v_guideCount : Int32) (v_bellCount : Int32) (v_hand : Int32) (v_handTold : Int32) (x1 : Int32) (res : R_X4_hasStreet) (hf : f_X4_hasStreet v_streetCount x1 = some res) : Met l yX4_hasStreet wsX4_hasStreet rm_X4_hasStreet (cPre D (tyz cI cZ cT) [.ref (q 0), .int x1] sz [oX4 q v_cornerCount v_streetCount v_guideCount v_bellCount v_hand v_handTold]) (cPi D (tyz cI cZ cT) (fun (r : Int32) (_ : Unit) => r = res) (fun _ => [oX4 q v_cornerCount v_streetCount v_guideCount v_bellCount v_hand v_handTold]) [oX4 q v_cornerCount v_streetCount v_guideCount v_bellCount v_hand v_handTold] sz) 0 0 (va_A [oX4 q v_cornerCount v_streetCount v_guideCount v_bellCount v_hand v_handTold] sz) := by
  refine vx_meth_z (by decide) rfl (Nat.le_of_ble_eq_true rfl) ?_
  intro p e s m args below meth c A Q hx hb hml hown hts hK hP hD hA hS hret ls hl
  have hown : s.vm.findClass RX4 = some m.cls := hown
  have hl : lv_has ls 2 [(0, .ref (q 0)), (1, .int x1)] := hl
  have hFx : CallFix p m c cX4_hasStreet 2 s args wsX4_hasStreet RX4 := ⟨hx, hb, hml, hown, hts⟩
  have lk46 := hts (.fieldLink RX4 46 "FogGuides$TownMap" "streetCount" "I") (by decide +kernel)
  have iw4 : ∀ w ∈ u_ws RX4 TX4 15, w ∈ wsX4_hasStreet := by decide +kernel
  have h := hf
  unfold f_X4_hasStreet at h
  obtain ⟨H, eH⟩ : ∃ H, H = s.heap := ⟨_, rfl⟩
  rw [← eH] at hP ⊢
  obtain ⟨locs, el⟩ : ∃ locs : List Loc, locs = [] := ⟨_, rfl⟩
  rw [← el] at hS ⊢
  have hS : va_S A s.heap H locs := by rw [eH]; exact hS
  refine lv_iload_n hx hb dX4_hasStreet_0 rfl (lv_at hl 1 rfl) ?_
  refine lv_if_lt (tgt := 16) hx hb dX4_hasStreet_1 (by decide) (fun c1 => ?_) (fun c1 => ?_)
  · have h := (if_pos c1).symm.trans h
    refine lv_iconst (v := 0) hx hb dX4_hasStreet_16 (by decide) ?_
    exact hret (0 : Int32) () H locs _ ls (Or.inl rfl) (Option.some.inj h) hP hD hS dX4_hasStreet_17
  · have h := (if_neg c1).symm.trans h
    refine lv_iload_n hx hb dX4_hasStreet_4 rfl (lv_at hl 1 rfl) ?_
    refine lv_aload_n hx hb dX4_hasStreet_5 rfl (lv_at hl 0 rfl) ?_
    refine va_get (C := RX4) (T := TX4) (N := 15) (v := .int v_streetCount) hx hb hts iw4 hown hK hP 0 rfl rfl 1 (Nat.le_of_ble_eq_true rfl) lk46 (fun _ h9 => h9) rfl dX4_hasStreet_6 ?_
    refine lv_icmp_ge (tgt := 16) hx hb dX4_hasStreet_9 (by decide) (fun c2 => ?_) (fun c2 => ?_)
    · have h := (if_pos c2).symm.trans h
      refine lv_iconst (v := 0) hx hb dX4_hasStreet_16 (by decide) ?_
      exact hret (0 : Int32) () H locs _ ls (Or.inl rfl) (Option.some.inj h) hP hD hS dX4_hasStreet_17
    · have h := (if_neg c2).symm.trans h
      refine lv_iconst (v := 1) hx hb dX4_hasStreet_12 (by decide) ?_
      refine lv_goto (tgt := 17) hx hb dX4_hasStreet_13 (by decide) ?_
      exact hret (1 : Int32) () H locs _ ls (Or.inr rfl) (Option.some.inj h) hP hD hS dX4_hasStreet_17
abbrev rm_X4_hasGuide : Room := { frames := 0, cells := 0, slots := 0, locals := 0 }
set_option maxHeartbeats 4000000 in
set_option maxRecDepth 100000 in
theorem k_X4_hasGuide (l : Launch) (D : va_G) (cI cZ cT : ClassId) (q : Nat → Nat) (sz : Nat) (v_cornerCount : Int32) (v_streetCount : Int32) (v_guideCount : Int32) (v_bellCount : Int32) (v_hand : Int32) (v_handTold : Int32) (x1 : Int32) (res : R_X4_hasGuide) (hf : f_X4_hasGuide v_guideCount x1 = some res) : Met l yX4_hasGuide wsX4_hasGuide rm_X4_hasGuide (cPre D (tyz cI cZ cT) [.ref (q 0), .int x1] sz [oX4 q v_cornerCount v_streetCount v_guideCount v_bellCount v_hand v_handTold]) (cPi D (tyz cI cZ cT) (fun (r : Int32) (_ : Unit) => r = res) (fun _ => [oX4 q v_cornerCount v_streetCount v_guideCount v_bellCount v_hand v_handTold]) [oX4 q v_cornerCount v_streetCount v_guideCount v_bellCount v_hand v_handTold] sz) 0 0 (va_A [oX4 q v_cornerCount v_streetCount v_guideCount v_bellCount v_hand v_handTold] sz) := by
  refine vx_meth_z (by decide) rfl (Nat.le_of_ble_eq_true rfl) ?_
  intro p e s m args below meth c A Q hx hb hml hown hts hK hP hD hA hS hret ls hl
  have hown : s.vm.findClass RX4 = some m.cls := hown
  have hl : lv_has ls 2 [(0, .ref (q 0)), (1, .int x1)] := hl
  have hFx : CallFix p m c cX4_hasGuide 2 s args wsX4_hasGuide RX4 := ⟨hx, hb, hml, hown, hts⟩
  have lk49 := hts (.fieldLink RX4 49 "FogGuides$TownMap" "guideCount" "I") (by decide +kernel)
  have iw4 : ∀ w ∈ u_ws RX4 TX4 15, w ∈ wsX4_hasGuide := by decide +kernel
  have h := hf
  unfold f_X4_hasGuide at h
  obtain ⟨H, eH⟩ : ∃ H, H = s.heap := ⟨_, rfl⟩
  rw [← eH] at hP ⊢
  obtain ⟨locs, el⟩ : ∃ locs : List Loc, locs = [] := ⟨_, rfl⟩
  rw [← el] at hS ⊢
  have hS : va_S A s.heap H locs := by rw [eH]; exact hS
  refine lv_iload_n hx hb dX4_hasGuide_0 rfl (lv_at hl 1 rfl) ?_
  refine lv_if_lt (tgt := 16) hx hb dX4_hasGuide_1 (by decide) (fun c1 => ?_) (fun c1 => ?_)
  · have h := (if_pos c1).symm.trans h
    refine lv_iconst (v := 0) hx hb dX4_hasGuide_16 (by decide) ?_
    exact hret (0 : Int32) () H locs _ ls (Or.inl rfl) (Option.some.inj h) hP hD hS dX4_hasGuide_17
  · have h := (if_neg c1).symm.trans h
    refine lv_iload_n hx hb dX4_hasGuide_4 rfl (lv_at hl 1 rfl) ?_
    refine lv_aload_n hx hb dX4_hasGuide_5 rfl (lv_at hl 0 rfl) ?_
    refine va_get (C := RX4) (T := TX4) (N := 15) (v := .int v_guideCount) hx hb hts iw4 hown hK hP 0 rfl rfl 2 (Nat.le_of_ble_eq_true rfl) lk49 (fun _ h9 => h9) rfl dX4_hasGuide_6 ?_
    refine lv_icmp_ge (tgt := 16) hx hb dX4_hasGuide_9 (by decide) (fun c2 => ?_) (fun c2 => ?_)
    · have h := (if_pos c2).symm.trans h
      refine lv_iconst (v := 0) hx hb dX4_hasGuide_16 (by decide) ?_
      exact hret (0 : Int32) () H locs _ ls (Or.inl rfl) (Option.some.inj h) hP hD hS dX4_hasGuide_17
    · have h := (if_neg c2).symm.trans h
      refine lv_iconst (v := 1) hx hb dX4_hasGuide_12 (by decide) ?_
      refine lv_goto (tgt := 17) hx hb dX4_hasGuide_13 (by decide) ?_
      exact hret (1 : Int32) () H locs _ ls (Or.inr rfl) (Option.some.inj h) hP hD hS dX4_hasGuide_17
abbrev rm_X4_isHis : Room := { frames := 1, cells := 0, slots := 0, locals := 21 }
set_option maxHeartbeats 4000000 in
set_option maxRecDepth 100000 in
theorem k_X4_isHis (l : Launch) (D : va_G) (cI cZ cT : ClassId) (q : Nat → Nat) (sz : Nat) (v_cornerCount : Int32) (v_streetCount : Int32) (v_guideCount : Int32) (v_bellCount : Int32) (v_hand : Int32) (v_handTold : Int32) (v_his : Nat → Int32) (x1 : Int32) (x2 : Int32) (res : R_X4_isHis) (hf : f_X4_isHis v_cornerCount v_guideCount v_his x1 x2 = some res) : Met l yX4_isHis wsX4_isHis rm_X4_isHis (cPre D (tyz cI cZ cT) [.ref (q 0), .int x1, .int x2] sz [oX4 q v_cornerCount v_streetCount v_guideCount v_bellCount v_hand v_handTold, rA (q 14) cI 4 v_his]) (cPi D (tyz cI cZ cT) (fun (r : Int32) (_ : Unit) => r = res) (fun _ => [oX4 q v_cornerCount v_streetCount v_guideCount v_bellCount v_hand v_handTold, rA (q 14) cI 4 v_his]) [oX4 q v_cornerCount v_streetCount v_guideCount v_bellCount v_hand v_handTold, rA (q 14) cI 4 v_his] sz) 0 0 (va_A [oX4 q v_cornerCount v_streetCount v_guideCount v_bellCount v_hand v_handTold, rA (q 14) cI 4 v_his] sz) := by
  refine vx_meth_z (by decide) rfl (Nat.le_of_ble_eq_true rfl) ?_
  intro p e s m args below meth c A Q hx hb hml hown hts hK hP hD hA hS hret ls hl
  have hown : s.vm.findClass RX4 = some m.cls := hown
  have hl : lv_has ls 3 [(0, .ref (q 0)), (1, .int x1), (2, .int x2)] := hl
  have hFx : CallFix p m c cX4_isHis 3 s args wsX4_isHis RX4 := ⟨hx, hb, hml, hown, hts⟩
  have lk33 := hts (.fieldLink RX4 33 "FogGuides$TownMap" "his" "[I") (by decide +kernel)
  have iw4 : ∀ w ∈ u_ws RX4 TX4 15, w ∈ wsX4_isHis := by decide +kernel
  have h := hf
  unfold f_X4_isHis at h
  obtain ⟨H, eH⟩ : ∃ H, H = s.heap := ⟨_, rfl⟩
  rw [← eH] at hP ⊢
  obtain ⟨locs, el⟩ : ∃ locs : List Loc, locs = [] := ⟨_, rfl⟩
  rw [← el] at hS ⊢
  have hS : va_S A s.heap H locs := by rw [eH]; exact hS
  refine lv_aload_n hx hb dX4_isHis_0 rfl (lv_at hl 0 rfl) ?_
  refine lv_iload_n hx hb dX4_isHis_1 rfl (lv_at hl 1 rfl) ?_
  obtain ⟨r1, hr1, h⟩ := xk_some h
  refine vx_VJ (As := [.int x1]) (rest := []) hFx (k_X4_hasGuide l D cI cZ cT q H.size v_cornerCount v_streetCount v_guideCount v_bellCount v_hand v_handTold x1 r1 hr1) (cwV 1 hts gX4_isHis_X4_hasGuide rfl rfl rfl (by decide +kernel) ⟨Nat.le_of_ble_eq_true rfl, Nat.le_of_ble_eq_true rfl⟩) hK hP hD hS hA [0] rfl rfl 4 0 rfl rfl rfl hl.1 rfl (Nat.le_of_ble_eq_true rfl) dX4_isHis_2 ⟨Nat.zero_le _, Nat.zero_le _⟩ (fun H locs hP hS => ?_)
  refine lv_if_eq (tgt := 34) hx hb dX4_isHis_5 (by decide) (fun c2 => ?_) (fun c2 => ?_)
  · have h := (if_pos c2).symm.trans h
    refine lv_iconst (v := 0) hx hb dX4_isHis_34 (by decide) ?_
    exact hret (0 : Int32) () H locs _ ls (Or.inl rfl) (Option.some.inj h) hP hD hS dX4_isHis_35
  · have h := (if_neg c2).symm.trans h
    refine lv_aload_n hx hb dX4_isHis_8 rfl (lv_at hl 0 rfl) ?_
    refine lv_iload_n hx hb dX4_isHis_9 rfl (lv_at hl 2 rfl) ?_
    obtain ⟨r3, hr3, h⟩ := xk_some h
    refine vx_VJ (As := [.int x2]) (rest := []) hFx (k_X4_hasCorner l D cI cZ cT q H.size v_cornerCount v_streetCount v_guideCount v_bellCount v_hand v_handTold x2 r3 hr3) (cwV 1 hts gX4_isHis_X4_hasCorner rfl rfl rfl (by decide +kernel) ⟨Nat.le_of_ble_eq_true rfl, Nat.le_of_ble_eq_true rfl⟩) hK hP hD hS hA [0] rfl rfl 4 0 rfl rfl rfl hl.1 rfl (Nat.le_of_ble_eq_true rfl) dX4_isHis_10 ⟨Nat.zero_le _, Nat.zero_le _⟩ (fun H locs hP hS => ?_)
    refine lv_if_eq (tgt := 34) hx hb dX4_isHis_13 (by decide) (fun c4 => ?_) (fun c4 => ?_)
    · have h := (if_pos c4).symm.trans h
      refine lv_iconst (v := 0) hx hb dX4_isHis_34 (by decide) ?_
      exact hret (0 : Int32) () H locs _ ls (Or.inl rfl) (Option.some.inj h) hP hD hS dX4_isHis_35
    · have h := (if_neg c4).symm.trans h
      refine lv_aload_n hx hb dX4_isHis_16 rfl (lv_at hl 0 rfl) ?_
      refine va_get (C := RX4) (T := TX4) (N := 15) (v := .ref (q 14)) hx hb hts iw4 hown hK hP 0 rfl rfl 13 (Nat.le_of_ble_eq_true rfl) lk33 (fun _ h9 => h9) rfl dX4_isHis_17 ?_
      refine lv_iload_n hx hb dX4_isHis_20 rfl (lv_at hl 1 rfl) ?_
      obtain ⟨hi5, h⟩ := xb_some h
      refine va_iald hx hb hK hP 1 0 rfl rfl hi5 dX4_isHis_21 ?_
      refine lv_iload_n hx hb dX4_isHis_22 rfl (lv_at hl 2 rfl) ?_
      refine lv_ishr hx hb dX4_isHis_23 ?_
      refine lv_iconst (v := 1) hx hb dX4_isHis_24 (by decide) ?_
      refine lv_iand hx hb dX4_isHis_25 ?_
      refine lv_iconst (v := 1) hx hb dX4_isHis_26 (by decide) ?_
      refine lv_icmp_ne (tgt := 34) hx hb dX4_isHis_27 (by decide) (fun c6 => ?_) (fun c6 => ?_)
      · have h := (if_neg c6).symm.trans h
        refine lv_iconst (v := 0) hx hb dX4_isHis_34 (by decide) ?_
        exact hret (0 : Int32) () H locs _ ls (Or.inl rfl) (Option.some.inj h) hP hD hS dX4_isHis_35
      · have h := (if_pos c6).symm.trans h
        refine lv_iconst (v := 1) hx hb dX4_isHis_30 (by decide) ?_
        refine lv_goto (tgt := 35) hx hb dX4_isHis_31 (by decide) ?_
        exact hret (1 : Int32) () H locs _ ls (Or.inr rfl) (Option.some.inj h) hP hD hS dX4_isHis_35
abbrev rm_X4_knowsStreet : Room := { frames := 1, cells := 0, slots := 0, locals := 21 }
set_option maxHeartbeats 4000000 in
set_option maxRecDepth 100000 in
theorem k_X4_knowsStreet (l : Launch) (D : va_G) (cI cZ cT : ClassId) (q : Nat → Nat) (sz : Nat) (v_cornerCount : Int32) (v_streetCount : Int32) (v_guideCount : Int32) (v_bellCount : Int32) (v_hand : Int32) (v_handTold : Int32) (v_knows : Nat → Int32) (x1 : Int32) (x2 : Int32) (res : R_X4_knowsStreet) (hf : f_X4_knowsStreet v_streetCount v_guideCount v_knows x1 x2 = some res) : Met l yX4_knowsStreet wsX4_knowsStreet rm_X4_knowsStreet (cPre D (tyz cI cZ cT) [.ref (q 0), .int x1, .int x2] sz [oX4 q v_cornerCount v_streetCount v_guideCount v_bellCount v_hand v_handTold, rA (q 13) cI 4 v_knows]) (cPi D (tyz cI cZ cT) (fun (r : Int32) (_ : Unit) => r = res) (fun _ => [oX4 q v_cornerCount v_streetCount v_guideCount v_bellCount v_hand v_handTold, rA (q 13) cI 4 v_knows]) [oX4 q v_cornerCount v_streetCount v_guideCount v_bellCount v_hand v_handTold, rA (q 13) cI 4 v_knows] sz) 0 0 (va_A [oX4 q v_cornerCount v_streetCount v_guideCount v_bellCount v_hand v_handTold, rA (q 13) cI 4 v_knows] sz) := by
  refine vx_meth_z (by decide) rfl (Nat.le_of_ble_eq_true rfl) ?_
  intro p e s m args below meth c A Q hx hb hml hown hts hK hP hD hA hS hret ls hl
  have hown : s.vm.findClass RX4 = some m.cls := hown
  have hl : lv_has ls 3 [(0, .ref (q 0)), (1, .int x1), (2, .int x2)] := hl
  have hFx : CallFix p m c cX4_knowsStreet 3 s args wsX4_knowsStreet RX4 := ⟨hx, hb, hml, hown, hts⟩
  have lk30 := hts (.fieldLink RX4 30 "FogGuides$TownMap" "knows" "[I") (by decide +kernel)
  have iw4 : ∀ w ∈ u_ws RX4 TX4 15, w ∈ wsX4_knowsStreet := by decide +kernel
  have h := hf
  unfold f_X4_knowsStreet at h
  obtain ⟨H, eH⟩ : ∃ H, H = s.heap := ⟨_, rfl⟩
  rw [← eH] at hP ⊢
  obtain ⟨locs, el⟩ : ∃ locs : List Loc, locs = [] := ⟨_, rfl⟩
  rw [← el] at hS ⊢
  have hS : va_S A s.heap H locs := by rw [eH]; exact hS
  refine lv_aload_n hx hb dX4_knowsStreet_0 rfl (lv_at hl 0 rfl) ?_
  refine lv_iload_n hx hb dX4_knowsStreet_1 rfl (lv_at hl 1 rfl) ?_
  obtain ⟨r1, hr1, h⟩ := xk_some h
  refine vx_VJ (As := [.int x1]) (rest := []) hFx (k_X4_hasGuide l D cI cZ cT q H.size v_cornerCount v_streetCount v_guideCount v_bellCount v_hand v_handTold x1 r1 hr1) (cwV 1 hts gX4_knowsStreet_X4_hasGuide rfl rfl rfl (by decide +kernel) ⟨Nat.le_of_ble_eq_true rfl, Nat.le_of_ble_eq_true rfl⟩) hK hP hD hS hA [0] rfl rfl 4 0 rfl rfl rfl hl.1 rfl (Nat.le_of_ble_eq_true rfl) dX4_knowsStreet_2 ⟨Nat.zero_le _, Nat.zero_le _⟩ (fun H locs hP hS => ?_)
  refine lv_if_eq (tgt := 34) hx hb dX4_knowsStreet_5 (by decide) (fun c2 => ?_) (fun c2 => ?_)
  · have h := (if_pos c2).symm.trans h
    refine lv_iconst (v := 0) hx hb dX4_knowsStreet_34 (by decide) ?_
    exact hret (0 : Int32) () H locs _ ls (Or.inl rfl) (Option.some.inj h) hP hD hS dX4_knowsStreet_35
  · have h := (if_neg c2).symm.trans h
    refine lv_aload_n hx hb dX4_knowsStreet_8 rfl (lv_at hl 0 rfl) ?_
    refine lv_iload_n hx hb dX4_knowsStreet_9 rfl (lv_at hl 2 rfl) ?_
    obtain ⟨r3, hr3, h⟩ := xk_some h
    refine vx_VJ (As := [.int x2]) (rest := []) hFx (k_X4_hasStreet l D cI cZ cT q H.size v_cornerCount v_streetCount v_guideCount v_bellCount v_hand v_handTold x2 r3 hr3) (cwV 1 hts gX4_knowsStreet_X4_hasStreet rfl rfl rfl (by decide +kernel) ⟨Nat.le_of_ble_eq_true rfl, Nat.le_of_ble_eq_true rfl⟩) hK hP hD hS hA [0] rfl rfl 4 0 rfl rfl rfl hl.1 rfl (Nat.le_of_ble_eq_true rfl) dX4_knowsStreet_10 ⟨Nat.zero_le _, Nat.zero_le _⟩ (fun H locs hP hS => ?_)
    refine lv_if_eq (tgt := 34) hx hb dX4_knowsStreet_13 (by decide) (fun c4 => ?_) (fun c4 => ?_)
    · have h := (if_pos c4).symm.trans h
      refine lv_iconst (v := 0) hx hb dX4_knowsStreet_34 (by decide) ?_
      exact hret (0 : Int32) () H locs _ ls (Or.inl rfl) (Option.some.inj h) hP hD hS dX4_knowsStreet_35
    · have h := (if_neg c4).symm.trans h
      refine lv_aload_n hx hb dX4_knowsStreet_16 rfl (lv_at hl 0 rfl) ?_
      refine va_get (C := RX4) (T := TX4) (N := 15) (v := .ref (q 13)) hx hb hts iw4 hown hK hP 0 rfl rfl 12 (Nat.le_of_ble_eq_true rfl) lk30 (fun _ h9 => h9) rfl dX4_knowsStreet_17 ?_
      refine lv_iload_n hx hb dX4_knowsStreet_20 rfl (lv_at hl 1 rfl) ?_
      obtain ⟨hi5, h⟩ := xb_some h
      refine va_iald hx hb hK hP 1 0 rfl rfl hi5 dX4_knowsStreet_21 ?_
      refine lv_iload_n hx hb dX4_knowsStreet_22 rfl (lv_at hl 2 rfl) ?_
      refine lv_ishr hx hb dX4_knowsStreet_23 ?_
      refine lv_iconst (v := 1) hx hb dX4_knowsStreet_24 (by decide) ?_
      refine lv_iand hx hb dX4_knowsStreet_25 ?_
      refine lv_iconst (v := 1) hx hb dX4_knowsStreet_26 (by decide) ?_
      refine lv_icmp_ne (tgt := 34) hx hb dX4_knowsStreet_27 (by decide) (fun c6 => ?_) (fun c6 => ?_)
      · have h := (if_neg c6).symm.trans h
        refine lv_iconst (v := 0) hx hb dX4_knowsStreet_34 (by decide) ?_
        exact hret (0 : Int32) () H locs _ ls (Or.inl rfl) (Option.some.inj h) hP hD hS dX4_knowsStreet_35
      · have h := (if_pos c6).symm.trans h
        refine lv_iconst (v := 1) hx hb dX4_knowsStreet_30 (by decide) ?_
        refine lv_goto (tgt := 35) hx hb dX4_knowsStreet_31 (by decide) ?_
        exact hret (1 : Int32) () H locs _ ls (Or.inr rfl) (Option.some.inj h) hP hD hS dX4_knowsStreet_35
abbrev rm_X4_isAt : Room := { frames := 0, cells := 0, slots := 0, locals := 0 }
set_option maxHeartbeats 4000000 in
set_option maxRecDepth 100000 in
theorem k_X4_isAt (l : Launch) (D : va_G) (cI cZ cT : ClassId) (q : Nat → Nat) (sz : Nat) (v_cornerCount : Int32) (v_streetCount : Int32) (v_guideCount : Int32) (v_bellCount : Int32) (v_hand : Int32) (v_handTold : Int32) (v_ends : Nat → Int32) (v_farEnds : Nat → Int32) (x1 : Int32) (x2 : Int32) (res : R_X4_isAt) (hf : f_X4_isAt v_ends v_farEnds x1 x2 = some res) : Met l yX4_isAt wsX4_isAt rm_X4_isAt (cPre D (tyz cI cZ cT) [.ref (q 0), .int x1, .int x2] sz [oX4 q v_cornerCount v_streetCount v_guideCount v_bellCount v_hand v_handTold, rA (q 8) cI 9 v_ends, rA (q 9) cI 9 v_farEnds]) (cPi D (tyz cI cZ cT) (fun (r : Int32) (_ : Unit) => r = res) (fun _ => [oX4 q v_cornerCount v_streetCount v_guideCount v_bellCount v_hand v_handTold, rA (q 8) cI 9 v_ends, rA (q 9) cI 9 v_farEnds]) [oX4 q v_cornerCount v_streetCount v_guideCount v_bellCount v_hand v_handTold, rA (q 8) cI 9 v_ends, rA (q 9) cI 9 v_farEnds] sz) 0 0 (va_A [oX4 q v_cornerCount v_streetCount v_guideCount v_bellCount v_hand v_handTold, rA (q 8) cI 9 v_ends, rA (q 9) cI 9 v_farEnds] sz) := by
  refine vx_meth_z (by decide) rfl (Nat.le_of_ble_eq_true rfl) ?_
  intro p e s m args below meth c A Q hx hb hml hown hts hK hP hD hA hS hret ls hl
  have hown : s.vm.findClass RX4 = some m.cls := hown
  have hl : lv_has ls 3 [(0, .ref (q 0)), (1, .int x1), (2, .int x2)] := hl
  have hFx : CallFix p m c cX4_isAt 3 s args wsX4_isAt RX4 := ⟨hx, hb, hml, hown, hts⟩
  have lk15 := hts (.fieldLink RX4 15 "FogGuides$TownMap" "ends" "[I") (by decide +kernel)
  have iw4 : ∀ w ∈ u_ws RX4 TX4 15, w ∈ wsX4_isAt := by decide +kernel
  have lk18 := hts (.fieldLink RX4 18 "FogGuides$TownMap" "farEnds" "[I") (by decide +kernel)
  have h := hf
  unfold f_X4_isAt at h
  obtain ⟨H, eH⟩ : ∃ H, H = s.heap := ⟨_, rfl⟩
  rw [← eH] at hP ⊢
  obtain ⟨locs, el⟩ : ∃ locs : List Loc, locs = [] := ⟨_, rfl⟩
  rw [← el] at hS ⊢
  have hS : va_S A s.heap H locs := by rw [eH]; exact hS
  refine lv_aload_n hx hb dX4_isAt_0 rfl (lv_at hl 0 rfl) ?_
  refine va_get (C := RX4) (T := TX4) (N := 15) (v := .ref (q 8)) hx hb hts iw4 hown hK hP 0 rfl rfl 7 (Nat.le_of_ble_eq_true rfl) lk15 (fun _ h9 => h9) rfl dX4_isAt_1 ?_
  refine lv_iload_n hx hb dX4_isAt_4 rfl (lv_at hl 1 rfl) ?_
  obtain ⟨hi1, h⟩ := xb_some h
  refine va_iald hx hb hK hP 1 0 rfl rfl hi1 dX4_isAt_5 ?_
  refine lv_iload_n hx hb dX4_isAt_6 rfl (lv_at hl 2 rfl) ?_
  refine lv_icmp_eq (tgt := 20) hx hb dX4_isAt_7 (by decide) (fun c2 => ?_) (fun c2 => ?_)
  · have h := (if_pos c2).symm.trans h
    refine lv_iconst (v := 1) hx hb dX4_isAt_20 (by decide) ?_
    refine lv_goto (tgt := 25) hx hb dX4_isAt_21 (by decide) ?_
    exact hret (1 : Int32) () H locs _ ls (Or.inr rfl) (Option.some.inj h) hP hD hS dX4_isAt_25
  · have h := (if_neg c2).symm.trans h
    refine lv_aload_n hx hb dX4_isAt_10 rfl (lv_at hl 0 rfl) ?_
    refine va_get (C := RX4) (T := TX4) (N := 15) (v := .ref (q 9)) hx hb hts iw4 hown hK hP 0 rfl rfl 8 (Nat.le_of_ble_eq_true rfl) lk18 (fun _ h9 => h9) rfl dX4_isAt_11 ?_
    refine lv_iload_n hx hb dX4_isAt_14 rfl (lv_at hl 1 rfl) ?_
    obtain ⟨hi3, h⟩ := xb_some h
    refine va_iald hx hb hK hP 2 0 rfl rfl hi3 dX4_isAt_15 ?_
    refine lv_iload_n hx hb dX4_isAt_16 rfl (lv_at hl 2 rfl) ?_
    refine lv_icmp_ne (tgt := 24) hx hb dX4_isAt_17 (by decide) (fun c4 => ?_) (fun c4 => ?_)
    · have h := (if_neg c4).symm.trans h
      refine lv_iconst (v := 0) hx hb dX4_isAt_24 (by decide) ?_
      exact hret (0 : Int32) () H locs _ ls (Or.inl rfl) (Option.some.inj h) hP hD hS dX4_isAt_25
    · have h := (if_pos c4).symm.trans h
      refine lv_iconst (v := 1) hx hb dX4_isAt_20 (by decide) ?_
      refine lv_goto (tgt := 25) hx hb dX4_isAt_21 (by decide) ?_
      exact hret (1 : Int32) () H locs _ ls (Or.inr rfl) (Option.some.inj h) hP hD hS dX4_isAt_25
abbrev rm_X4_acrossFrom : Room := { frames := 0, cells := 0, slots := 0, locals := 0 }
set_option maxHeartbeats 4000000 in
set_option maxRecDepth 100000 in
theorem k_X4_acrossFrom (l : Launch) (D : va_G) (cI cZ cT : ClassId) (q : Nat → Nat) (sz : Nat) (v_cornerCount : Int32) (v_streetCount : Int32) (v_guideCount : Int32) (v_bellCount : Int32) (v_hand : Int32) (v_handTold : Int32) (v_ends : Nat → Int32) (v_farEnds : Nat → Int32) (x1 : Int32) (x2 : Int32) (res : R_X4_acrossFrom) (hf : f_X4_acrossFrom v_ends v_farEnds x1 x2 = some res) : Met l yX4_acrossFrom wsX4_acrossFrom rm_X4_acrossFrom (cPre D (tyz cI cZ cT) [.ref (q 0), .int x1, .int x2] sz [oX4 q v_cornerCount v_streetCount v_guideCount v_bellCount v_hand v_handTold, rA (q 8) cI 9 v_ends, rA (q 9) cI 9 v_farEnds]) (cPi D (tyz cI cZ cT) (fun (r : Int32) (_ : Unit) => r = res) (fun _ => [oX4 q v_cornerCount v_streetCount v_guideCount v_bellCount v_hand v_handTold, rA (q 8) cI 9 v_ends, rA (q 9) cI 9 v_farEnds]) [oX4 q v_cornerCount v_streetCount v_guideCount v_bellCount v_hand v_handTold, rA (q 8) cI 9 v_ends, rA (q 9) cI 9 v_farEnds] sz) 0 0 (va_A [oX4 q v_cornerCount v_streetCount v_guideCount v_bellCount v_hand v_handTold, rA (q 8) cI 9 v_ends, rA (q 9) cI 9 v_farEnds] sz) := by
  refine vx_meth_i (by decide) rfl (Nat.le_of_ble_eq_true rfl) ?_
  intro p e s m args below meth c A Q hx hb hml hown hts hK hP hD hA hS hret ls hl
  have hown : s.vm.findClass RX4 = some m.cls := hown
  have hl : lv_has ls 3 [(0, .ref (q 0)), (1, .int x1), (2, .int x2)] := hl
  have hFx : CallFix p m c cX4_acrossFrom 3 s args wsX4_acrossFrom RX4 := ⟨hx, hb, hml, hown, hts⟩
  have lk15 := hts (.fieldLink RX4 15 "FogGuides$TownMap" "ends" "[I") (by decide +kernel)
  have iw4 : ∀ w ∈ u_ws RX4 TX4 15, w ∈ wsX4_acrossFrom := by decide +kernel
  have lk18 := hts (.fieldLink RX4 18 "FogGuides$TownMap" "farEnds" "[I") (by decide +kernel)
  have h := hf
  unfold f_X4_acrossFrom at h
  obtain ⟨H, eH⟩ : ∃ H, H = s.heap := ⟨_, rfl⟩
  rw [← eH] at hP ⊢
  obtain ⟨locs, el⟩ : ∃ locs : List Loc, locs = [] := ⟨_, rfl⟩
  rw [← el] at hS ⊢
  have hS : va_S A s.heap H locs := by rw [eH]; exact hS
  refine lv_aload_n hx hb dX4_acrossFrom_0 rfl (lv_at hl 0 rfl) ?_
  refine va_get (C := RX4) (T := TX4) (N := 15) (v := .ref (q 8)) hx hb hts iw4 hown hK hP 0 rfl rfl 7 (Nat.le_of_ble_eq_true rfl) lk15 (fun _ h9 => h9) rfl dX4_acrossFrom_1 ?_
  refine lv_iload_n hx hb dX4_acrossFrom_4 rfl (lv_at hl 1 rfl) ?_
  obtain ⟨hi1, h⟩ := xb_some h
  refine va_iald hx hb hK hP 1 0 rfl rfl hi1 dX4_acrossFrom_5 ?_
  refine lv_iload_n hx hb dX4_acrossFrom_6 rfl (lv_at hl 2 rfl) ?_
  refine lv_icmp_ne (tgt := 19) hx hb dX4_acrossFrom_7 (by decide) (fun c2 => ?_) (fun c2 => ?_)
  · have h := (if_neg c2).symm.trans h
    refine lv_aload_n hx hb dX4_acrossFrom_19 rfl (lv_at hl 0 rfl) ?_
    refine va_get (C := RX4) (T := TX4) (N := 15) (v := .ref (q 8)) hx hb hts iw4 hown hK hP 0 rfl rfl 7 (Nat.le_of_ble_eq_true rfl) lk15 (fun _ h9 => h9) rfl dX4_acrossFrom_20 ?_
    refine lv_iload_n hx hb dX4_acrossFrom_23 rfl (lv_at hl 1 rfl) ?_
    obtain ⟨hi3, h⟩ := xb_some h
    refine va_iald hx hb hK hP 1 0 rfl rfl hi3 dX4_acrossFrom_24 ?_
    exact hret (v_ends x1.toNatClampNeg) () H locs _ ls (Option.some.inj h) hP hD hS dX4_acrossFrom_25
  · have h := (if_pos c2).symm.trans h
    refine lv_aload_n hx hb dX4_acrossFrom_10 rfl (lv_at hl 0 rfl) ?_
    refine va_get (C := RX4) (T := TX4) (N := 15) (v := .ref (q 9)) hx hb hts iw4 hown hK hP 0 rfl rfl 8 (Nat.le_of_ble_eq_true rfl) lk18 (fun _ h9 => h9) rfl dX4_acrossFrom_11 ?_
    refine lv_iload_n hx hb dX4_acrossFrom_14 rfl (lv_at hl 1 rfl) ?_
    obtain ⟨hi4, h⟩ := xb_some h
    refine va_iald hx hb hK hP 2 0 rfl rfl hi4 dX4_acrossFrom_15 ?_
    refine lv_goto (tgt := 25) hx hb dX4_acrossFrom_16 (by decide) ?_
    exact hret (v_farEnds x1.toNatClampNeg) () H locs _ ls (Option.some.inj h) hP hD hS dX4_acrossFrom_25
abbrev rm_X4_ledMinutes : Room := { frames := 0, cells := 0, slots := 0, locals := 0 }
set_option maxHeartbeats 4000000 in
set_option maxRecDepth 100000 in
theorem k_X4_ledMinutes (l : Launch) (D : va_G) (cI cZ cT : ClassId) (q : Nat → Nat) (sz : Nat) (v_cornerCount : Int32) (v_streetCount : Int32) (v_guideCount : Int32) (v_bellCount : Int32) (v_hand : Int32) (v_handTold : Int32) (v_lengths : Nat → Int32) (v_paces : Nat → Int32) (x1 : Int32) (x2 : Int32) (res : R_X4_ledMinutes) (hf : f_X4_ledMinutes v_lengths v_paces x1 x2 = some res) : Met l yX4_ledMinutes wsX4_ledMinutes rm_X4_ledMinutes (cPre D (tyz cI cZ cT) [.ref (q 0), .int x1, .int x2] sz [oX4 q v_cornerCount v_streetCount v_guideCount v_bellCount v_hand v_handTold, rA (q 10) cI 9 v_lengths, rA (q 11) cI 4 v_paces]) (cPi D (tyz cI cZ cT) (fun (r : Int32) (_ : Unit) => r = res) (fun _ => [oX4 q v_cornerCount v_streetCount v_guideCount v_bellCount v_hand v_handTold, rA (q 10) cI 9 v_lengths, rA (q 11) cI 4 v_paces]) [oX4 q v_cornerCount v_streetCount v_guideCount v_bellCount v_hand v_handTold, rA (q 10) cI 9 v_lengths, rA (q 11) cI 4 v_paces] sz) 0 0 (va_A [oX4 q v_cornerCount v_streetCount v_guideCount v_bellCount v_hand v_handTold, rA (q 10) cI 9 v_lengths, rA (q 11) cI 4 v_paces] sz) := by
  refine vx_meth_i (by decide) rfl (Nat.le_of_ble_eq_true rfl) ?_
  intro p e s m args below meth c A Q hx hb hml hown hts hK hP hD hA hS hret ls hl
  have hown : s.vm.findClass RX4 = some m.cls := hown
  have hl : lv_has ls 3 [(0, .ref (q 0)), (1, .int x1), (2, .int x2)] := hl
  have hFx : CallFix p m c cX4_ledMinutes 3 s args wsX4_ledMinutes RX4 := ⟨hx, hb, hml, hown, hts⟩
  have lk21 := hts (.fieldLink RX4 21 "FogGuides$TownMap" "lengths" "[I") (by decide +kernel)
  have iw4 : ∀ w ∈ u_ws RX4 TX4 15, w ∈ wsX4_ledMinutes := by decide +kernel
  have lk24 := hts (.fieldLink RX4 24 "FogGuides$TownMap" "paces" "[I") (by decide +kernel)
  have h := hf
  unfold f_X4_ledMinutes at h
  obtain ⟨H, eH⟩ : ∃ H, H = s.heap := ⟨_, rfl⟩
  rw [← eH] at hP ⊢
  obtain ⟨locs, el⟩ : ∃ locs : List Loc, locs = [] := ⟨_, rfl⟩
  rw [← el] at hS ⊢
  have hS : va_S A s.heap H locs := by rw [eH]; exact hS
  refine lv_aload_n hx hb dX4_ledMinutes_0 rfl (lv_at hl 0 rfl) ?_
  refine va_get (C := RX4) (T := TX4) (N := 15) (v := .ref (q 10)) hx hb hts iw4 hown hK hP 0 rfl rfl 9 (Nat.le_of_ble_eq_true rfl) lk21 (fun _ h9 => h9) rfl dX4_ledMinutes_1 ?_
  refine lv_iload_n hx hb dX4_ledMinutes_4 rfl (lv_at hl 2 rfl) ?_
  obtain ⟨hi1, h⟩ := xb_some h
  refine va_iald hx hb hK hP 1 0 rfl rfl hi1 dX4_ledMinutes_5 ?_
  refine lv_aload_n hx hb dX4_ledMinutes_6 rfl (lv_at hl 0 rfl) ?_
  refine va_get (C := RX4) (T := TX4) (N := 15) (v := .ref (q 11)) hx hb hts iw4 hown hK hP 0 rfl rfl 10 (Nat.le_of_ble_eq_true rfl) lk24 (fun _ h9 => h9) rfl dX4_ledMinutes_7 ?_
  refine lv_iload_n hx hb dX4_ledMinutes_10 rfl (lv_at hl 1 rfl) ?_
  obtain ⟨hi2, h⟩ := xb_some h
  refine va_iald hx hb hK hP 2 0 rfl rfl hi2 dX4_ledMinutes_11 ?_
  refine lv_iadd hx hb dX4_ledMinutes_12 ?_
  exact hret ((v_lengths x2.toNatClampNeg) + (v_paces x1.toNatClampNeg)) () H locs _ ls (Option.some.inj h) hP hD hS dX4_ledMinutes_13
abbrev rm_X4_isThick : Room := { frames := 0, cells := 0, slots := 0, locals := 0 }
set_option maxHeartbeats 4000000 in
set_option maxRecDepth 100000 in
theorem k_X4_isThick (l : Launch) (D : va_G) (cI cZ cT : ClassId) (q : Nat → Nat) (sz : Nat) (v_cornerCount : Int32) (v_streetCount : Int32) (v_guideCount : Int32) (v_bellCount : Int32) (v_hand : Int32) (v_handTold : Int32) (v_bells : Nat → Int32) (x1 : Int32) (res : R_X4_isThick) (hf : f_X4_isThick v_bellCount v_bells x1 = some res) : Met l yX4_isThick wsX4_isThick rm_X4_isThick (cPre D (tyz cI cZ cT) [.ref (q 0), .int x1] sz [oX4 q v_cornerCount v_streetCount v_guideCount v_bellCount v_hand v_handTold, rA (q 15) cI 8 v_bells]) (cPi D (tyz cI cZ cT) (fun (r : Int32) (_ : Unit) => r = res) (fun _ => [oX4 q v_cornerCount v_streetCount v_guideCount v_bellCount v_hand v_handTold, rA (q 15) cI 8 v_bells]) [oX4 q v_cornerCount v_streetCount v_guideCount v_bellCount v_hand v_handTold, rA (q 15) cI 8 v_bells] sz) 0 0 (va_A [oX4 q v_cornerCount v_streetCount v_guideCount v_bellCount v_hand v_handTold, rA (q 15) cI 8 v_bells] sz) := by
  refine vx_meth_z (by decide) rfl (Nat.le_of_ble_eq_true rfl) ?_
  intro p e s m args below meth c A Q hx hb hml hown hts hK hP hD hA hS hret ls hl
  have hown : s.vm.findClass RX4 = some m.cls := hown
  have hl : lv_has ls 2 [(0, .ref (q 0)), (1, .int x1)] := hl
  have hFx : CallFix p m c cX4_isThick 2 s args wsX4_isThick RX4 := ⟨hx, hb, hml, hown, hts⟩
  have lk52 := hts (.fieldLink RX4 52 "FogGuides$TownMap" "bellCount" "I") (by decide +kernel)
  have iw4 : ∀ w ∈ u_ws RX4 TX4 15, w ∈ wsX4_isThick := by decide +kernel
  have lk36 := hts (.fieldLink RX4 36 "FogGuides$TownMap" "bells" "[I") (by decide +kernel)
  have h := hf
  unfold f_X4_isThick at h
  obtain ⟨H, eH⟩ : ∃ H, H = s.heap := ⟨_, rfl⟩
  rw [← eH] at hP ⊢
  obtain ⟨locs, el⟩ : ∃ locs : List Loc, locs = [] := ⟨_, rfl⟩
  rw [← el] at hS ⊢
  have hS : va_S A s.heap H locs := by rw [eH]; exact hS
  refine lv_aload_n hx hb dX4_isThick_0 rfl (lv_at hl 0 rfl) ?_
  refine va_get (C := RX4) (T := TX4) (N := 15) (v := .int v_bellCount) hx hb hts iw4 hown hK hP 0 rfl rfl 3 (Nat.le_of_ble_eq_true rfl) lk52 (fun _ h9 => h9) rfl dX4_isThick_1 ?_
  refine lv_iconst (v := 1) hx hb dX4_isThick_4 (by decide) ?_
  refine lv_icmp_lt (tgt := 12) hx hb dX4_isThick_5 (by decide) (fun c1 => ?_) (fun c1 => ?_)
  · have h := (if_pos c1).symm.trans h
    refine lv_iconst (v := 1) hx hb dX4_isThick_12 (by decide) ?_
    exact hret (1 : Int32) () H locs _ ls (Or.inr rfl) (Option.some.inj h) hP hD hS dX4_isThick_13
  · have h := (if_neg c1).symm.trans h
    refine lv_iload_n hx hb dX4_isThick_8 rfl (lv_at hl 1 rfl) ?_
    refine lv_if_ge (tgt := 14) hx hb dX4_isThick_9 (by decide) (fun c2 => ?_) (fun c2 => ?_)
    · have h := (if_pos c2).symm.trans h
      refine lv_aload_n hx hb dX4_isThick_14 rfl (lv_at hl 0 rfl) ?_
      refine va_get (C := RX4) (T := TX4) (N := 15) (v := .ref (q 15)) hx hb hts iw4 hown hK hP 0 rfl rfl 14 (Nat.le_of_ble_eq_true rfl) lk36 (fun _ h9 => h9) rfl dX4_isThick_15 ?_
      refine lv_iload_n hx hb dX4_isThick_18 rfl (lv_at hl 1 rfl) ?_
      refine lv_bipush (v := 10) hx hb dX4_isThick_19 (by decide) ?_
      refine lv_idiv hx hb dX4_isThick_21 (by decide) ?_
      refine lv_aload_n hx hb dX4_isThick_22 rfl (lv_at hl 0 rfl) ?_
      refine va_get (C := RX4) (T := TX4) (N := 15) (v := .int v_bellCount) hx hb hts iw4 hown hK hP 0 rfl rfl 3 (Nat.le_of_ble_eq_true rfl) lk52 (fun _ h9 => h9) rfl dX4_isThick_23 ?_
      obtain ⟨hd5, h⟩ := xd_some h
      refine lv_irem hx hb dX4_isThick_26 hd5 ?_
      obtain ⟨hi3, h⟩ := xb_some h
      refine va_iald hx hb hK hP 1 0 rfl rfl hi3 dX4_isThick_27 ?_
      refine lv_iconst (v := 1) hx hb dX4_isThick_28 (by decide) ?_
      refine lv_icmp_ne (tgt := 36) hx hb dX4_isThick_29 (by decide) (fun c4 => ?_) (fun c4 => ?_)
      · have h := (if_neg c4).symm.trans h
        refine lv_iconst (v := 0) hx hb dX4_isThick_36 (by decide) ?_
        exact hret (0 : Int32) () H locs _ ls (Or.inl rfl) (Option.some.inj h) hP hD hS dX4_isThick_37
      · have h := (if_pos c4).symm.trans h
        refine lv_iconst (v := 1) hx hb dX4_isThick_32 (by decide) ?_
        refine lv_goto (tgt := 37) hx hb dX4_isThick_33 (by decide) ?_
        exact hret (1 : Int32) () H locs _ ls (Or.inr rfl) (Option.some.inj h) hP hD hS dX4_isThick_37
    · have h := (if_neg c2).symm.trans h
      refine lv_iconst (v := 1) hx hb dX4_isThick_12 (by decide) ?_
      exact hret (1 : Int32) () H locs _ ls (Or.inr rfl) (Option.some.inj h) hP hD hS dX4_isThick_13
abbrev rm_X4_thinFrom : Room := { frames := 1, cells := 0, slots := 0, locals := 21 }
set_option maxHeartbeats 4000000 in
set_option maxRecDepth 100000 in
theorem k_X4_thinFrom (l : Launch) (D : va_G) (cI cZ cT : ClassId) (q : Nat → Nat) (sz : Nat) (v_cornerCount : Int32) (v_streetCount : Int32) (v_guideCount : Int32) (v_bellCount : Int32) (v_hand : Int32) (v_handTold : Int32) (v_bells : Nat → Int32) (x1 : Int32) (res : R_X4_thinFrom) (fu : Nat) (hf : f_X4_thinFrom fu v_bellCount v_bells x1 = some res) : Met l yX4_thinFrom wsX4_thinFrom rm_X4_thinFrom (cPre D (tyz cI cZ cT) [.ref (q 0), .int x1] sz [oX4 q v_cornerCount v_streetCount v_guideCount v_bellCount v_hand v_handTold, rA (q 15) cI 8 v_bells]) (cPi D (tyz cI cZ cT) (fun (r : Int32) (_ : Unit) => r = res) (fun _ => [oX4 q v_cornerCount v_streetCount v_guideCount v_bellCount v_hand v_handTold, rA (q 15) cI 8 v_bells]) [oX4 q v_cornerCount v_streetCount v_guideCount v_bellCount v_hand v_handTold, rA (q 15) cI 8 v_bells] sz) 0 0 (va_A [oX4 q v_cornerCount v_streetCount v_guideCount v_bellCount v_hand v_handTold, rA (q 15) cI 8 v_bells] sz) := by
  refine vx_meth_i (by decide) rfl (Nat.le_of_ble_eq_true rfl) ?_
  intro p e s m args below meth c A Q hx hb hml hown hts hK hP hD hA hS hret ls hl
  have hown : s.vm.findClass RX4 = some m.cls := hown
  have hl : lv_has ls 3 [(0, .ref (q 0)), (1, .int x1)] := hl
  have hFx : CallFix p m c cX4_thinFrom 3 s args wsX4_thinFrom RX4 := ⟨hx, hb, hml, hown, hts⟩
  have hL2 : ∀ (n2 : Nat), ∀ (x1 : Int32) (x2 : Int32) (H : Heap) (locs : List Loc) (ls : Array Slot), f_X4_thinFrom_L2 fu n2 v_bellCount v_bells x1 x2 = some res → va_P D vwCl [oX4 q v_cornerCount v_streetCount v_guideCount v_bellCount v_hand v_handTold, rA (q 15) cI 8 v_bells] H → va_D A [oX4 q v_cornerCount v_streetCount v_guideCount v_bellCount v_hand v_handTold, rA (q 15) cI 8 v_bells] → va_S A s.heap H locs → lv_has ls 3 [(0, .ref (q 0)), (1, .int x1), (2, .int x2)] → W p l e rm_X4_thinFrom s m args below meth c H locs 0 0 Q (F0 m 2 ls []) := by
    intro n2
    induction n2 with
    | zero =>
      intro x1 x2 H locs ls h hP hD hS hl
      cases (show (none : Option R_X4_thinFrom) = some res from h)
    | succ n2 ih2 =>
      intro x1 x2 H locs ls h hP hD hS hl
      have h : f_X4_thinFrom_L2b fu (f_X4_thinFrom_L2 fu n2) v_bellCount v_bells x1 x2 = some res := h
      unfold f_X4_thinFrom_L2b at h
      refine lv_iload_n hx hb dX4_thinFrom_2 rfl (lv_at hl 2 rfl) ?_
      refine lv_bipush (v := 9) hx hb dX4_thinFrom_3 (by decide) ?_
      refine lv_icmp_ge (tgt := 24) hx hb dX4_thinFrom_5 (by decide) (fun c1 => ?_) (fun c1 => ?_)
      · have h := (if_pos c1).symm.trans h
        refine lv_iload_n hx hb dX4_thinFrom_24 rfl (lv_at hl 2 rfl) ?_
        exact hret x2 () H locs _ ls (Option.some.inj h) hP hD hS dX4_thinFrom_25
      · have h := (if_neg c1).symm.trans h
        refine lv_aload_n hx hb dX4_thinFrom_8 rfl (lv_at hl 0 rfl) ?_
        refine lv_iload_n hx hb dX4_thinFrom_9 rfl (lv_at hl 1 rfl) ?_
        refine lv_iload_n hx hb dX4_thinFrom_10 rfl (lv_at hl 2 rfl) ?_
        refine lv_iadd hx hb dX4_thinFrom_11 ?_
        obtain ⟨r2, hr2, h⟩ := xk_some h
        refine vx_VJ (As := [.int (x1 + x2)]) (rest := []) hFx (k_X4_isThick l D cI cZ cT q H.size v_cornerCount v_streetCount v_guideCount v_bellCount v_hand v_handTold v_bells (x1 + x2) r2 hr2) (cwV 1 hts gX4_thinFrom_X4_isThick rfl rfl rfl (by decide +kernel) ⟨Nat.le_of_ble_eq_true rfl, Nat.le_of_ble_eq_true rfl⟩) hK hP hD hS hA [0, 1] rfl rfl 4 0 rfl rfl rfl hl.1 rfl (Nat.le_of_ble_eq_true rfl) dX4_thinFrom_12 ⟨Nat.zero_le _, Nat.zero_le _⟩ (fun H locs hP hS => ?_)
        refine lv_if_ne (tgt := 24) hx hb dX4_thinFrom_15 (by decide) (fun c3 => ?_) (fun c3 => ?_)
        · have h := (if_neg c3).symm.trans h
          refine lv_iload_n hx hb dX4_thinFrom_24 rfl (lv_at hl 2 rfl) ?_
          exact hret x2 () H locs _ ls (Option.some.inj h) hP hD hS dX4_thinFrom_25
        · have h := (if_pos c3).symm.trans h
          refine lv_iinc (v := x2 + 1) (lv' := [(2, .int (x2 + 1)), (0, .ref (q 0)), (1, .int x1)]) hx hb dX4_thinFrom_18 hl (k := 2) rfl rfl (by decide) rfl (fun ls hl => ?_)
          refine lv_goto (tgt := 2) hx hb dX4_thinFrom_21 (by decide) ?_
          exact ih2 x1 (x2 + 1) H locs ls h hP hD hS (lv_sub hl [1, 2, 0] rfl)
  have h := hf
  unfold f_X4_thinFrom at h
  obtain ⟨H, eH⟩ : ∃ H, H = s.heap := ⟨_, rfl⟩
  rw [← eH] at hP ⊢
  obtain ⟨locs, el⟩ : ∃ locs : List Loc, locs = [] := ⟨_, rfl⟩
  rw [← el] at hS ⊢
  have hS : va_S A s.heap H locs := by rw [eH]; exact hS
  refine lv_iconst (v := 0) hx hb dX4_thinFrom_0 (by decide) ?_
  refine lv_istore_n (lv' := [(2, .int (0 : Int32)), (0, .ref (q 0)), (1, .int x1)]) hx hb dX4_thinFrom_1 rfl hl (by decide) rfl (fun ls hl => ?_)
  exact hL2 fu x1 (0 : Int32) H locs ls h hP hD hS (lv_sub hl [1, 2, 0] rfl)
abbrev rm_X4_nextTo : Room := { frames := 1, cells := 0, slots := 0, locals := 22 }
set_option maxHeartbeats 4000000 in
set_option maxRecDepth 100000 in
theorem k_X4_nextTo (l : Launch) (D : va_G) (cI cZ cT : ClassId) (q : Nat → Nat) (sz : Nat) (v_cornerCount : Int32) (v_streetCount : Int32) (v_guideCount : Int32) (v_bellCount : Int32) (v_hand : Int32) (v_handTold : Int32) (v_ends : Nat → Int32) (v_farEnds : Nat → Int32) (x1 : Int32) (res : R_X4_nextTo) (fu : Nat) (hf : f_X4_nextTo fu v_streetCount v_ends v_farEnds x1 = some res) : Met l yX4_nextTo wsX4_nextTo rm_X4_nextTo (cPre D (tyz cI cZ cT) [.ref (q 0), .int x1] sz [oX4 q v_cornerCount v_streetCount v_guideCount v_bellCount v_hand v_handTold, rA (q 8) cI 9 v_ends, rA (q 9) cI 9 v_farEnds]) (cPi D (tyz cI cZ cT) (fun (r : Int32) (_ : Unit) => r = res) (fun _ => [oX4 q v_cornerCount v_streetCount v_guideCount v_bellCount v_hand v_handTold, rA (q 8) cI 9 v_ends, rA (q 9) cI 9 v_farEnds]) [oX4 q v_cornerCount v_streetCount v_guideCount v_bellCount v_hand v_handTold, rA (q 8) cI 9 v_ends, rA (q 9) cI 9 v_farEnds] sz) 0 0 (va_A [oX4 q v_cornerCount v_streetCount v_guideCount v_bellCount v_hand v_handTold, rA (q 8) cI 9 v_ends, rA (q 9) cI 9 v_farEnds] sz) := by
  refine vx_meth_i (by decide) rfl (Nat.le_of_ble_eq_true rfl) ?_
  intro p e s m args below meth c A Q hx hb hml hown hts hK hP hD hA hS hret ls hl
  have hown : s.vm.findClass RX4 = some m.cls := hown
  have hl : lv_has ls 4 [(0, .ref (q 0)), (1, .int x1)] := hl
  have hFx : CallFix p m c cX4_nextTo 4 s args wsX4_nextTo RX4 := ⟨hx, hb, hml, hown, hts⟩
  have lk46 := hts (.fieldLink RX4 46 "FogGuides$TownMap" "streetCount" "I") (by decide +kernel)
  have iw4 : ∀ w ∈ u_ws RX4 TX4 15, w ∈ wsX4_nextTo := by decide +kernel
  have hL4 : ∀ (n4 : Nat), ∀ (x1 : Int32) (x2 : Int32) (x3 : Int32) (H : Heap) (locs : List Loc) (ls : Array Slot), f_X4_nextTo_L4 fu n4 v_streetCount v_ends v_farEnds x1 x2 x3 = some res → va_P D vwCl [oX4 q v_cornerCount v_streetCount v_guideCount v_bellCount v_hand v_handTold, rA (q 8) cI 9 v_ends, rA (q 9) cI 9 v_farEnds] H → va_D A [oX4 q v_cornerCount v_streetCount v_guideCount v_bellCount v_hand v_handTold, rA (q 8) cI 9 v_ends, rA (q 9) cI 9 v_farEnds] → va_S A s.heap H locs → lv_has ls 4 [(0, .ref (q 0)), (1, .int x1), (2, .int x2), (3, .int x3)] → W p l e rm_X4_nextTo s m args below meth c H locs 0 0 Q (F0 m 4 ls []) := by
    intro n4
    induction n4 with
    | zero =>
      intro x1 x2 x3 H locs ls h hP hD hS hl
      cases (show (none : Option R_X4_nextTo) = some res from h)
    | succ n4 ih4 =>
      intro x1 x2 x3 H locs ls h hP hD hS hl
      have h : f_X4_nextTo_L4b fu (f_X4_nextTo_L4 fu n4) v_streetCount v_ends v_farEnds x1 x2 x3 = some res := h
      unfold f_X4_nextTo_L4b at h
      refine lv_iload_n hx hb dX4_nextTo_4 rfl (lv_at hl 3 rfl) ?_
      refine lv_aload_n hx hb dX4_nextTo_5 rfl (lv_at hl 0 rfl) ?_
      refine va_get (C := RX4) (T := TX4) (N := 15) (v := .int v_streetCount) hx hb hts iw4 hown hK hP 0 rfl rfl 1 (Nat.le_of_ble_eq_true rfl) lk46 (fun _ h9 => h9) rfl dX4_nextTo_6 ?_
      refine lv_icmp_ge (tgt := 38) hx hb dX4_nextTo_9 (by decide) (fun c1 => ?_) (fun c1 => ?_)
      · have h := (if_pos c1).symm.trans h
        refine lv_iload_n hx hb dX4_nextTo_38 rfl (lv_at hl 2 rfl) ?_
        exact hret x2 () H locs _ ls (Option.some.inj h) hP hD hS dX4_nextTo_39
      · have h := (if_neg c1).symm.trans h
        refine lv_aload_n hx hb dX4_nextTo_12 rfl (lv_at hl 0 rfl) ?_
        refine lv_iload_n hx hb dX4_nextTo_13 rfl (lv_at hl 3 rfl) ?_
        refine lv_iload_n hx hb dX4_nextTo_14 rfl (lv_at hl 1 rfl) ?_
        obtain ⟨r2, hr2, h⟩ := xk_some h
        refine vx_VJ (As := [.int x3, .int x1]) (rest := []) hFx (k_X4_isAt l D cI cZ cT q H.size v_cornerCount v_streetCount v_guideCount v_bellCount v_hand v_handTold v_ends v_farEnds x3 x1 r2 hr2) (cwV 2 hts gX4_nextTo_X4_isAt rfl rfl rfl (by decide +kernel) ⟨Nat.le_of_ble_eq_true rfl, Nat.le_of_ble_eq_true rfl⟩) hK hP hD hS hA [0, 1, 2] rfl rfl 4 0 rfl rfl rfl hl.1 rfl (Nat.le_of_ble_eq_true rfl) dX4_nextTo_15 ⟨Nat.zero_le _, Nat.zero_le _⟩ (fun H locs hP hS => ?_)
        refine lv_if_eq (tgt := 32) hx hb dX4_nextTo_18 (by decide) (fun c3 => ?_) (fun c3 => ?_)
        · have h := (if_pos c3).symm.trans h
          refine lv_iinc (v := x3 + 1) (lv' := [(3, .int (x3 + 1)), (0, .ref (q 0)), (1, .int x1), (2, .int x2)]) hx hb dX4_nextTo_32 hl (k := 3) rfl rfl (by decide) rfl (fun ls hl => ?_)
          refine lv_goto (tgt := 4) hx hb dX4_nextTo_35 (by decide) ?_
          exact ih4 x1 x2 (x3 + 1) H locs ls h hP hD hS (lv_sub hl [1, 2, 3, 0] rfl)
        · have h := (if_neg c3).symm.trans h
          refine lv_iload_n hx hb dX4_nextTo_21 rfl (lv_at hl 2 rfl) ?_
          refine lv_iconst (v := 1) hx hb dX4_nextTo_22 (by decide) ?_
          refine lv_aload_n hx hb dX4_nextTo_23 rfl (lv_at hl 0 rfl) ?_
          refine lv_iload_n hx hb dX4_nextTo_24 rfl (lv_at hl 3 rfl) ?_
          refine lv_iload_n hx hb dX4_nextTo_25 rfl (lv_at hl 1 rfl) ?_
          obtain ⟨r4, hr4, h⟩ := xk_some h
          refine vx_VJ (As := [.int x3, .int x1]) (rest := [.int (1 : Int32), .int x2]) hFx (k_X4_acrossFrom l D cI cZ cT q H.size v_cornerCount v_streetCount v_guideCount v_bellCount v_hand v_handTold v_ends v_farEnds x3 x1 r4 hr4) (cwV 2 hts gX4_nextTo_X4_acrossFrom rfl rfl rfl (by decide +kernel) ⟨Nat.le_of_ble_eq_true rfl, Nat.le_of_ble_eq_true rfl⟩) hK hP hD hS hA [0, 1, 2] rfl rfl 4 0 rfl rfl rfl hl.1 rfl (Nat.le_of_ble_eq_true rfl) dX4_nextTo_26 ⟨Nat.zero_le _, Nat.zero_le _⟩ (fun H locs hP hS => ?_)
          refine lv_ishl hx hb dX4_nextTo_29 ?_
          refine lv_ior hx hb dX4_nextTo_30 ?_
          refine lv_istore_n (lv' := [(2, .int (x2 ||| ((1 : Int32) <<< (r4 &&& 31)))), (0, .ref (q 0)), (1, .int x1), (3, .int x3)]) hx hb dX4_nextTo_31 rfl hl (by decide) rfl (fun ls hl => ?_)
          refine lv_iinc (v := x3 + 1) (lv' := [(3, .int (x3 + 1)), (2, .int (x2 ||| ((1 : Int32) <<< (r4 &&& 31)))), (0, .ref (q 0)), (1, .int x1)]) hx hb dX4_nextTo_32 hl (k := 3) rfl rfl (by decide) rfl (fun ls hl => ?_)
          refine lv_goto (tgt := 4) hx hb dX4_nextTo_35 (by decide) ?_
          exact ih4 x1 (x2 ||| ((1 : Int32) <<< (r4 &&& 31))) (x3 + 1) H locs ls h hP hD hS (lv_sub hl [2, 3, 1, 0] rfl)
  have h := hf
  unfold f_X4_nextTo at h
  obtain ⟨H, eH⟩ : ∃ H, H = s.heap := ⟨_, rfl⟩
  rw [← eH] at hP ⊢
  obtain ⟨locs, el⟩ : ∃ locs : List Loc, locs = [] := ⟨_, rfl⟩
  rw [← el] at hS ⊢
  have hS : va_S A s.heap H locs := by rw [eH]; exact hS
  refine lv_iconst (v := 0) hx hb dX4_nextTo_0 (by decide) ?_
  refine lv_istore_n (lv' := [(2, .int (0 : Int32)), (0, .ref (q 0)), (1, .int x1)]) hx hb dX4_nextTo_1 rfl hl (by decide) rfl (fun ls hl => ?_)
  refine lv_iconst (v := 0) hx hb dX4_nextTo_2 (by decide) ?_
  refine lv_istore_n (lv' := [(3, .int (0 : Int32)), (2, .int (0 : Int32)), (0, .ref (q 0)), (1, .int x1)]) hx hb dX4_nextTo_3 rfl hl (by decide) rfl (fun ls hl => ?_)
  exact hL4 fu x1 (0 : Int32) (0 : Int32) H locs ls h hP hD hS (lv_sub hl [2, 3, 1, 0] rfl)
abbrev rm_X4_reachedBy : Room := { frames := 0, cells := 0, slots := 0, locals := 0 }
set_option maxHeartbeats 4000000 in
set_option maxRecDepth 100000 in
theorem k_X4_reachedBy (l : Launch) (D : va_G) (cI cZ cT : ClassId) (q : Nat → Nat) (sz : Nat) (v_cornerCount : Int32) (v_streetCount : Int32) (v_guideCount : Int32) (v_bellCount : Int32) (v_hand : Int32) (v_handTold : Int32) (v_ends : Nat → Int32) (v_farEnds : Nat → Int32) (x1 : Int32) (x2 : Int32) (res : R_X4_reachedBy) (fu : Nat) (hf : f_X4_reachedBy fu v_streetCount v_ends v_farEnds x1 x2 = some res) : Met l yX4_reachedBy wsX4_reachedBy rm_X4_reachedBy (cPre D (tyz cI cZ cT) [.ref (q 0), .int x1, .int x2] sz [oX4 q v_cornerCount v_streetCount v_guideCount v_bellCount v_hand v_handTold, rA (q 8) cI 9 v_ends, rA (q 9) cI 9 v_farEnds]) (cPi D (tyz cI cZ cT) (fun (r : Int32) (_ : Unit) => r = res) (fun _ => [oX4 q v_cornerCount v_streetCount v_guideCount v_bellCount v_hand v_handTold, rA (q 8) cI 9 v_ends, rA (q 9) cI 9 v_farEnds]) [oX4 q v_cornerCount v_streetCount v_guideCount v_bellCount v_hand v_handTold, rA (q 8) cI 9 v_ends, rA (q 9) cI 9 v_farEnds] sz) 0 0 (va_A [oX4 q v_cornerCount v_streetCount v_guideCount v_bellCount v_hand v_handTold, rA (q 8) cI 9 v_ends, rA (q 9) cI 9 v_farEnds] sz) := by
  refine vx_meth_i (by decide) rfl (Nat.le_of_ble_eq_true rfl) ?_
  intro p e s m args below meth c A Q hx hb hml hown hts hK hP hD hA hS hret ls hl
  have hown : s.vm.findClass RX4 = some m.cls := hown
  have hl : lv_has ls 7 [(0, .ref (q 0)), (1, .int x1), (2, .int x2)] := hl
  have hFx : CallFix p m c cX4_reachedBy 7 s args wsX4_reachedBy RX4 := ⟨hx, hb, hml, hown, hts⟩
  have lk46 := hts (.fieldLink RX4 46 "FogGuides$TownMap" "streetCount" "I") (by decide +kernel)
  have iw4 : ∀ w ∈ u_ws RX4 TX4 15, w ∈ wsX4_reachedBy := by decide +kernel
  have lk15 := hts (.fieldLink RX4 15 "FogGuides$TownMap" "ends" "[I") (by decide +kernel)
  have lk18 := hts (.fieldLink RX4 18 "FogGuides$TownMap" "farEnds" "[I") (by decide +kernel)
  have hL5 : ∀ (n5 : Nat), ∀ (x1 : Int32) (x3 : Int32) (x4 : Int32) (H : Heap) (locs : List Loc) (ls : Array Slot), f_X4_reachedBy_L5 fu n5 v_streetCount v_ends v_farEnds x1 x3 x4 = some res → va_P D vwCl [oX4 q v_cornerCount v_streetCount v_guideCount v_bellCount v_hand v_handTold, rA (q 8) cI 9 v_ends, rA (q 9) cI 9 v_farEnds] H → va_D A [oX4 q v_cornerCount v_streetCount v_guideCount v_bellCount v_hand v_handTold, rA (q 8) cI 9 v_ends, rA (q 9) cI 9 v_farEnds] → va_S A s.heap H locs → lv_has ls 7 [(0, .ref (q 0)), (1, .int x1), (3, .int x3), (4, .int x4)] → W p l e rm_X4_reachedBy s m args below meth c H locs 0 0 Q (F0 m 5 ls []) := by
    intro n5
    induction n5 with
    | zero =>
      intro x1 x3 x4 H locs ls h hP hD hS hl
      cases (show (none : Option R_X4_reachedBy) = some res from h)
    | succ n5 ih5 =>
      have hL15 : ∀ (n15 : Nat), ∀ (x1 : Int32) (x3 : Int32) (x4 : Int32) (x5 : Int32) (H : Heap) (locs : List Loc) (ls : Array Slot), f_X4_reachedBy_L15 fu (f_X4_reachedBy_L5 fu n5) n15 v_streetCount v_ends v_farEnds x1 x3 x4 x5 = some res → va_P D vwCl [oX4 q v_cornerCount v_streetCount v_guideCount v_bellCount v_hand v_handTold, rA (q 8) cI 9 v_ends, rA (q 9) cI 9 v_farEnds] H → va_D A [oX4 q v_cornerCount v_streetCount v_guideCount v_bellCount v_hand v_handTold, rA (q 8) cI 9 v_ends, rA (q 9) cI 9 v_farEnds] → va_S A s.heap H locs → lv_has ls 7 [(0, .ref (q 0)), (1, .int x1), (3, .int x3), (4, .int x4), (5, .int x5)] → W p l e rm_X4_reachedBy s m args below meth c H locs 0 0 Q (F0 m 15 ls []) := by
        intro n15
        induction n15 with
        | zero =>
          intro x1 x3 x4 x5 H locs ls h hP hD hS hl
          cases (show (none : Option R_X4_reachedBy) = some res from h)
        | succ n15 ih15 =>
          intro x1 x3 x4 x5 H locs ls h hP hD hS hl
          have h : f_X4_reachedBy_L15b fu (f_X4_reachedBy_L5 fu n5) (f_X4_reachedBy_L15 fu (f_X4_reachedBy_L5 fu n5) n15) v_streetCount v_ends v_farEnds x1 x3 x4 x5 = some res := h
          unfold f_X4_reachedBy_L15b at h
          refine lv_iload hx hb dX4_reachedBy_15 (lv_at hl 4 rfl) ?_
          refine lv_aload_n hx hb dX4_reachedBy_17 rfl (lv_at hl 0 rfl) ?_
          refine va_get (C := RX4) (T := TX4) (N := 15) (v := .int v_streetCount) hx hb hts iw4 hown hK hP 0 rfl rfl 1 (Nat.le_of_ble_eq_true rfl) lk46 (fun _ h9 => h9) rfl dX4_reachedBy_18 ?_
          refine lv_icmp_ge (tgt := 73) hx hb dX4_reachedBy_21 (by decide) (fun c1 => ?_) (fun c1 => ?_)
          · have h := (if_pos c1).symm.trans h
            refine lv_iinc (v := x4 + 1) (lv' := [(4, .int (x4 + 1)), (0, .ref (q 0)), (1, .int x1), (3, .int x3), (5, .int x5)]) hx hb dX4_reachedBy_73 hl (k := 3) rfl rfl (by decide) rfl (fun ls hl => ?_)
            refine lv_goto (tgt := 5) hx hb dX4_reachedBy_76 (by decide) ?_
            exact ih5 x1 x3 (x4 + 1) H locs ls h hP hD hS (lv_sub hl [1, 2, 3, 0] rfl)
          · have h := (if_neg c1).symm.trans h
            refine lv_iconst (v := 1) hx hb dX4_reachedBy_24 (by decide) ?_
            refine lv_aload_n hx hb dX4_reachedBy_25 rfl (lv_at hl 0 rfl) ?_
            refine va_get (C := RX4) (T := TX4) (N := 15) (v := .ref (q 8)) hx hb hts iw4 hown hK hP 0 rfl rfl 7 (Nat.le_of_ble_eq_true rfl) lk15 (fun _ h9 => h9) rfl dX4_reachedBy_26 ?_
            refine lv_iload hx hb dX4_reachedBy_29 (lv_at hl 4 rfl) ?_
            obtain ⟨hi2, h⟩ := xb_some h
            refine va_iald hx hb hK hP 1 0 rfl rfl hi2 dX4_reachedBy_31 ?_
            refine lv_ishl hx hb dX4_reachedBy_32 ?_
            refine lv_iconst (v := 1) hx hb dX4_reachedBy_33 (by decide) ?_
            refine lv_aload_n hx hb dX4_reachedBy_34 rfl (lv_at hl 0 rfl) ?_
            refine va_get (C := RX4) (T := TX4) (N := 15) (v := .ref (q 9)) hx hb hts iw4 hown hK hP 0 rfl rfl 8 (Nat.le_of_ble_eq_true rfl) lk18 (fun _ h9 => h9) rfl dX4_reachedBy_35 ?_
            refine lv_iload hx hb dX4_reachedBy_38 (lv_at hl 4 rfl) ?_
            obtain ⟨hi3, h⟩ := xb_some h
            refine va_iald hx hb hK hP 2 0 rfl rfl hi3 dX4_reachedBy_40 ?_
            refine lv_ishl hx hb dX4_reachedBy_41 ?_
            refine lv_ior hx hb dX4_reachedBy_42 ?_
            refine lv_istore (lv' := [(6, .int (((1 : Int32) <<< ((v_ends x5.toNatClampNeg) &&& 31)) ||| ((1 : Int32) <<< ((v_farEnds x5.toNatClampNeg) &&& 31)))), (0, .ref (q 0)), (1, .int x1), (3, .int x3), (4, .int x4), (5, .int x5)]) hx hb dX4_reachedBy_43 hl (by decide) rfl (fun ls hl => ?_)
            refine lv_iload_n hx hb dX4_reachedBy_45 rfl (lv_at hl 2 rfl) ?_
            refine lv_iload hx hb dX4_reachedBy_46 (lv_at hl 5 rfl) ?_
            refine lv_ishr hx hb dX4_reachedBy_48 ?_
            refine lv_iconst (v := 1) hx hb dX4_reachedBy_49 (by decide) ?_
            refine lv_iand hx hb dX4_reachedBy_50 ?_
            refine lv_iconst (v := 1) hx hb dX4_reachedBy_51 (by decide) ?_
            refine lv_icmp_ne (tgt := 67) hx hb dX4_reachedBy_52 (by decide) (fun c4 => ?_) (fun c4 => ?_)
            · have h := (if_neg c4).symm.trans h
              refine lv_iinc (v := x5 + 1) (lv' := [(5, .int (x5 + 1)), (6, .int (((1 : Int32) <<< ((v_ends x5.toNatClampNeg) &&& 31)) ||| ((1 : Int32) <<< ((v_farEnds x5.toNatClampNeg) &&& 31)))), (0, .ref (q 0)), (1, .int x1), (3, .int x3), (4, .int x4)]) hx hb dX4_reachedBy_67 hl (k := 5) rfl rfl (by decide) rfl (fun ls hl => ?_)
              refine lv_goto (tgt := 15) hx hb dX4_reachedBy_70 (by decide) ?_
              exact ih15 x1 x3 x4 (x5 + 1) H locs ls h hP hD hS (lv_sub hl [2, 3, 4, 5, 0] rfl)
            · have h := (if_pos c4).symm.trans h
              refine lv_iload_n hx hb dX4_reachedBy_55 rfl (lv_at hl 3 rfl) ?_
              refine lv_iload hx hb dX4_reachedBy_56 (lv_at hl 0 rfl) ?_
              refine lv_iand hx hb dX4_reachedBy_58 ?_
              refine lv_if_eq (tgt := 67) hx hb dX4_reachedBy_59 (by decide) (fun c5 => ?_) (fun c5 => ?_)
              · have h := (if_pos c5).symm.trans h
                refine lv_iinc (v := x5 + 1) (lv' := [(5, .int (x5 + 1)), (6, .int (((1 : Int32) <<< ((v_ends x5.toNatClampNeg) &&& 31)) ||| ((1 : Int32) <<< ((v_farEnds x5.toNatClampNeg) &&& 31)))), (0, .ref (q 0)), (1, .int x1), (3, .int x3), (4, .int x4)]) hx hb dX4_reachedBy_67 hl (k := 5) rfl rfl (by decide) rfl (fun ls hl => ?_)
                refine lv_goto (tgt := 15) hx hb dX4_reachedBy_70 (by decide) ?_
                exact ih15 x1 x3 x4 (x5 + 1) H locs ls h hP hD hS (lv_sub hl [2, 3, 4, 5, 0] rfl)
              · have h := (if_neg c5).symm.trans h
                refine lv_iload_n hx hb dX4_reachedBy_62 rfl (lv_at hl 3 rfl) ?_
                refine lv_iload hx hb dX4_reachedBy_63 (lv_at hl 0 rfl) ?_
                refine lv_ior hx hb dX4_reachedBy_65 ?_
                refine lv_istore_n (lv' := [(3, .int (x3 ||| (((1 : Int32) <<< ((v_ends x5.toNatClampNeg) &&& 31)) ||| ((1 : Int32) <<< ((v_farEnds x5.toNatClampNeg) &&& 31))))), (6, .int (((1 : Int32) <<< ((v_ends x5.toNatClampNeg) &&& 31)) ||| ((1 : Int32) <<< ((v_farEnds x5.toNatClampNeg) &&& 31)))), (0, .ref (q 0)), (1, .int x1), (4, .int x4), (5, .int x5)]) hx hb dX4_reachedBy_66 rfl hl (by decide) rfl (fun ls hl => ?_)
                refine lv_iinc (v := x5 + 1) (lv' := [(5, .int (x5 + 1)), (3, .int (x3 ||| (((1 : Int32) <<< ((v_ends x5.toNatClampNeg) &&& 31)) ||| ((1 : Int32) <<< ((v_farEnds x5.toNatClampNeg) &&& 31))))), (6, .int (((1 : Int32) <<< ((v_ends x5.toNatClampNeg) &&& 31)) ||| ((1 : Int32) <<< ((v_farEnds x5.toNatClampNeg) &&& 31)))), (0, .ref (q 0)), (1, .int x1), (4, .int x4)]) hx hb dX4_reachedBy_67 hl (k := 5) rfl rfl (by decide) rfl (fun ls hl => ?_)
                refine lv_goto (tgt := 15) hx hb dX4_reachedBy_70 (by decide) ?_
                exact ih15 x1 (x3 ||| (((1 : Int32) <<< ((v_ends x5.toNatClampNeg) &&& 31)) ||| ((1 : Int32) <<< ((v_farEnds x5.toNatClampNeg) &&& 31)))) x4 (x5 + 1) H locs ls h hP hD hS (lv_sub hl [3, 4, 1, 5, 0] rfl)
      intro x1 x3 x4 H locs ls h hP hD hS hl
      have h : f_X4_reachedBy_L5b fu (f_X4_reachedBy_L5 fu n5) v_streetCount v_ends v_farEnds x1 x3 x4 = some res := h
      unfold f_X4_reachedBy_L5b at h
      refine lv_iload hx hb dX4_reachedBy_5 (lv_at hl 3 rfl) ?_
      refine lv_bipush (v := 7) hx hb dX4_reachedBy_7 (by decide) ?_
      refine lv_icmp_ge (tgt := 79) hx hb dX4_reachedBy_9 (by decide) (fun c6 => ?_) (fun c6 => ?_)
      · have h := (if_pos c6).symm.trans h
        refine lv_iload_n hx hb dX4_reachedBy_79 rfl (lv_at hl 2 rfl) ?_
        exact hret x3 () H locs _ ls (Option.some.inj h) hP hD hS dX4_reachedBy_80
      · have h := (if_neg c6).symm.trans h
        refine lv_iconst (v := 0) hx hb dX4_reachedBy_12 (by decide) ?_
        refine lv_istore (lv' := [(5, .int (0 : Int32)), (0, .ref (q 0)), (1, .int x1), (3, .int x3), (4, .int x4)]) hx hb dX4_reachedBy_13 hl (by decide) rfl (fun ls hl => ?_)
        exact hL15 fu x1 x3 x4 (0 : Int32) H locs ls h hP hD hS (lv_sub hl [1, 2, 3, 4, 0] rfl)
  have h := hf
  unfold f_X4_reachedBy at h
  obtain ⟨H, eH⟩ : ∃ H, H = s.heap := ⟨_, rfl⟩
  rw [← eH] at hP ⊢
  obtain ⟨locs, el⟩ : ∃ locs : List Loc, locs = [] := ⟨_, rfl⟩
  rw [← el] at hS ⊢
  have hS : va_S A s.heap H locs := by rw [eH]; exact hS
  refine lv_iload_n hx hb dX4_reachedBy_0 rfl (lv_at hl 2 rfl) ?_
  refine lv_istore_n (lv' := [(3, .int x2), (0, .ref (q 0)), (1, .int x1), (2, .int x2)]) hx hb dX4_reachedBy_1 rfl hl (by decide) rfl (fun ls hl => ?_)
  refine lv_iconst (v := 0) hx hb dX4_reachedBy_2 (by decide) ?_
  refine lv_istore (lv' := [(4, .int (0 : Int32)), (3, .int x2), (0, .ref (q 0)), (1, .int x1), (2, .int x2)]) hx hb dX4_reachedBy_3 hl (by decide) rfl (fun ls hl => ?_)
  exact hL5 fu x1 x2 (0 : Int32) H locs ls h hP hD hS (lv_sub hl [2, 3, 1, 0] rfl)
abbrev rm_X4_leadsFor (n : Nat) : Room := { frames := 2 + n, cells := 0, slots := 0, locals := 43 + n * 29 }
set_option maxHeartbeats 4000000 in
set_option maxRecDepth 100000 in
theorem k_X4_leadsFor (l : Launch) (D : va_G) (cI cZ cT : ClassId) (fu : Nat) : ∀ (n : Nat) (q : Nat → Nat) (sz : Nat) (v_cornerCount : Int32) (v_streetCount : Int32) (v_guideCount : Int32) (v_bellCount : Int32) (v_hand : Int32) (v_handTold : Int32) (v_ends : Nat → Int32) (v_farEnds : Nat → Int32) (v_lengths : Nat → Int32) (v_paces : Nat → Int32) (v_fees : Nat → Int32) (v_knows : Nat → Int32) (x1 : Int32) (x2 : Int32) (x3 : Int32) (x4 : Int32) (x5 : Int32) (x6 : Int32) (res : R_X4_leadsFor) (hf : f_X4_leadsFor fu n v_streetCount v_guideCount v_ends v_farEnds v_lengths v_paces v_fees v_knows x1 x2 x3 x4 x5 x6 = some res), Met l yX4_leadsFor wsX4_leadsFor (rm_X4_leadsFor n) (cPre D (tyz cI cZ cT) [.ref (q 0), .int x1, .int x2, .int x3, .int x4, .int x5, .int x6] sz [oX4 q v_cornerCount v_streetCount v_guideCount v_bellCount v_hand v_handTold, rA (q 8) cI 9 v_ends, rA (q 9) cI 9 v_farEnds, rA (q 10) cI 9 v_lengths, rA (q 11) cI 4 v_paces, rA (q 12) cI 4 v_fees, rA (q 13) cI 4 v_knows]) (cPi D (tyz cI cZ cT) (fun (r : Int32) (_ : Unit) => r = res) (fun _ => [oX4 q v_cornerCount v_streetCount v_guideCount v_bellCount v_hand v_handTold, rA (q 8) cI 9 v_ends, rA (q 9) cI 9 v_farEnds, rA (q 10) cI 9 v_lengths, rA (q 11) cI 4 v_paces, rA (q 12) cI 4 v_fees, rA (q 13) cI 4 v_knows]) [oX4 q v_cornerCount v_streetCount v_guideCount v_bellCount v_hand v_handTold, rA (q 8) cI 9 v_ends, rA (q 9) cI 9 v_farEnds, rA (q 10) cI 9 v_lengths, rA (q 11) cI 4 v_paces, rA (q 12) cI 4 v_fees, rA (q 13) cI 4 v_knows] sz) 0 0 (va_A [oX4 q v_cornerCount v_streetCount v_guideCount v_bellCount v_hand v_handTold, rA (q 8) cI 9 v_ends, rA (q 9) cI 9 v_farEnds, rA (q 10) cI 9 v_lengths, rA (q 11) cI 4 v_paces, rA (q 12) cI 4 v_fees, rA (q 13) cI 4 v_knows] sz) := by
  intro n
  induction n with
  | zero =>
    intro q sz v_cornerCount v_streetCount v_guideCount v_bellCount v_hand v_handTold v_ends v_farEnds v_lengths v_paces v_fees v_knows x1 x2 x3 x4 x5 x6 res hf
    cases (show (none : Option R_X4_leadsFor) = some res from hf)
  | succ n IH =>
    intro q sz v_cornerCount v_streetCount v_guideCount v_bellCount v_hand v_handTold v_ends v_farEnds v_lengths v_paces v_fees v_knows x1 x2 x3 x4 x5 x6 res hf
    refine vx_meth_z (by decide) rfl (Nat.le_of_ble_eq_true rfl) ?_
    intro p e s m args below meth c A Q hx hb hml hown hts hK hP hD hA hS hret ls hl
    have hown : s.vm.findClass RX4 = some m.cls := hown
    have hl : lv_has ls 10 [(0, .ref (q 0)), (1, .int x1), (2, .int x2), (3, .int x3), (4, .int x4), (5, .int x5), (6, .int x6)] := hl
    have hFx : CallFix p m c cX4_leadsFor 10 s args wsX4_leadsFor RX4 := ⟨hx, hb, hml, hown, hts⟩
    have lk46 := hts (.fieldLink RX4 46 "FogGuides$TownMap" "streetCount" "I") (by decide +kernel)
    have iw4 : ∀ w ∈ u_ws RX4 TX4 15, w ∈ wsX4_leadsFor := by decide +kernel
    have lk27 := hts (.fieldLink RX4 27 "FogGuides$TownMap" "fees" "[I") (by decide +kernel)
    have hL41 : ∀ (n41 : Nat), ∀ (x1 : Int32) (x2 : Int32) (x3 : Int32) (x4 : Int32) (x6 : Int32) (x7 : Int32) (x8 : Int32) (H : Heap) (locs : List Loc) (ls : Array Slot), f_X4_leadsFor_L41 fu (f_X4_leadsFor fu n) n41 v_streetCount v_guideCount v_ends v_farEnds v_lengths v_paces v_fees v_knows x1 x2 x3 x4 x6 x7 x8 = some res → va_P D vwCl [oX4 q v_cornerCount v_streetCount v_guideCount v_bellCount v_hand v_handTold, rA (q 8) cI 9 v_ends, rA (q 9) cI 9 v_farEnds, rA (q 10) cI 9 v_lengths, rA (q 11) cI 4 v_paces, rA (q 12) cI 4 v_fees, rA (q 13) cI 4 v_knows] H → va_D A [oX4 q v_cornerCount v_streetCount v_guideCount v_bellCount v_hand v_handTold, rA (q 8) cI 9 v_ends, rA (q 9) cI 9 v_farEnds, rA (q 10) cI 9 v_lengths, rA (q 11) cI 4 v_paces, rA (q 12) cI 4 v_fees, rA (q 13) cI 4 v_knows] → va_S A s.heap H locs → lv_has ls 10 [(0, .ref (q 0)), (1, .int x1), (2, .int x2), (3, .int x3), (4, .int x4), (6, .int x6), (7, .int x7), (8, .int x8)] → W p l e (rm_X4_leadsFor (n + 1)) s m args below meth c H locs 0 0 Q (F0 m 41 ls []) := by
      intro n41
      induction n41 with
      | zero =>
        intro x1 x2 x3 x4 x6 x7 x8 H locs ls h hP hD hS hl
        cases (show (none : Option R_X4_leadsFor) = some res from h)
      | succ n41 ih41 =>
        intro x1 x2 x3 x4 x6 x7 x8 H locs ls h hP hD hS hl
        have h : f_X4_leadsFor_L41b fu (f_X4_leadsFor fu n) (f_X4_leadsFor_L41 fu (f_X4_leadsFor fu n) n41) v_streetCount v_guideCount v_ends v_farEnds v_lengths v_paces v_fees v_knows x1 x2 x3 x4 x6 x7 x8 = some res := h
        unfold f_X4_leadsFor_L41b at h
        refine lv_iload hx hb dX4_leadsFor_41 (lv_at hl 7 rfl) ?_
        refine lv_aload_n hx hb dX4_leadsFor_43 rfl (lv_at hl 0 rfl) ?_
        refine va_get (C := RX4) (T := TX4) (N := 15) (v := .int v_streetCount) hx hb hts iw4 hown hK hP 0 rfl rfl 1 (Nat.le_of_ble_eq_true rfl) lk46 (fun _ h9 => h9) rfl dX4_leadsFor_44 ?_
        refine lv_icmp_ge (tgt := 138) hx hb dX4_leadsFor_47 (by decide) (fun c1 => ?_) (fun c1 => ?_)
        · have h := (if_pos c1).symm.trans h
          refine lv_iconst (v := 0) hx hb dX4_leadsFor_138 (by decide) ?_
          exact hret (0 : Int32) () H locs _ ls (Or.inl rfl) (Option.some.inj h) hP hD hS dX4_leadsFor_139
        · have h := (if_neg c1).symm.trans h
          refine lv_aload_n hx hb dX4_leadsFor_50 rfl (lv_at hl 0 rfl) ?_
          refine lv_iload_n hx hb dX4_leadsFor_51 rfl (lv_at hl 1 rfl) ?_
          refine lv_iload hx hb dX4_leadsFor_52 (lv_at hl 7 rfl) ?_
          obtain ⟨r2, hr2, h⟩ := xk_some h
          refine vx_VJ (As := [.int x1, .int x8]) (rest := []) hFx (k_X4_knowsStreet l D cI cZ cT q H.size v_cornerCount v_streetCount v_guideCount v_bellCount v_hand v_handTold v_knows x1 x8 r2 hr2) (cwV 2 hts gX4_leadsFor_X4_knowsStreet rfl rfl rfl (by decide +kernel) ⟨by simp only [rm_X4_leadsFor, rm_X4_knowsStreet]; omega, by simp only [rm_X4_leadsFor, rm_X4_knowsStreet]; omega⟩) hK hP hD hS hA [0, 6] rfl rfl 4 0 rfl rfl rfl hl.1 rfl (Nat.le_of_ble_eq_true rfl) dX4_leadsFor_54 ⟨Nat.zero_le _, Nat.zero_le _⟩ (fun H locs hP hS => ?_)
          refine lv_if_eq (tgt := 132) hx hb dX4_leadsFor_57 (by decide) (fun c3 => ?_) (fun c3 => ?_)
          · have h := (if_pos c3).symm.trans h
            refine lv_iinc (v := x8 + 1) (lv' := [(8, .int (x8 + 1)), (0, .ref (q 0)), (1, .int x1), (2, .int x2), (3, .int x3), (4, .int x4), (6, .int x6), (7, .int x7)]) hx hb dX4_leadsFor_132 hl (k := 7) rfl rfl (by decide) rfl (fun ls hl => ?_)
            refine lv_goto (tgt := 41) hx hb dX4_leadsFor_135 (by decide) ?_
            exact ih41 x1 x2 x3 x4 x6 x7 (x8 + 1) H locs ls h hP hD hS (lv_sub hl [1, 2, 3, 4, 5, 6, 7, 0] rfl)
          · have h := (if_neg c3).symm.trans h
            refine lv_aload_n hx hb dX4_leadsFor_60 rfl (lv_at hl 0 rfl) ?_
            refine lv_iload hx hb dX4_leadsFor_61 (lv_at hl 7 rfl) ?_
            refine lv_iload_n hx hb dX4_leadsFor_63 rfl (lv_at hl 2 rfl) ?_
            obtain ⟨r4, hr4, h⟩ := xk_some h
            refine vx_VJ (As := [.int x8, .int x2]) (rest := []) hFx (k_X4_isAt l D cI cZ cT q H.size v_cornerCount v_streetCount v_guideCount v_bellCount v_hand v_handTold v_ends v_farEnds x8 x2 r4 hr4) (cwV 2 hts gX4_leadsFor_X4_isAt rfl rfl rfl (by decide +kernel) ⟨by simp only [rm_X4_leadsFor, rm_X4_isAt]; omega, by simp only [rm_X4_leadsFor, rm_X4_isAt]; omega⟩) hK hP hD hS hA [0, 1, 2] rfl rfl 4 0 rfl rfl rfl hl.1 rfl (Nat.le_of_ble_eq_true rfl) dX4_leadsFor_64 ⟨Nat.zero_le _, Nat.zero_le _⟩ (fun H locs hP hS => ?_)
            refine lv_if_ne (tgt := 73) hx hb dX4_leadsFor_67 (by decide) (fun c5 => ?_) (fun c5 => ?_)
            · have h := (if_neg c5).symm.trans h
              refine lv_aload_n hx hb dX4_leadsFor_73 rfl (lv_at hl 0 rfl) ?_
              refine lv_iload hx hb dX4_leadsFor_74 (lv_at hl 7 rfl) ?_
              refine lv_iload_n hx hb dX4_leadsFor_76 rfl (lv_at hl 2 rfl) ?_
              obtain ⟨r6, hr6, h⟩ := xk_some h
              refine vx_VJ (As := [.int x8, .int x2]) (rest := []) hFx (k_X4_acrossFrom l D cI cZ cT q H.size v_cornerCount v_streetCount v_guideCount v_bellCount v_hand v_handTold v_ends v_farEnds x8 x2 r6 hr6) (cwV 2 hts gX4_leadsFor_X4_acrossFrom rfl rfl rfl (by decide +kernel) ⟨by simp only [rm_X4_leadsFor, rm_X4_acrossFrom]; omega, by simp only [rm_X4_leadsFor, rm_X4_acrossFrom]; omega⟩) hK hP hD hS hA [0, 1, 2] rfl rfl 4 0 rfl rfl rfl hl.1 rfl (Nat.le_of_ble_eq_true rfl) dX4_leadsFor_77 ⟨Nat.zero_le _, Nat.zero_le _⟩ (fun H locs hP hS => ?_)
              refine lv_istore (lv' := [(9, .int r6), (0, .ref (q 0)), (1, .int x1), (2, .int x2), (3, .int x3), (4, .int x4), (6, .int x6), (7, .int x7), (8, .int x8)]) hx hb dX4_leadsFor_80 hl (by decide) rfl (fun ls hl => ?_)
              refine lv_iload hx hb dX4_leadsFor_82 (lv_at hl 7 rfl) ?_
              refine lv_iload hx hb dX4_leadsFor_84 (lv_at hl 0 rfl) ?_
              refine lv_ishr hx hb dX4_leadsFor_86 ?_
              refine lv_iconst (v := 1) hx hb dX4_leadsFor_87 (by decide) ?_
              refine lv_iand hx hb dX4_leadsFor_88 ?_
              refine lv_iconst (v := 1) hx hb dX4_leadsFor_89 (by decide) ?_
              refine lv_icmp_ne (tgt := 96) hx hb dX4_leadsFor_90 (by decide) (fun c7 => ?_) (fun c7 => ?_)
              · have h := (if_neg c7).symm.trans h
                refine lv_aload_n hx hb dX4_leadsFor_96 rfl (lv_at hl 1 rfl) ?_
                refine lv_iload_n hx hb dX4_leadsFor_97 rfl (lv_at hl 2 rfl) ?_
                refine lv_iload hx hb dX4_leadsFor_98 (lv_at hl 0 rfl) ?_
                refine lv_iload_n hx hb dX4_leadsFor_100 rfl (lv_at hl 4 rfl) ?_
                refine lv_iload hx hb dX4_leadsFor_101 (lv_at hl 5 rfl) ?_
                refine lv_aload_n hx hb dX4_leadsFor_103 rfl (lv_at hl 1 rfl) ?_
                refine va_get (C := RX4) (T := TX4) (N := 15) (v := .ref (q 12)) hx hb hts iw4 hown hK hP 0 rfl rfl 11 (Nat.le_of_ble_eq_true rfl) lk27 (fun _ h9 => h9) rfl dX4_leadsFor_104 ?_
                refine lv_iload_n hx hb dX4_leadsFor_107 rfl (lv_at hl 2 rfl) ?_
                obtain ⟨hi8, h⟩ := xb_some h
                refine va_iald hx hb hK hP 5 0 rfl rfl hi8 dX4_leadsFor_108 ?_
                refine lv_aload_n hx hb dX4_leadsFor_109 rfl (lv_at hl 1 rfl) ?_
                refine lv_iload_n hx hb dX4_leadsFor_110 rfl (lv_at hl 2 rfl) ?_
                refine lv_iload hx hb dX4_leadsFor_111 (lv_at hl 8 rfl) ?_
                obtain ⟨r9, hr9, h⟩ := xk_some h
                refine vx_VJ (As := [.int x1, .int x8]) (rest := [.int (v_fees x1.toNatClampNeg), .int x4, .int x3, .int r6, .int x1, .ref (q 0)]) hFx (k_X4_ledMinutes l D cI cZ cT q H.size v_cornerCount v_streetCount v_guideCount v_bellCount v_hand v_handTold v_lengths v_paces x1 x8 r9 hr9) (cwV 2 hts gX4_leadsFor_X4_ledMinutes rfl rfl rfl (by decide +kernel) ⟨by simp only [rm_X4_leadsFor, rm_X4_ledMinutes]; omega, by simp only [rm_X4_leadsFor, rm_X4_ledMinutes]; omega⟩) hK hP hD hS hA [0, 3, 4] rfl rfl 4 0 rfl rfl rfl hl.1 rfl (Nat.le_of_ble_eq_true rfl) dX4_leadsFor_113 ⟨Nat.zero_le _, Nat.zero_le _⟩ (fun H locs hP hS => ?_)
                refine lv_imul hx hb dX4_leadsFor_116 ?_
                refine lv_isub hx hb dX4_leadsFor_117 ?_
                refine lv_iload hx hb dX4_leadsFor_118 (lv_at hl 7 rfl) ?_
                refine lv_iload hx hb dX4_leadsFor_120 (lv_at hl 6 rfl) ?_
                refine lv_iconst (v := 1) hx hb dX4_leadsFor_122 (by decide) ?_
                refine lv_iadd hx hb dX4_leadsFor_123 ?_
                obtain ⟨r10, hr10, h⟩ := xk_some h
                refine vx_VJ (As := [.int x1, .int r6, .int x3, .int (x4 - ((v_fees x1.toNatClampNeg) * r9)), .int x7, .int (x6 + (1 : Int32))]) (rest := []) hFx (IH q H.size v_cornerCount v_streetCount v_guideCount v_bellCount v_hand v_handTold v_ends v_farEnds v_lengths v_paces v_fees v_knows x1 r6 x3 (x4 - ((v_fees x1.toNatClampNeg) * r9)) x7 (x6 + (1 : Int32)) r10 hr10) (cwV 6 hts gX4_leadsFor_X4_leadsFor rfl rfl rfl (by decide +kernel) ⟨by simp only [rm_X4_leadsFor, rm_X4_leadsFor]; omega, by simp only [rm_X4_leadsFor, rm_X4_leadsFor]; omega⟩) hK hP hD hS hA [0, 1, 2, 3, 4, 5, 6] rfl rfl 4 0 rfl rfl rfl hl.1 rfl (Nat.le_of_ble_eq_true rfl) dX4_leadsFor_124 ⟨Nat.zero_le _, Nat.zero_le _⟩ (fun H locs hP hS => ?_)
                refine lv_if_eq (tgt := 132) hx hb dX4_leadsFor_127 (by decide) (fun c11 => ?_) (fun c11 => ?_)
                · have h := (if_pos c11).symm.trans h
                  refine lv_iinc (v := x8 + 1) (lv' := [(8, .int (x8 + 1)), (9, .int r6), (0, .ref (q 0)), (1, .int x1), (2, .int x2), (3, .int x3), (4, .int x4), (6, .int x6), (7, .int x7)]) hx hb dX4_leadsFor_132 hl (k := 8) rfl rfl (by decide) rfl (fun ls hl => ?_)
                  refine lv_goto (tgt := 41) hx hb dX4_leadsFor_135 (by decide) ?_
                  exact ih41 x1 x2 x3 x4 x6 x7 (x8 + 1) H locs ls h hP hD hS (lv_sub hl [2, 3, 4, 5, 6, 7, 8, 0] rfl)
                · have h := (if_neg c11).symm.trans h
                  refine lv_iconst (v := 1) hx hb dX4_leadsFor_130 (by decide) ?_
                  exact hret (1 : Int32) () H locs _ ls (Or.inr rfl) (Option.some.inj h) hP hD hS dX4_leadsFor_131
              · have h := (if_pos c7).symm.trans h
                refine lv_goto (tgt := 132) hx hb dX4_leadsFor_93 (by decide) ?_
                refine lv_iinc (v := x8 + 1) (lv' := [(8, .int (x8 + 1)), (9, .int r6), (0, .ref (q 0)), (1, .int x1), (2, .int x2), (3, .int x3), (4, .int x4), (6, .int x6), (7, .int x7)]) hx hb dX4_leadsFor_132 hl (k := 8) rfl rfl (by decide) rfl (fun ls hl => ?_)
                refine lv_goto (tgt := 41) hx hb dX4_leadsFor_135 (by decide) ?_
                exact ih41 x1 x2 x3 x4 x6 x7 (x8 + 1) H locs ls h hP hD hS (lv_sub hl [2, 3, 4, 5, 6, 7, 8, 0] rfl)
            · have h := (if_pos c5).symm.trans h
              refine lv_goto (tgt := 132) hx hb dX4_leadsFor_70 (by decide) ?_
              refine lv_iinc (v := x8 + 1) (lv' := [(8, .int (x8 + 1)), (0, .ref (q 0)), (1, .int x1), (2, .int x2), (3, .int x3), (4, .int x4), (6, .int x6), (7, .int x7)]) hx hb dX4_leadsFor_132 hl (k := 7) rfl rfl (by decide) rfl (fun ls hl => ?_)
              refine lv_goto (tgt := 41) hx hb dX4_leadsFor_135 (by decide) ?_
              exact ih41 x1 x2 x3 x4 x6 x7 (x8 + 1) H locs ls h hP hD hS (lv_sub hl [1, 2, 3, 4, 5, 6, 7, 0] rfl)
    have h : f_X4_leadsForb fu (f_X4_leadsFor fu n) v_streetCount v_guideCount v_ends v_farEnds v_lengths v_paces v_fees v_knows x1 x2 x3 x4 x5 x6 = some res := hf
    unfold f_X4_leadsForb at h
    obtain ⟨H, eH⟩ : ∃ H, H = s.heap := ⟨_, rfl⟩
    rw [← eH] at hP ⊢
    obtain ⟨locs, el⟩ : ∃ locs : List Loc, locs = [] := ⟨_, rfl⟩
    rw [← el] at hS ⊢
    have hS : va_S A s.heap H locs := by rw [eH]; exact hS
    refine lv_iload hx hb dX4_leadsFor_0 (lv_at hl 4 rfl) ?_
    refine lv_if_lt (tgt := 12) hx hb dX4_leadsFor_2 (by decide) (fun c12 => ?_) (fun c12 => ?_)
    · have h := (if_pos c12).symm.trans h
      refine lv_iconst (v := 0) hx hb dX4_leadsFor_12 (by decide) ?_
      exact hret (0 : Int32) () H locs _ ls (Or.inl rfl) (Option.some.inj h) hP hD hS dX4_leadsFor_13
    · have h := (if_neg c12).symm.trans h
      refine lv_iload hx hb dX4_leadsFor_5 (lv_at hl 6 rfl) ?_
      refine lv_bipush (v := 7) hx hb dX4_leadsFor_7 (by decide) ?_
      refine lv_icmp_lt (tgt := 14) hx hb dX4_leadsFor_9 (by decide) (fun c13 => ?_) (fun c13 => ?_)
      · have h := (if_pos c13).symm.trans h
        refine lv_iload_n hx hb dX4_leadsFor_14 rfl (lv_at hl 2 rfl) ?_
        refine lv_iload_n hx hb dX4_leadsFor_15 rfl (lv_at hl 3 rfl) ?_
        refine lv_icmp_ne (tgt := 30) hx hb dX4_leadsFor_16 (by decide) (fun c14 => ?_) (fun c14 => ?_)
        · have h := (if_neg c14).symm.trans h
          refine lv_iload hx hb dX4_leadsFor_30 (lv_at hl 5 rfl) ?_
          refine lv_iconst (v := 1) hx hb dX4_leadsFor_32 (by decide) ?_
          refine lv_iload_n hx hb dX4_leadsFor_33 rfl (lv_at hl 2 rfl) ?_
          refine lv_ishl hx hb dX4_leadsFor_34 ?_
          refine lv_ior hx hb dX4_leadsFor_35 ?_
          refine lv_istore (lv' := [(7, .int (x5 ||| ((1 : Int32) <<< (x2 &&& 31)))), (0, .ref (q 0)), (1, .int x1), (2, .int x2), (3, .int x3), (4, .int x4), (5, .int x5), (6, .int x6)]) hx hb dX4_leadsFor_36 hl (by decide) rfl (fun ls hl => ?_)
          refine lv_iconst (v := 0) hx hb dX4_leadsFor_38 (by decide) ?_
          refine lv_istore (lv' := [(8, .int (0 : Int32)), (7, .int (x5 ||| ((1 : Int32) <<< (x2 &&& 31)))), (0, .ref (q 0)), (1, .int x1), (2, .int x2), (3, .int x3), (4, .int x4), (5, .int x5), (6, .int x6)]) hx hb dX4_leadsFor_39 hl (by decide) rfl (fun ls hl => ?_)
          exact hL41 fu x1 x2 x3 x4 x6 (x5 ||| ((1 : Int32) <<< (x2 &&& 31))) (0 : Int32) H locs ls h hP hD hS (lv_sub hl [2, 3, 4, 5, 6, 8, 1, 0] rfl)
        · have h := (if_pos c14).symm.trans h
          refine lv_iload hx hb dX4_leadsFor_19 (lv_at hl 4 rfl) ?_
          refine lv_if_ne (tgt := 28) hx hb dX4_leadsFor_21 (by decide) (fun c15 => ?_) (fun c15 => ?_)
          · have h := (if_neg c15).symm.trans h
            refine lv_iconst (v := 0) hx hb dX4_leadsFor_28 (by decide) ?_
            exact hret (0 : Int32) () H locs _ ls (Or.inl rfl) (Option.some.inj h) hP hD hS dX4_leadsFor_29
          · have h := (if_pos c15).symm.trans h
            refine lv_iconst (v := 1) hx hb dX4_leadsFor_24 (by decide) ?_
            refine lv_goto (tgt := 29) hx hb dX4_leadsFor_25 (by decide) ?_
            exact hret (1 : Int32) () H locs _ ls (Or.inr rfl) (Option.some.inj h) hP hD hS dX4_leadsFor_29
      · have h := (if_neg c13).symm.trans h
        refine lv_iconst (v := 0) hx hb dX4_leadsFor_12 (by decide) ?_
        exact hret (0 : Int32) () H locs _ ls (Or.inl rfl) (Option.some.inj h) hP hD hS dX4_leadsFor_13
abbrev rm_X4_canLeadFor : Room := { frames := 12, cells := 0, slots := 0, locals := 333 }
set_option maxHeartbeats 4000000 in
set_option maxRecDepth 100000 in
theorem k_X4_canLeadFor (l : Launch) (D : va_G) (cI cZ cT : ClassId) (q : Nat → Nat) (sz : Nat) (v_cornerCount : Int32) (v_streetCount : Int32) (v_guideCount : Int32) (v_bellCount : Int32) (v_hand : Int32) (v_handTold : Int32) (v_ends : Nat → Int32) (v_farEnds : Nat → Int32) (v_lengths : Nat → Int32) (v_paces : Nat → Int32) (v_fees : Nat → Int32) (v_knows : Nat → Int32) (x1 : Int32) (x2 : Int32) (x3 : Int32) (x4 : Int32) (res : R_X4_canLeadFor) (fu : Nat) (hf : f_X4_canLeadFor fu v_streetCount v_guideCount v_ends v_farEnds v_lengths v_paces v_fees v_knows x1 x2 x3 x4 = some res) : Met l yX4_canLeadFor wsX4_canLeadFor rm_X4_canLeadFor (cPre D (tyz cI cZ cT) [.ref (q 0), .int x1, .int x2, .int x3, .int x4] sz [oX4 q v_cornerCount v_streetCount v_guideCount v_bellCount v_hand v_handTold, rA (q 8) cI 9 v_ends, rA (q 9) cI 9 v_farEnds, rA (q 10) cI 9 v_lengths, rA (q 11) cI 4 v_paces, rA (q 12) cI 4 v_fees, rA (q 13) cI 4 v_knows]) (cPi D (tyz cI cZ cT) (fun (r : Int32) (_ : Unit) => r = res) (fun _ => [oX4 q v_cornerCount v_streetCount v_guideCount v_bellCount v_hand v_handTold, rA (q 8) cI 9 v_ends, rA (q 9) cI 9 v_farEnds, rA (q 10) cI 9 v_lengths, rA (q 11) cI 4 v_paces, rA (q 12) cI 4 v_fees, rA (q 13) cI 4 v_knows]) [oX4 q v_cornerCount v_streetCount v_guideCount v_bellCount v_hand v_handTold, rA (q 8) cI 9 v_ends, rA (q 9) cI 9 v_farEnds, rA (q 10) cI 9 v_lengths, rA (q 11) cI 4 v_paces, rA (q 12) cI 4 v_fees, rA (q 13) cI 4 v_knows] sz) 0 0 (va_A [oX4 q v_cornerCount v_streetCount v_guideCount v_bellCount v_hand v_handTold, rA (q 8) cI 9 v_ends, rA (q 9) cI 9 v_farEnds, rA (q 10) cI 9 v_lengths, rA (q 11) cI 4 v_paces, rA (q 12) cI 4 v_fees, rA (q 13) cI 4 v_knows] sz) := by
  refine vx_meth_z (by decide) rfl (Nat.le_of_ble_eq_true rfl) ?_
  intro p e s m args below meth c A Q hx hb hml hown hts hK hP hD hA hS hret ls hl
  have hown : s.vm.findClass RX4 = some m.cls := hown
  have hl : lv_has ls 5 [(0, .ref (q 0)), (1, .int x1), (2, .int x2), (3, .int x3), (4, .int x4)] := hl
  have hFx : CallFix p m c cX4_canLeadFor 5 s args wsX4_canLeadFor RX4 := ⟨hx, hb, hml, hown, hts⟩
  have h := hf
  unfold f_X4_canLeadFor at h
  obtain ⟨H, eH⟩ : ∃ H, H = s.heap := ⟨_, rfl⟩
  rw [← eH] at hP ⊢
  obtain ⟨locs, el⟩ : ∃ locs : List Loc, locs = [] := ⟨_, rfl⟩
  rw [← el] at hS ⊢
  have hS : va_S A s.heap H locs := by rw [eH]; exact hS
  refine lv_aload_n hx hb dX4_canLeadFor_0 rfl (lv_at hl 0 rfl) ?_
  refine lv_iload_n hx hb dX4_canLeadFor_1 rfl (lv_at hl 1 rfl) ?_
  refine lv_iload_n hx hb dX4_canLeadFor_2 rfl (lv_at hl 2 rfl) ?_
  refine lv_iload_n hx hb dX4_canLeadFor_3 rfl (lv_at hl 3 rfl) ?_
  refine lv_iload hx hb dX4_canLeadFor_4 (lv_at hl 4 rfl) ?_
  refine lv_iconst (v := 0) hx hb dX4_canLeadFor_6 (by decide) ?_
  refine lv_iconst (v := 0) hx hb dX4_canLeadFor_7 (by decide) ?_
  obtain ⟨r1, hr1, h⟩ := xk_some h
  refine vx_VJ (As := [.int x1, .int x2, .int x3, .int x4, .int (0 : Int32), .int (0 : Int32)]) (rest := []) hFx (k_X4_leadsFor l D cI cZ cT fu 9 q H.size v_cornerCount v_streetCount v_guideCount v_bellCount v_hand v_handTold v_ends v_farEnds v_lengths v_paces v_fees v_knows x1 x2 x3 x4 (0 : Int32) (0 : Int32) r1 hr1) (cwV 6 hts gX4_canLeadFor_X4_leadsFor rfl rfl rfl (by decide +kernel) ⟨Nat.le_of_ble_eq_true rfl, Nat.le_of_ble_eq_true rfl⟩) hK hP hD hS hA [0, 1, 2, 3, 4, 5, 6] rfl rfl 4 0 rfl rfl rfl hl.1 rfl (Nat.le_of_ble_eq_true rfl) dX4_canLeadFor_8 ⟨Nat.zero_le _, Nat.zero_le _⟩ (fun H locs hP hS => ?_)
  obtain ⟨hz2, h⟩ := xz_some h
  exact hret r1 () H locs _ ls hz2 (Option.some.inj h) hP hD hS dX4_canLeadFor_11
abbrev rm_X4_marksAround : Room := { frames := 2, cells := 0, slots := 0, locals := 45 }
set_option maxHeartbeats 4000000 in
set_option maxRecDepth 100000 in
theorem k_X4_marksAround (l : Launch) (D : va_G) (cI cZ cT : ClassId) (q : Nat → Nat) (sz : Nat) (v_cornerCount : Int32) (v_streetCount : Int32) (v_guideCount : Int32) (v_bellCount : Int32) (v_hand : Int32) (v_handTold : Int32) (v_marks : Nat → Int32) (v_ends : Nat → Int32) (v_farEnds : Nat → Int32) (x1 : Int32) (res : R_X4_marksAround) (fu : Nat) (hf : f_X4_marksAround fu v_cornerCount v_streetCount v_marks v_ends v_farEnds x1 = some res) : Met l yX4_marksAround wsX4_marksAround rm_X4_marksAround (cPre D (tyz cI cZ cT) [.ref (q 0), .int x1] sz [oX4 q v_cornerCount v_streetCount v_guideCount v_bellCount v_hand v_handTold, rA (q 7) cI 7 v_marks, rA (q 8) cI 9 v_ends, rA (q 9) cI 9 v_farEnds]) (cPi D (tyz cI cZ cT) (fun (r : Int32) (_ : Unit) => r = res) (fun _ => [oX4 q v_cornerCount v_streetCount v_guideCount v_bellCount v_hand v_handTold, rA (q 7) cI 7 v_marks, rA (q 8) cI 9 v_ends, rA (q 9) cI 9 v_farEnds]) [oX4 q v_cornerCount v_streetCount v_guideCount v_bellCount v_hand v_handTold, rA (q 7) cI 7 v_marks, rA (q 8) cI 9 v_ends, rA (q 9) cI 9 v_farEnds] sz) 0 0 (va_A [oX4 q v_cornerCount v_streetCount v_guideCount v_bellCount v_hand v_handTold, rA (q 7) cI 7 v_marks, rA (q 8) cI 9 v_ends, rA (q 9) cI 9 v_farEnds] sz) := by
  refine vx_meth_i (by decide) rfl (Nat.le_of_ble_eq_true rfl) ?_
  intro p e s m args below meth c A Q hx hb hml hown hts hK hP hD hA hS hret ls hl
  have hown : s.vm.findClass RX4 = some m.cls := hown
  have hl : lv_has ls 5 [(0, .ref (q 0)), (1, .int x1)] := hl
  have hFx : CallFix p m c cX4_marksAround 5 s args wsX4_marksAround RX4 := ⟨hx, hb, hml, hown, hts⟩
  have lk43 := hts (.fieldLink RX4 43 "FogGuides$TownMap" "cornerCount" "I") (by decide +kernel)
  have iw4 : ∀ w ∈ u_ws RX4 TX4 15, w ∈ wsX4_marksAround := by decide +kernel
  have lk9 := hts (.fieldLink RX4 9 "FogGuides$TownMap" "marks" "[I") (by decide +kernel)
  have hL40 : ∀ (n40 : Nat), ∀ (x2 : Int32) (x3 : Int32) (x4 : Int32) (H : Heap) (locs : List Loc) (ls : Array Slot), f_X4_marksAround_L40 fu n40 v_cornerCount v_streetCount v_marks v_ends v_farEnds x2 x3 x4 = some res → va_P D vwCl [oX4 q v_cornerCount v_streetCount v_guideCount v_bellCount v_hand v_handTold, rA (q 7) cI 7 v_marks, rA (q 8) cI 9 v_ends, rA (q 9) cI 9 v_farEnds] H → va_D A [oX4 q v_cornerCount v_streetCount v_guideCount v_bellCount v_hand v_handTold, rA (q 7) cI 7 v_marks, rA (q 8) cI 9 v_ends, rA (q 9) cI 9 v_farEnds] → va_S A s.heap H locs → lv_has ls 5 [(0, .ref (q 0)), (2, .int x2), (3, .int x3), (4, .int x4)] → W p l e rm_X4_marksAround s m args below meth c H locs 0 0 Q (F0 m 40 ls []) := by
    intro n40
    induction n40 with
    | zero =>
      intro x2 x3 x4 H locs ls h hP hD hS hl
      cases (show (none : Option R_X4_marksAround) = some res from h)
    | succ n40 ih40 =>
      intro x2 x3 x4 H locs ls h hP hD hS hl
      have h : f_X4_marksAround_L40b fu (f_X4_marksAround_L40 fu n40) v_cornerCount v_streetCount v_marks v_ends v_farEnds x2 x3 x4 = some res := h
      unfold f_X4_marksAround_L40b at h
      refine lv_iload hx hb dX4_marksAround_40 (lv_at hl 3 rfl) ?_
      refine lv_aload_n hx hb dX4_marksAround_42 rfl (lv_at hl 0 rfl) ?_
      refine va_get (C := RX4) (T := TX4) (N := 15) (v := .int v_cornerCount) hx hb hts iw4 hown hK hP 0 rfl rfl 0 (Nat.le_of_ble_eq_true rfl) lk43 (fun _ h9 => h9) rfl dX4_marksAround_43 ?_
      refine lv_icmp_ge (tgt := 77) hx hb dX4_marksAround_46 (by decide) (fun c1 => ?_) (fun c1 => ?_)
      · have h := (if_pos c1).symm.trans h
        refine lv_iload_n hx hb dX4_marksAround_77 rfl (lv_at hl 2 rfl) ?_
        obtain ⟨r2, hr2, h⟩ := xk_some h
        refine vx_SJ (As := [.int x3]) (rest := []) hFx (k_J6_bitCount_0f7a4 l D cI cZ cT H.size x3 r2 hr2) (vx_cwS 1 hts gX4_marksAround_J6_bitCount_0f7a4 rfl rfl rfl (by decide +kernel) ⟨Nat.le_of_ble_eq_true rfl, Nat.le_of_ble_eq_true rfl⟩) hK hP hD hS hA rfl hl.1 rfl (Nat.le_of_ble_eq_true rfl) dX4_marksAround_78 ⟨Nat.zero_le _, Nat.zero_le _⟩ (fun H locs hP hS => ?_)
        exact hret r2 () H locs _ ls (Option.some.inj h) hP hD hS dX4_marksAround_81
      · have h := (if_neg c1).symm.trans h
        refine lv_iload_n hx hb dX4_marksAround_49 rfl (lv_at hl 1 rfl) ?_
        refine lv_iload hx hb dX4_marksAround_50 (lv_at hl 3 rfl) ?_
        refine lv_ishr hx hb dX4_marksAround_52 ?_
        refine lv_iconst (v := 1) hx hb dX4_marksAround_53 (by decide) ?_
        refine lv_iand hx hb dX4_marksAround_54 ?_
        refine lv_iconst (v := 1) hx hb dX4_marksAround_55 (by decide) ?_
        refine lv_icmp_ne (tgt := 71) hx hb dX4_marksAround_56 (by decide) (fun c3 => ?_) (fun c3 => ?_)
        · have h := (if_neg c3).symm.trans h
          refine lv_iinc (v := x4 + 1) (lv' := [(4, .int (x4 + 1)), (0, .ref (q 0)), (2, .int x2), (3, .int x3)]) hx hb dX4_marksAround_71 hl (k := 3) rfl rfl (by decide) rfl (fun ls hl => ?_)
          refine lv_goto (tgt := 40) hx hb dX4_marksAround_74 (by decide) ?_
          exact ih40 x2 x3 (x4 + 1) H locs ls h hP hD hS (lv_sub hl [1, 2, 3, 0] rfl)
        · have h := (if_pos c3).symm.trans h
          refine lv_iload_n hx hb dX4_marksAround_59 rfl (lv_at hl 2 rfl) ?_
          refine lv_iconst (v := 1) hx hb dX4_marksAround_60 (by decide) ?_
          refine lv_aload_n hx hb dX4_marksAround_61 rfl (lv_at hl 0 rfl) ?_
          refine va_get (C := RX4) (T := TX4) (N := 15) (v := .ref (q 7)) hx hb hts iw4 hown hK hP 0 rfl rfl 6 (Nat.le_of_ble_eq_true rfl) lk9 (fun _ h9 => h9) rfl dX4_marksAround_62 ?_
          refine lv_iload hx hb dX4_marksAround_65 (lv_at hl 3 rfl) ?_
          obtain ⟨hi4, h⟩ := xb_some h
          refine va_iald hx hb hK hP 1 0 rfl rfl hi4 dX4_marksAround_67 ?_
          refine lv_ishl hx hb dX4_marksAround_68 ?_
          refine lv_ior hx hb dX4_marksAround_69 ?_
          refine lv_istore_n (lv' := [(3, .int (x3 ||| ((1 : Int32) <<< ((v_marks x4.toNatClampNeg) &&& 31)))), (0, .ref (q 0)), (2, .int x2), (4, .int x4)]) hx hb dX4_marksAround_70 rfl hl (by decide) rfl (fun ls hl => ?_)
          refine lv_iinc (v := x4 + 1) (lv' := [(4, .int (x4 + 1)), (3, .int (x3 ||| ((1 : Int32) <<< ((v_marks x4.toNatClampNeg) &&& 31)))), (0, .ref (q 0)), (2, .int x2)]) hx hb dX4_marksAround_71 hl (k := 3) rfl rfl (by decide) rfl (fun ls hl => ?_)
          refine lv_goto (tgt := 40) hx hb dX4_marksAround_74 (by decide) ?_
          exact ih40 x2 (x3 ||| ((1 : Int32) <<< ((v_marks x4.toNatClampNeg) &&& 31))) (x4 + 1) H locs ls h hP hD hS (lv_sub hl [2, 3, 1, 0] rfl)
  have hL4 : ∀ (n4 : Nat), ∀ (x1 : Int32) (x2 : Int32) (x3 : Int32) (H : Heap) (locs : List Loc) (ls : Array Slot), f_X4_marksAround_L4 fu n4 v_cornerCount v_streetCount v_marks v_ends v_farEnds x1 x2 x3 = some res → va_P D vwCl [oX4 q v_cornerCount v_streetCount v_guideCount v_bellCount v_hand v_handTold, rA (q 7) cI 7 v_marks, rA (q 8) cI 9 v_ends, rA (q 9) cI 9 v_farEnds] H → va_D A [oX4 q v_cornerCount v_streetCount v_guideCount v_bellCount v_hand v_handTold, rA (q 7) cI 7 v_marks, rA (q 8) cI 9 v_ends, rA (q 9) cI 9 v_farEnds] → va_S A s.heap H locs → lv_has ls 5 [(0, .ref (q 0)), (1, .int x1), (2, .int x2), (3, .int x3)] → W p l e rm_X4_marksAround s m args below meth c H locs 0 0 Q (F0 m 4 ls []) := by
    intro n4
    induction n4 with
    | zero =>
      intro x1 x2 x3 H locs ls h hP hD hS hl
      cases (show (none : Option R_X4_marksAround) = some res from h)
    | succ n4 ih4 =>
      intro x1 x2 x3 H locs ls h hP hD hS hl
      have h : f_X4_marksAround_L4b fu (f_X4_marksAround_L4 fu n4) v_cornerCount v_streetCount v_marks v_ends v_farEnds x1 x2 x3 = some res := h
      unfold f_X4_marksAround_L4b at h
      refine lv_iload_n hx hb dX4_marksAround_4 rfl (lv_at hl 3 rfl) ?_
      refine lv_aload_n hx hb dX4_marksAround_5 rfl (lv_at hl 0 rfl) ?_
      refine va_get (C := RX4) (T := TX4) (N := 15) (v := .int v_cornerCount) hx hb hts iw4 hown hK hP 0 rfl rfl 0 (Nat.le_of_ble_eq_true rfl) lk43 (fun _ h9 => h9) rfl dX4_marksAround_6 ?_
      refine lv_icmp_ge (tgt := 35) hx hb dX4_marksAround_9 (by decide) (fun c5 => ?_) (fun c5 => ?_)
      · have h := (if_pos c5).symm.trans h
        refine lv_iconst (v := 0) hx hb dX4_marksAround_35 (by decide) ?_
        refine lv_istore_n (lv' := [(3, .int (0 : Int32)), (0, .ref (q 0)), (1, .int x1), (2, .int x2)]) hx hb dX4_marksAround_36 rfl hl (by decide) rfl (fun ls hl => ?_)
        refine lv_iconst (v := 0) hx hb dX4_marksAround_37 (by decide) ?_
        refine lv_istore (lv' := [(4, .int (0 : Int32)), (3, .int (0 : Int32)), (0, .ref (q 0)), (1, .int x1), (2, .int x2)]) hx hb dX4_marksAround_38 hl (by decide) rfl (fun ls hl => ?_)
        exact hL40 fu x2 (0 : Int32) (0 : Int32) H locs ls h hP hD hS (lv_sub hl [2, 4, 1, 0] rfl)
      · have h := (if_neg c5).symm.trans h
        refine lv_iload_n hx hb dX4_marksAround_12 rfl (lv_at hl 1 rfl) ?_
        refine lv_iload_n hx hb dX4_marksAround_13 rfl (lv_at hl 3 rfl) ?_
        refine lv_ishr hx hb dX4_marksAround_14 ?_
        refine lv_iconst (v := 1) hx hb dX4_marksAround_15 (by decide) ?_
        refine lv_iand hx hb dX4_marksAround_16 ?_
        refine lv_iconst (v := 1) hx hb dX4_marksAround_17 (by decide) ?_
        refine lv_icmp_ne (tgt := 29) hx hb dX4_marksAround_18 (by decide) (fun c6 => ?_) (fun c6 => ?_)
        · have h := (if_neg c6).symm.trans h
          refine lv_iinc (v := x3 + 1) (lv' := [(3, .int (x3 + 1)), (0, .ref (q 0)), (1, .int x1), (2, .int x2)]) hx hb dX4_marksAround_29 hl (k := 3) rfl rfl (by decide) rfl (fun ls hl => ?_)
          refine lv_goto (tgt := 4) hx hb dX4_marksAround_32 (by decide) ?_
          exact ih4 x1 x2 (x3 + 1) H locs ls h hP hD hS (lv_sub hl [1, 2, 3, 0] rfl)
        · have h := (if_pos c6).symm.trans h
          refine lv_iload_n hx hb dX4_marksAround_21 rfl (lv_at hl 2 rfl) ?_
          refine lv_aload_n hx hb dX4_marksAround_22 rfl (lv_at hl 0 rfl) ?_
          refine lv_iload_n hx hb dX4_marksAround_23 rfl (lv_at hl 3 rfl) ?_
          obtain ⟨r7, hr7, h⟩ := xk_some h
          refine vx_VJ (As := [.int x3]) (rest := [.int x2]) hFx (k_X4_nextTo l D cI cZ cT q H.size v_cornerCount v_streetCount v_guideCount v_bellCount v_hand v_handTold v_ends v_farEnds x3 r7 fu hr7) (cwV 1 hts gX4_marksAround_X4_nextTo rfl rfl rfl (by decide +kernel) ⟨Nat.le_of_ble_eq_true rfl, Nat.le_of_ble_eq_true rfl⟩) hK hP hD hS hA [0, 2, 3] rfl rfl 4 0 rfl rfl rfl hl.1 rfl (Nat.le_of_ble_eq_true rfl) dX4_marksAround_24 ⟨Nat.zero_le _, Nat.zero_le _⟩ (fun H locs hP hS => ?_)
          refine lv_ior hx hb dX4_marksAround_27 ?_
          refine lv_istore_n (lv' := [(2, .int (x2 ||| r7)), (0, .ref (q 0)), (1, .int x1), (3, .int x3)]) hx hb dX4_marksAround_28 rfl hl (by decide) rfl (fun ls hl => ?_)
          refine lv_iinc (v := x3 + 1) (lv' := [(3, .int (x3 + 1)), (2, .int (x2 ||| r7)), (0, .ref (q 0)), (1, .int x1)]) hx hb dX4_marksAround_29 hl (k := 3) rfl rfl (by decide) rfl (fun ls hl => ?_)
          refine lv_goto (tgt := 4) hx hb dX4_marksAround_32 (by decide) ?_
          exact ih4 x1 (x2 ||| r7) (x3 + 1) H locs ls h hP hD hS (lv_sub hl [2, 3, 1, 0] rfl)
  have h := hf
  unfold f_X4_marksAround at h
  obtain ⟨H, eH⟩ : ∃ H, H = s.heap := ⟨_, rfl⟩
  rw [← eH] at hP ⊢
  obtain ⟨locs, el⟩ : ∃ locs : List Loc, locs = [] := ⟨_, rfl⟩
  rw [← el] at hS ⊢
  have hS : va_S A s.heap H locs := by rw [eH]; exact hS
  refine lv_iconst (v := 0) hx hb dX4_marksAround_0 (by decide) ?_
  refine lv_istore_n (lv' := [(2, .int (0 : Int32)), (0, .ref (q 0)), (1, .int x1)]) hx hb dX4_marksAround_1 rfl hl (by decide) rfl (fun ls hl => ?_)
  refine lv_iconst (v := 0) hx hb dX4_marksAround_2 (by decide) ?_
  refine lv_istore_n (lv' := [(3, .int (0 : Int32)), (2, .int (0 : Int32)), (0, .ref (q 0)), (1, .int x1)]) hx hb dX4_marksAround_3 rfl hl (by decide) rfl (fun ls hl => ?_)
  exact hL4 fu x1 (0 : Int32) (0 : Int32) H locs ls h hP hD hS (lv_sub hl [2, 3, 1, 0] rfl)
