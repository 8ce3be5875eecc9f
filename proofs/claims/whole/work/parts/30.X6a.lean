abbrev rm_X6_type : Room := { frames := 1, cells := 0, slots := 0, locals := 21 }
set_option maxHeartbeats 4000000 in
set_option maxRecDepth 100000 in
theorem k_X6_type (l : Launch) (D : va_G) (cI cZ cT : ClassId) (q : Nat → Nat) (qr : Nat → Nat) (qm : Nat → Nat) (qs : Nat → Nat) (qt : Nat → Nat) (qro : Nat → Nat) (qto : Nat → Nat) (qw : Nat → Nat) (qi0 : Nat → Nat) (qi1 : Nat → Nat) (sz : Nat) (v_asked : Int64) (r_length : Int32) (r_place : Int32) (r_token : Int32) (r_tokenAt : Int32) (r_value : Int32) (r_fault : Int32) (r_text : Nat → Int32) (x1 : Int32) (res : R_X6_type) (hf : f_X6_type r_text r_length x1 = some res) : Met l yX6_type wsX6_type rm_X6_type (cPre D (tyz cI cZ cT) [.ref (q 0), .int x1] sz [oX6 q (qr 0) (qm 0) (qs 0) (qt 0) (qro 0) (qto 0) (qw 0) v_asked, oX2 qr r_length r_place r_token r_tokenAt r_value r_fault, rA (qr 1) cI 200 r_text]) (cPi D (tyz cI cZ cT) (fun (r : Int32) (u : (Nat → Int32) × Int32) => (r, u) = res) (fun u => [oX6 q (qr 0) (qm 0) (qs 0) (qt 0) (qro 0) (qto 0) (qw 0) v_asked, oX2 qr u.2 r_place r_token r_tokenAt r_value r_fault, rA (qr 1) cI 200 u.1]) [oX6 q (qr 0) (qm 0) (qs 0) (qt 0) (qro 0) (qto 0) (qw 0) v_asked, oX2 qr r_length r_place r_token r_tokenAt r_value r_fault, rA (qr 1) cI 200 r_text] sz) 0 0 (va_A [oX6 q (qr 0) (qm 0) (qs 0) (qt 0) (qro 0) (qto 0) (qw 0) v_asked, oX2 qr r_length r_place r_token r_tokenAt r_value r_fault, rA (qr 1) cI 200 r_text] sz) := by
  refine vx_meth_i (by decide) rfl (Nat.le_of_ble_eq_true rfl) ?_
  intro p e s m args below meth c A Q hx hb hml hown hts hK hP hD hA hS hret ls hl
  have hown : s.vm.findClass RX6 = some m.cls := hown
  have hl : lv_has ls 2 [(0, .ref (q 0)), (1, .int x1)] := hl
  have hFx : CallFix p m c cX6_type 2 s args wsX6_type RX6 := ⟨hx, hb, hml, hown, hts⟩
  have lk10 := hts (.fieldLink RX6 10 "FogGuides" "reader" "LFogGuides$TextReader;") (by decide +kernel)
  have iw6 : ∀ w ∈ u_ws RX6 TX6 10, w ∈ wsX6_type := by decide +kernel
  have lk70 := hts (.fieldLink RX6 70 "FogGuides$TextReader" "length" "I") (by decide +kernel)
  have iw2 : ∀ w ∈ u_ws RX2 TX2 7, w ∈ wsX6_type := by decide +kernel
  have h := hf
  unfold f_X6_type at h
  obtain ⟨H, eH⟩ : ∃ H, H = s.heap := ⟨_, rfl⟩
  rw [← eH] at hP ⊢
  obtain ⟨locs, el⟩ : ∃ locs : List Loc, locs = [] := ⟨_, rfl⟩
  rw [← el] at hS ⊢
  have hS : va_S A s.heap H locs := by rw [eH]; exact hS
  refine lv_iload_n hx hb dX6_type_0 rfl (lv_at hl 1 rfl) ?_
  refine lv_if_lt (tgt := 11) hx hb dX6_type_1 (by decide) (fun c1 => ?_) (fun c1 => ?_)
  · have h := (if_pos c1).symm.trans h
    refine lv_iconst (v := (-1)) hx hb dX6_type_11 (by decide) ?_
    exact hret (-1 : Int32) (r_text, r_length) H locs _ ls (Option.some.inj h) hP hD hS dX6_type_12
  · have h := (if_neg c1).symm.trans h
    refine lv_iload_n hx hb dX6_type_4 rfl (lv_at hl 1 rfl) ?_
    refine lv_sipush (v := 255) hx hb dX6_type_5 (by decide) ?_
    refine lv_icmp_le (tgt := 13) hx hb dX6_type_8 (by decide) (fun c2 => ?_) (fun c2 => ?_)
    · have h := (if_pos c2).symm.trans h
      refine lv_aload_n hx hb dX6_type_13 rfl (lv_at hl 0 rfl) ?_
      refine va_get (C := RX6) (T := TX6) (N := 10) (v := .ref (qr 0)) hx hb hts iw6 hown hK hP 0 rfl rfl 0 (Nat.le_of_ble_eq_true rfl) lk10 (fun _ h9 => h9) rfl dX6_type_14 ?_
      refine lv_iload_n hx hb dX6_type_17 rfl (lv_at hl 1 rfl) ?_
      obtain ⟨r3, hr3, h⟩ := xk_some h
      refine vx_VI (As := [.int x1]) (rest := []) (wr := [oX6 q (qr 0) (qm 0) (qs 0) (qt 0) (qro 0) (qto 0) (qw 0) v_asked]) (wn := [oX6 q (qr 0) (qm 0) (qs 0) (qt 0) (qro 0) (qto 0) (qw 0) v_asked, oX2 qr r3.2.2 r_place r_token r_tokenAt r_value r_fault, rA (qr 1) cI 200 r3.2.1]) hFx (k_X2_put l D cI cZ cT qr H.size r_length r_place r_token r_tokenAt r_value r_fault r_text x1 r3 hr3) (cwV 1 hts gX6_type_X2_put rfl rfl rfl (by decide +kernel) ⟨Nat.le_of_ble_eq_true rfl, Nat.le_of_ble_eq_true rfl⟩) hK hP hD hS hA [1, 2] [0] [0, 1, 2] rfl rfl rfl rfl (by decide) rfl rfl 2 0 rfl rfl rfl hl.1 rfl (Nat.le_of_ble_eq_true rfl) dX6_type_18 ⟨Nat.zero_le _, Nat.zero_le _⟩ (fun H locs hP hD hS => ?_)
      refine lv_if_eq (tgt := 34) hx hb dX6_type_21 (by decide) (fun c4 => ?_) (fun c4 => ?_)
      · have h := (if_pos c4).symm.trans h
        refine lv_bipush (v := (-3)) hx hb dX6_type_34 (by decide) ?_
        exact hret (-3 : Int32) (r3.2.1, r3.2.2) H locs _ ls (Option.some.inj h) hP hD hS dX6_type_36
      · have h := (if_neg c4).symm.trans h
        refine lv_aload_n hx hb dX6_type_24 rfl (lv_at hl 0 rfl) ?_
        refine va_get (C := RX6) (T := TX6) (N := 10) (v := .ref (qr 0)) hx hb hts iw6 hown hK hP 0 rfl rfl 0 (Nat.le_of_ble_eq_true rfl) lk10 (fun _ h9 => h9) rfl dX6_type_25 ?_
        refine va_get (C := RX2) (T := TX2) (N := 7) (v := .int r3.2.2) hx hb hts iw2 hown hK hP 1 rfl rfl 1 (Nat.le_of_ble_eq_true rfl) lk70 (fun _ h9 => h9) rfl dX6_type_28 ?_
        refine lv_goto (tgt := 36) hx hb dX6_type_31 (by decide) ?_
        exact hret r3.2.2 (r3.2.1, r3.2.2) H locs _ ls (Option.some.inj h) hP hD hS dX6_type_36
    · have h := (if_neg c2).symm.trans h
      refine lv_iconst (v := (-1)) hx hb dX6_type_11 (by decide) ?_
      exact hret (-1 : Int32) (r_text, r_length) H locs _ ls (Option.some.inj h) hP hD hS dX6_type_12
abbrev rm_X6_clear : Room := { frames := 0, cells := 0, slots := 0, locals := 0 }
set_option maxHeartbeats 4000000 in
set_option maxRecDepth 100000 in
theorem k_X6_clear (l : Launch) (D : va_G) (cI cZ cT : ClassId) (q : Nat → Nat) (qr : Nat → Nat) (qm : Nat → Nat) (qs : Nat → Nat) (qt : Nat → Nat) (qro : Nat → Nat) (qto : Nat → Nat) (qw : Nat → Nat) (qi0 : Nat → Nat) (qi1 : Nat → Nat) (sz : Nat) (v_asked : Int64) (r_length : Int32) (r_place : Int32) (r_token : Int32) (r_tokenAt : Int32) (r_value : Int32) (r_fault : Int32) (res : R_X6_clear) (hf : f_X6_clear r_length = some res) : Met l yX6_clear wsX6_clear rm_X6_clear (cPre D (tyz cI cZ cT) [.ref (q 0)] sz [oX6 q (qr 0) (qm 0) (qs 0) (qt 0) (qro 0) (qto 0) (qw 0) v_asked, oX2 qr r_length r_place r_token r_tokenAt r_value r_fault]) (cPi D (tyz cI cZ cT) (fun (r : Int32) (u : Int32) => (r, u) = res) (fun u => [oX6 q (qr 0) (qm 0) (qs 0) (qt 0) (qro 0) (qto 0) (qw 0) v_asked, oX2 qr u r_place r_token r_tokenAt r_value r_fault]) [oX6 q (qr 0) (qm 0) (qs 0) (qt 0) (qro 0) (qto 0) (qw 0) v_asked, oX2 qr r_length r_place r_token r_tokenAt r_value r_fault] sz) 0 0 (va_A [oX6 q (qr 0) (qm 0) (qs 0) (qt 0) (qro 0) (qto 0) (qw 0) v_asked, oX2 qr r_length r_place r_token r_tokenAt r_value r_fault] sz) := by
  refine vx_meth_i (by decide) rfl (Nat.le_of_ble_eq_true rfl) ?_
  intro p e s m args below meth c A Q hx hb hml hown hts hK hP hD hA hS hret ls hl
  have hown : s.vm.findClass RX6 = some m.cls := hown
  have hl : lv_has ls 2 [(0, .ref (q 0))] := hl
  have hFx : CallFix p m c cX6_clear 2 s args wsX6_clear RX6 := ⟨hx, hb, hml, hown, hts⟩
  have lk10 := hts (.fieldLink RX6 10 "FogGuides" "reader" "LFogGuides$TextReader;") (by decide +kernel)
  have iw6 : ∀ w ∈ u_ws RX6 TX6 10, w ∈ wsX6_clear := by decide +kernel
  have lk70 := hts (.fieldLink RX6 70 "FogGuides$TextReader" "length" "I") (by decide +kernel)
  have iw2 : ∀ w ∈ u_ws RX2 TX2 7, w ∈ wsX6_clear := by decide +kernel
  have h := hf
  unfold f_X6_clear at h
  obtain ⟨H, eH⟩ : ∃ H, H = s.heap := ⟨_, rfl⟩
  rw [← eH] at hP ⊢
  obtain ⟨locs, el⟩ : ∃ locs : List Loc, locs = [] := ⟨_, rfl⟩
  rw [← el] at hS ⊢
  have hS : va_S A s.heap H locs := by rw [eH]; exact hS
  refine lv_aload_n hx hb dX6_clear_0 rfl (lv_at hl 0 rfl) ?_
  refine va_get (C := RX6) (T := TX6) (N := 10) (v := .ref (qr 0)) hx hb hts iw6 hown hK hP 0 rfl rfl 0 (Nat.le_of_ble_eq_true rfl) lk10 (fun _ h9 => h9) rfl dX6_clear_1 ?_
  refine va_get (C := RX2) (T := TX2) (N := 7) (v := .int r_length) hx hb hts iw2 hown hK hP 1 rfl rfl 1 (Nat.le_of_ble_eq_true rfl) lk70 (fun _ h9 => h9) rfl dX6_clear_4 ?_
  refine lv_istore_n (lv' := [(1, .int r_length), (0, .ref (q 0))]) hx hb dX6_clear_7 rfl hl (by decide) rfl (fun ls hl => ?_)
  refine lv_aload_n hx hb dX6_clear_8 rfl (lv_at hl 1 rfl) ?_
  refine va_get (C := RX6) (T := TX6) (N := 10) (v := .ref (qr 0)) hx hb hts iw6 hown hK hP 0 rfl rfl 0 (Nat.le_of_ble_eq_true rfl) lk10 (fun _ h9 => h9) rfl dX6_clear_9 ?_
  refine lv_iconst (v := 0) hx hb dX6_clear_12 (by decide) ?_
  refine va_put (C := RX2) (T := TX2) (N := 7) (v := .int (0 : Int32)) (ty := .int) hx hb hts iw2 tyX2 tyX2_ok nmX2 hown hK hP hD hS 1 rfl rfl 1 (Nat.le_of_ble_eq_true rfl) lk70 (fun _ h9 => h9) rfl (by decide +kernel) rfl rfl (Nat.le_of_ble_eq_true rfl) dX6_clear_13 (fun H locs hP hD hS => ?_)
  have hP : va_P D vwCl [oX6 q (qr 0) (qm 0) (qs 0) (qt 0) (qro 0) (qto 0) (qw 0) v_asked, oX2 qr (0 : Int32) r_place r_token r_tokenAt r_value r_fault] H := hP
  have hD : va_D A [oX6 q (qr 0) (qm 0) (qs 0) (qt 0) (qro 0) (qto 0) (qw 0) v_asked, oX2 qr (0 : Int32) r_place r_token r_tokenAt r_value r_fault] := hD
  refine lv_iload_n hx hb dX6_clear_16 rfl (lv_at hl 0 rfl) ?_
  exact hret r_length (0 : Int32) H locs _ ls (Option.some.inj h) hP hD hS dX6_clear_17
abbrev rm_X6_town : Room := { frames := 6, cells := 0, slots := 0, locals := 130 }
set_option maxHeartbeats 4000000 in
set_option maxRecDepth 100000 in
theorem k_X6_town (l : Launch) (D : va_G) (cI cZ cT : ClassId) (q : Nat → Nat) (qr : Nat → Nat) (qm : Nat → Nat) (qs : Nat → Nat) (qt : Nat → Nat) (qro : Nat → Nat) (qto : Nat → Nat) (qw : Nat → Nat) (qi0 : Nat → Nat) (qi1 : Nat → Nat) (sz : Nat) (v_asked : Int64) (r_length : Int32) (r_place : Int32) (r_token : Int32) (r_tokenAt : Int32) (r_value : Int32) (r_fault : Int32) (s_cornerCount : Int32) (s_streetCount : Int32) (s_guideCount : Int32) (s_bellCount : Int32) (s_hand : Int32) (s_handTold : Int32) (t_corner : Int32) (t_minute : Int32) (t_paid : Int32) (t_leader : Int32) (t_undoable : Int32) (to_felt : Int32) (to_walked : Int32) (w_size : Int32) (w_bestWorth : Int32) (w_bestSet : Int32) (v_kept : Nat → Int32) (r_text : Nat → Int32) (s_marks : Nat → Int32) (s_ends : Nat → Int32) (s_farEnds : Nat → Int32) (s_lengths : Nat → Int32) (s_paces : Nat → Int32) (s_fees : Nat → Int32) (s_knows : Nat → Int32) (s_his : Nat → Int32) (s_bells : Nat → Int32) (res : R_X6_town) (fu : Nat) (hf : f_X6_town fu qm qs v_kept r_text r_length r_place r_token r_tokenAt r_value r_fault s_cornerCount s_streetCount s_guideCount s_bellCount s_hand s_handTold s_marks s_ends s_farEnds s_lengths s_paces s_fees s_knows s_his s_bells t_corner t_minute t_paid t_leader t_undoable to_felt to_walked w_size = some res) : Met l yX6_town wsX6_town rm_X6_town (cPre D (tyz cI cZ cT) [.ref (q 0)] sz [oX6 q (qr 0) (qm 0) (qs 0) (qt 0) (qro 0) (qto 0) (qw 0) v_asked, rA (q 6) cZ 2 v_kept, oX2 qr r_length r_place r_token r_tokenAt r_value r_fault, rA (qr 1) cI 200 r_text, oX4 qs s_cornerCount s_streetCount s_guideCount s_bellCount s_hand s_handTold, rA (qs 7) cI 7 s_marks, rA (qs 8) cI 9 s_ends, rA (qs 9) cI 9 s_farEnds, rA (qs 10) cI 9 s_lengths, rA (qs 11) cI 4 s_paces, rA (qs 12) cI 4 s_fees, rA (qs 13) cI 4 s_knows, rA (qs 14) cI 4 s_his, rA (qs 15) cI 8 s_bells, oX1 qt t_corner t_minute t_paid t_leader t_undoable, oX3 qto to_felt to_walked, oX5 qw w_size w_bestWorth w_bestSet]) (cPi D (tyz cI cZ cT) (fun (r : Int32) (u : Nat × Nat × (Nat → Int32) × Int32 × Int32 × Int32 × Int32 × Int32 × Int32 × Int32 × Int32 × Int32 × Int32 × Int32 × Int32 × (Nat → Int32) × (Nat → Int32) × (Nat → Int32) × (Nat → Int32) × (Nat → Int32) × (Nat → Int32) × (Nat → Int32) × (Nat → Int32) × (Nat → Int32) × Int32 × Int32 × Int32 × Int32 × Int32 × Int32 × Int32 × Int32) => (r, u) = res) (fun u => [oX6 q (qr 0) (u.1) (u.2.1) (qt 0) (qro 0) (qto 0) (qw 0) v_asked, rA (q 6) cZ 2 u.2.2.1, oX2 qr u.2.2.2.1 u.2.2.2.2.1 u.2.2.2.2.2.1 u.2.2.2.2.2.2.1 u.2.2.2.2.2.2.2.1 u.2.2.2.2.2.2.2.2.1, rA (qr 1) cI 200 r_text, oX4 qs u.2.2.2.2.2.2.2.2.2.1 u.2.2.2.2.2.2.2.2.2.2.1 u.2.2.2.2.2.2.2.2.2.2.2.1 u.2.2.2.2.2.2.2.2.2.2.2.2.1 u.2.2.2.2.2.2.2.2.2.2.2.2.2.1 u.2.2.2.2.2.2.2.2.2.2.2.2.2.2.1, rA (qs 7) cI 7 u.2.2.2.2.2.2.2.2.2.2.2.2.2.2.2.1, rA (qs 8) cI 9 u.2.2.2.2.2.2.2.2.2.2.2.2.2.2.2.2.1, rA (qs 9) cI 9 u.2.2.2.2.2.2.2.2.2.2.2.2.2.2.2.2.2.1, rA (qs 10) cI 9 u.2.2.2.2.2.2.2.2.2.2.2.2.2.2.2.2.2.2.1, rA (qs 11) cI 4 u.2.2.2.2.2.2.2.2.2.2.2.2.2.2.2.2.2.2.2.1, rA (qs 12) cI 4 u.2.2.2.2.2.2.2.2.2.2.2.2.2.2.2.2.2.2.2.2.1, rA (qs 13) cI 4 u.2.2.2.2.2.2.2.2.2.2.2.2.2.2.2.2.2.2.2.2.2.1, rA (qs 14) cI 4 u.2.2.2.2.2.2.2.2.2.2.2.2.2.2.2.2.2.2.2.2.2.2.1, rA (qs 15) cI 8 u.2.2.2.2.2.2.2.2.2.2.2.2.2.2.2.2.2.2.2.2.2.2.2.1, oX1 qt u.2.2.2.2.2.2.2.2.2.2.2.2.2.2.2.2.2.2.2.2.2.2.2.2.1 u.2.2.2.2.2.2.2.2.2.2.2.2.2.2.2.2.2.2.2.2.2.2.2.2.2.1 u.2.2.2.2.2.2.2.2.2.2.2.2.2.2.2.2.2.2.2.2.2.2.2.2.2.2.1 u.2.2.2.2.2.2.2.2.2.2.2.2.2.2.2.2.2.2.2.2.2.2.2.2.2.2.2.1 u.2.2.2.2.2.2.2.2.2.2.2.2.2.2.2.2.2.2.2.2.2.2.2.2.2.2.2.2.1, oX3 qto u.2.2.2.2.2.2.2.2.2.2.2.2.2.2.2.2.2.2.2.2.2.2.2.2.2.2.2.2.2.1 u.2.2.2.2.2.2.2.2.2.2.2.2.2.2.2.2.2.2.2.2.2.2.2.2.2.2.2.2.2.2.1, oX5 qw u.2.2.2.2.2.2.2.2.2.2.2.2.2.2.2.2.2.2.2.2.2.2.2.2.2.2.2.2.2.2.2 w_bestWorth w_bestSet]) [oX6 q (qr 0) (qm 0) (qs 0) (qt 0) (qro 0) (qto 0) (qw 0) v_asked, rA (q 6) cZ 2 v_kept, oX2 qr r_length r_place r_token r_tokenAt r_value r_fault, rA (qr 1) cI 200 r_text, oX4 qs s_cornerCount s_streetCount s_guideCount s_bellCount s_hand s_handTold, rA (qs 7) cI 7 s_marks, rA (qs 8) cI 9 s_ends, rA (qs 9) cI 9 s_farEnds, rA (qs 10) cI 9 s_lengths, rA (qs 11) cI 4 s_paces, rA (qs 12) cI 4 s_fees, rA (qs 13) cI 4 s_knows, rA (qs 14) cI 4 s_his, rA (qs 15) cI 8 s_bells, oX1 qt t_corner t_minute t_paid t_leader t_undoable, oX3 qto to_felt to_walked, oX5 qw w_size w_bestWorth w_bestSet] sz) 0 0 (va_A [oX6 q (qr 0) (qm 0) (qs 0) (qt 0) (qro 0) (qto 0) (qw 0) v_asked, rA (q 6) cZ 2 v_kept, oX2 qr r_length r_place r_token r_tokenAt r_value r_fault, rA (qr 1) cI 200 r_text, oX4 qs s_cornerCount s_streetCount s_guideCount s_bellCount s_hand s_handTold, rA (qs 7) cI 7 s_marks, rA (qs 8) cI 9 s_ends, rA (qs 9) cI 9 s_farEnds, rA (qs 10) cI 9 s_lengths, rA (qs 11) cI 4 s_paces, rA (qs 12) cI 4 s_fees, rA (qs 13) cI 4 s_knows, rA (qs 14) cI 4 s_his, rA (qs 15) cI 8 s_bells, oX1 qt t_corner t_minute t_paid t_leader t_undoable, oX3 qto to_felt to_walked, oX5 qw w_size w_bestWorth w_bestSet] sz) := by
  refine vx_meth_i (by decide) rfl (Nat.le_of_ble_eq_true rfl) ?_
  intro p e s m args below meth c A Q hx hb hml hown hts hK hP hD hA hS hret ls hl
  have hown : s.vm.findClass RX6 = some m.cls := hown
  have hl : lv_has ls 4 [(0, .ref (q 0))] := hl
  have hFx : CallFix p m c cX6_town 4 s args wsX6_town RX6 := ⟨hx, hb, hml, hown, hts⟩
  have lk37 := hts (.fieldLink RX6 37 "FogGuides" "kept" "[Z") (by decide +kernel)
  have iw6 : ∀ w ∈ u_ws RX6 TX6 10, w ∈ wsX6_town := by decide +kernel
  have lk10 := hts (.fieldLink RX6 10 "FogGuides" "reader" "LFogGuides$TextReader;") (by decide +kernel)
  have lk23 := hts (.fieldLink RX6 23 "FogGuides" "spareMap" "LFogGuides$TownMap;") (by decide +kernel)
  have lk19 := hts (.fieldLink RX6 19 "FogGuides" "map" "LFogGuides$TownMap;") (by decide +kernel)
  have lk70 := hts (.fieldLink RX6 70 "FogGuides$TextReader" "length" "I") (by decide +kernel)
  have iw2 : ∀ w ∈ u_ws RX2 TX2 7, w ∈ wsX6_town := by decide +kernel
  have lk29 := hts (.fieldLink RX6 29 "FogGuides" "tale" "LFogGuides$Tale;") (by decide +kernel)
  have lk51 := hts (.fieldLink RX6 51 "FogGuides" "touches" "LFogGuides$Touches;") (by decide +kernel)
  have lk58 := hts (.fieldLink RX6 58 "FogGuides" "wishList" "LFogGuides$WishList;") (by decide +kernel)
  have lk84 := hts (.fieldLink RX6 84 "FogGuides$WishList" "size" "I") (by decide +kernel)
  have iw5 : ∀ w ∈ u_ws RX5 TX5 7, w ∈ wsX6_town := by decide +kernel
  have hL68 : ∀ (n68 : Nat), ∀ (v_map : Nat) (v_spareMap : Nat) (v_kept : (Nat → Int32)) (r_length : Int32) (r_place : Int32) (r_token : Int32) (r_tokenAt : Int32) (r_value : Int32) (r_fault : Int32) (s_cornerCount : Int32) (s_streetCount : Int32) (s_guideCount : Int32) (s_bellCount : Int32) (s_hand : Int32) (s_handTold : Int32) (s_marks : (Nat → Int32)) (s_ends : (Nat → Int32)) (s_farEnds : (Nat → Int32)) (s_lengths : (Nat → Int32)) (s_paces : (Nat → Int32)) (s_fees : (Nat → Int32)) (s_knows : (Nat → Int32)) (s_his : (Nat → Int32)) (s_bells : (Nat → Int32)) (t_corner : Int32) (t_minute : Int32) (t_paid : Int32) (t_leader : Int32) (t_undoable : Int32) (to_felt : Int32) (to_walked : Int32) (w_size : Int32) (x1 : Int32) (x3 : Int32) (H : Heap) (locs : List Loc) (ls : Array Slot), f_X6_town_L68 fu n68 v_map v_spareMap v_kept r_text r_length r_place r_token r_tokenAt r_value r_fault s_cornerCount s_streetCount s_guideCount s_bellCount s_hand s_handTold s_marks s_ends s_farEnds s_lengths s_paces s_fees s_knows s_his s_bells t_corner t_minute t_paid t_leader t_undoable to_felt to_walked w_size x1 x3 = some res → va_P D vwCl [oX6 q (qr 0) (v_map) (v_spareMap) (qt 0) (qro 0) (qto 0) (qw 0) v_asked, rA (q 6) cZ 2 v_kept, oX2 qr r_length r_place r_token r_tokenAt r_value r_fault, rA (qr 1) cI 200 r_text, oX4 qs s_cornerCount s_streetCount s_guideCount s_bellCount s_hand s_handTold, rA (qs 7) cI 7 s_marks, rA (qs 8) cI 9 s_ends, rA (qs 9) cI 9 s_farEnds, rA (qs 10) cI 9 s_lengths, rA (qs 11) cI 4 s_paces, rA (qs 12) cI 4 s_fees, rA (qs 13) cI 4 s_knows, rA (qs 14) cI 4 s_his, rA (qs 15) cI 8 s_bells, oX1 qt t_corner t_minute t_paid t_leader t_undoable, oX3 qto to_felt to_walked, oX5 qw w_size w_bestWorth w_bestSet] H → va_D A [oX6 q (qr 0) (v_map) (v_spareMap) (qt 0) (qro 0) (qto 0) (qw 0) v_asked, rA (q 6) cZ 2 v_kept, oX2 qr r_length r_place r_token r_tokenAt r_value r_fault, rA (qr 1) cI 200 r_text, oX4 qs s_cornerCount s_streetCount s_guideCount s_bellCount s_hand s_handTold, rA (qs 7) cI 7 s_marks, rA (qs 8) cI 9 s_ends, rA (qs 9) cI 9 s_farEnds, rA (qs 10) cI 9 s_lengths, rA (qs 11) cI 4 s_paces, rA (qs 12) cI 4 s_fees, rA (qs 13) cI 4 s_knows, rA (qs 14) cI 4 s_his, rA (qs 15) cI 8 s_bells, oX1 qt t_corner t_minute t_paid t_leader t_undoable, oX3 qto to_felt to_walked, oX5 qw w_size w_bestWorth w_bestSet] → va_S A s.heap H locs → lv_has ls 4 [(0, .ref (q 0)), (1, .int x1), (3, .int x3)] → W p l e rm_X6_town s m args below meth c H locs 0 0 Q (F0 m 68 ls []) := by
    intro n68
    induction n68 with
    | zero =>
      intro v_map v_spareMap v_kept r_length r_place r_token r_tokenAt r_value r_fault s_cornerCount s_streetCount s_guideCount s_bellCount s_hand s_handTold s_marks s_ends s_farEnds s_lengths s_paces s_fees s_knows s_his s_bells t_corner t_minute t_paid t_leader t_undoable to_felt to_walked w_size x1 x3 H locs ls h hP hD hS hl
      cases (show (none : Option R_X6_town) = some res from h)
    | succ n68 ih68 =>
      intro v_map v_spareMap v_kept r_length r_place r_token r_tokenAt r_value r_fault s_cornerCount s_streetCount s_guideCount s_bellCount s_hand s_handTold s_marks s_ends s_farEnds s_lengths s_paces s_fees s_knows s_his s_bells t_corner t_minute t_paid t_leader t_undoable to_felt to_walked w_size x1 x3 H locs ls h hP hD hS hl
      have h : f_X6_town_L68b fu (f_X6_town_L68 fu n68) v_map v_spareMap v_kept r_text r_length r_place r_token r_tokenAt r_value r_fault s_cornerCount s_streetCount s_guideCount s_bellCount s_hand s_handTold s_marks s_ends s_farEnds s_lengths s_paces s_fees s_knows s_his s_bells t_corner t_minute t_paid t_leader t_undoable to_felt to_walked w_size x1 x3 = some res := h
      unfold f_X6_town_L68b at h
      refine lv_iload_n hx hb dX6_town_68 rfl (lv_at hl 2 rfl) ?_
      refine lv_iconst (v := 2) hx hb dX6_town_69 (by decide) ?_
      refine lv_icmp_ge (tgt := 86) hx hb dX6_town_70 (by decide) (fun c1 => ?_) (fun c1 => ?_)
      · have h := (if_pos c1).symm.trans h
        refine lv_iload_n hx hb dX6_town_86 rfl (lv_at hl 1 rfl) ?_
        exact hret x1 (v_map, v_spareMap, v_kept, r_length, r_place, r_token, r_tokenAt, r_value, r_fault, s_cornerCount, s_streetCount, s_guideCount, s_bellCount, s_hand, s_handTold, s_marks, s_ends, s_farEnds, s_lengths, s_paces, s_fees, s_knows, s_his, s_bells, t_corner, t_minute, t_paid, t_leader, t_undoable, to_felt, to_walked, w_size) H locs _ ls (Option.some.inj h) hP hD hS dX6_town_87
      · have h := (if_neg c1).symm.trans h
        refine lv_aload_n hx hb dX6_town_73 rfl (lv_at hl 0 rfl) ?_
        refine va_get (C := RX6) (T := TX6) (N := 10) (v := .ref (q 6)) hx hb hts iw6 hown hK hP 0 rfl rfl 5 (Nat.le_of_ble_eq_true rfl) lk37 (fun _ h9 => h9) rfl dX6_town_74 ?_
        refine lv_iload_n hx hb dX6_town_77 rfl (lv_at hl 2 rfl) ?_
        refine lv_iconst (v := 0) hx hb dX6_town_78 (by decide) ?_
        obtain ⟨hi2, h⟩ := xb_some h
        refine va_zast hx hb hK hP hD hS 1 1 rfl rfl hi2 dX6_town_79 (fun H locs hP hD hS => ?_)
        have hP : va_P D vwCl [oX6 q (qr 0) (v_map) (v_spareMap) (qt 0) (qro 0) (qto 0) (qw 0) v_asked, rA (q 6) cZ 2 (upd v_kept x3.toNatClampNeg (vp_nar .boolean (0 : Int32))), oX2 qr r_length r_place r_token r_tokenAt r_value r_fault, rA (qr 1) cI 200 r_text, oX4 qs s_cornerCount s_streetCount s_guideCount s_bellCount s_hand s_handTold, rA (qs 7) cI 7 s_marks, rA (qs 8) cI 9 s_ends, rA (qs 9) cI 9 s_farEnds, rA (qs 10) cI 9 s_lengths, rA (qs 11) cI 4 s_paces, rA (qs 12) cI 4 s_fees, rA (qs 13) cI 4 s_knows, rA (qs 14) cI 4 s_his, rA (qs 15) cI 8 s_bells, oX1 qt t_corner t_minute t_paid t_leader t_undoable, oX3 qto to_felt to_walked, oX5 qw w_size w_bestWorth w_bestSet] H := hP
        have hD : va_D A [oX6 q (qr 0) (v_map) (v_spareMap) (qt 0) (qro 0) (qto 0) (qw 0) v_asked, rA (q 6) cZ 2 (upd v_kept x3.toNatClampNeg (vp_nar .boolean (0 : Int32))), oX2 qr r_length r_place r_token r_tokenAt r_value r_fault, rA (qr 1) cI 200 r_text, oX4 qs s_cornerCount s_streetCount s_guideCount s_bellCount s_hand s_handTold, rA (qs 7) cI 7 s_marks, rA (qs 8) cI 9 s_ends, rA (qs 9) cI 9 s_farEnds, rA (qs 10) cI 9 s_lengths, rA (qs 11) cI 4 s_paces, rA (qs 12) cI 4 s_fees, rA (qs 13) cI 4 s_knows, rA (qs 14) cI 4 s_his, rA (qs 15) cI 8 s_bells, oX1 qt t_corner t_minute t_paid t_leader t_undoable, oX3 qto to_felt to_walked, oX5 qw w_size w_bestWorth w_bestSet] := hD
        refine lv_iinc (v := x3 + 1) (lv' := [(3, .int (x3 + 1)), (0, .ref (q 0)), (1, .int x1)]) hx hb dX6_town_80 hl (k := 2) rfl rfl (by decide) rfl (fun ls hl => ?_)
        refine lv_goto (tgt := 68) hx hb dX6_town_83 (by decide) ?_
        exact ih68 v_map v_spareMap (upd v_kept x3.toNatClampNeg (vp_nar .boolean (0 : Int32))) r_length r_place r_token r_tokenAt r_value r_fault s_cornerCount s_streetCount s_guideCount s_bellCount s_hand s_handTold s_marks s_ends s_farEnds s_lengths s_paces s_fees s_knows s_his s_bells t_corner t_minute t_paid t_leader t_undoable to_felt to_walked w_size x1 (x3 + 1) H locs ls h hP hD hS (lv_sub hl [1, 2, 0] rfl)
  have h := hf
  unfold f_X6_town at h
  obtain ⟨H, eH⟩ : ∃ H, H = s.heap := ⟨_, rfl⟩
  rw [← eH] at hP ⊢
  obtain ⟨locs, el⟩ : ∃ locs : List Loc, locs = [] := ⟨_, rfl⟩
  rw [← el] at hS ⊢
  have hS : va_S A s.heap H locs := by rw [eH]; exact hS
  refine lv_aload_n hx hb dX6_town_0 rfl (lv_at hl 0 rfl) ?_
  refine va_get (C := RX6) (T := TX6) (N := 10) (v := .ref (qr 0)) hx hb hts iw6 hown hK hP 0 rfl rfl 0 (Nat.le_of_ble_eq_true rfl) lk10 (fun _ h9 => h9) rfl dX6_town_1 ?_
  refine lv_aload_n hx hb dX6_town_4 rfl (lv_at hl 0 rfl) ?_
  refine va_get (C := RX6) (T := TX6) (N := 10) (v := .ref (qs 0)) hx hb hts iw6 hown hK hP 0 rfl rfl 2 (Nat.le_of_ble_eq_true rfl) lk23 (fun _ h9 => h9) rfl dX6_town_5 ?_
  obtain ⟨r3, hr3, h⟩ := xk_some h
  refine vx_VI (As := [.ref (qs 0)]) (rest := []) (wr := [oX6 q (qr 0) (qm 0) (qs 0) (qt 0) (qro 0) (qto 0) (qw 0) v_asked, rA (q 6) cZ 2 v_kept, oX1 qt t_corner t_minute t_paid t_leader t_undoable, oX3 qto to_felt to_walked, oX5 qw w_size w_bestWorth w_bestSet]) (wn := [oX6 q (qr 0) (qm 0) (qs 0) (qt 0) (qro 0) (qto 0) (qw 0) v_asked, rA (q 6) cZ 2 v_kept, oX2 qr r_length r3.2.1 r3.2.2.1 r3.2.2.2.1 r3.2.2.2.2.1 r3.2.2.2.2.2.1, rA (qr 1) cI 200 r_text, oX4 qs r3.2.2.2.2.2.2.1 r3.2.2.2.2.2.2.2.1 r3.2.2.2.2.2.2.2.2.1 r3.2.2.2.2.2.2.2.2.2.1 r3.2.2.2.2.2.2.2.2.2.2.1 r3.2.2.2.2.2.2.2.2.2.2.2.1, rA (qs 7) cI 7 r3.2.2.2.2.2.2.2.2.2.2.2.2.1, rA (qs 8) cI 9 r3.2.2.2.2.2.2.2.2.2.2.2.2.2.1, rA (qs 9) cI 9 r3.2.2.2.2.2.2.2.2.2.2.2.2.2.2.1, rA (qs 10) cI 9 r3.2.2.2.2.2.2.2.2.2.2.2.2.2.2.2.1, rA (qs 11) cI 4 r3.2.2.2.2.2.2.2.2.2.2.2.2.2.2.2.2.1, rA (qs 12) cI 4 r3.2.2.2.2.2.2.2.2.2.2.2.2.2.2.2.2.2.1, rA (qs 13) cI 4 r3.2.2.2.2.2.2.2.2.2.2.2.2.2.2.2.2.2.2.1, rA (qs 14) cI 4 r3.2.2.2.2.2.2.2.2.2.2.2.2.2.2.2.2.2.2.2.1, rA (qs 15) cI 8 r3.2.2.2.2.2.2.2.2.2.2.2.2.2.2.2.2.2.2.2.2, oX1 qt t_corner t_minute t_paid t_leader t_undoable, oX3 qto to_felt to_walked, oX5 qw w_size w_bestWorth w_bestSet]) hFx (k_X2_readInto l D cI cZ cT qr qs H.size r_length r_place r_token r_tokenAt r_value r_fault s_cornerCount s_streetCount s_guideCount s_bellCount s_hand s_handTold r_text s_marks s_ends s_farEnds s_lengths s_paces s_fees s_knows s_his s_bells r3 fu hr3) (cwV 1 hts gX6_town_X2_readInto rfl rfl rfl (by decide +kernel) ⟨Nat.le_of_ble_eq_true rfl, Nat.le_of_ble_eq_true rfl⟩) hK hP hD hS hA [2, 3, 4, 5, 6, 7, 8, 9, 10, 11, 12, 13] [0, 1, 14, 15, 16] [0, 1, 5, 6, 7, 8, 9, 10, 11, 12, 13, 14, 15, 16, 2, 3, 4] rfl rfl rfl rfl (by decide) rfl rfl 2 0 rfl rfl rfl hl.1 rfl (Nat.le_of_ble_eq_true rfl) dX6_town_8 ⟨Nat.zero_le _, Nat.zero_le _⟩ (fun H locs hP hD hS => ?_)
  refine lv_istore_n (lv' := [(1, .int r3.1), (0, .ref (q 0))]) hx hb dX6_town_11 rfl hl (by decide) rfl (fun ls hl => ?_)
  refine lv_iload_n hx hb dX6_town_12 rfl (lv_at hl 0 rfl) ?_
  refine lv_if_ge (tgt := 18) hx hb dX6_town_13 (by decide) (fun c4 => ?_) (fun c4 => ?_)
  · have h := (if_pos c4).symm.trans h
    refine lv_aload_n hx hb dX6_town_18 rfl (lv_at hl 1 rfl) ?_
    refine va_get (C := RX6) (T := TX6) (N := 10) (v := .ref (qm 0)) hx hb hts iw6 hown hK hP 0 rfl rfl 1 (Nat.le_of_ble_eq_true rfl) lk19 (fun _ h9 => h9) rfl dX6_town_19 ?_
    refine lv_astore_n (lv' := [(2, .ref (qm 0)), (1, .int r3.1), (0, .ref (q 0))]) hx hb dX6_town_22 rfl hl (by decide) rfl (fun ls hl => ?_)
    refine lv_aload_n hx hb dX6_town_23 rfl (lv_at hl 2 rfl) ?_
    refine lv_aload_n hx hb dX6_town_24 rfl (lv_at hl 2 rfl) ?_
    refine va_get (C := RX6) (T := TX6) (N := 10) (v := .ref (qs 0)) hx hb hts iw6 hown hK hP 0 rfl rfl 2 (Nat.le_of_ble_eq_true rfl) lk23 (fun _ h9 => h9) rfl dX6_town_25 ?_
    refine va_put (C := RX6) (T := TX6) (N := 10) (v := .ref (qs 0)) (ty := .object "FogGuides$TownMap") hx hb hts iw6 tyX6 tyX6_ok nmX6 hown hK hP hD hS 0 rfl rfl 1 (Nat.le_of_ble_eq_true rfl) lk19 (fun _ h9 => h9) rfl (by decide +kernel) rfl rfl (Nat.le_of_ble_eq_true rfl) dX6_town_28 (fun H locs hP hD hS => ?_)
    have hP : va_P D vwCl [oX6 q (qr 0) (qs 0) (qs 0) (qt 0) (qro 0) (qto 0) (qw 0) v_asked, rA (q 6) cZ 2 v_kept, oX2 qr r_length r3.2.1 r3.2.2.1 r3.2.2.2.1 r3.2.2.2.2.1 r3.2.2.2.2.2.1, rA (qr 1) cI 200 r_text, oX4 qs r3.2.2.2.2.2.2.1 r3.2.2.2.2.2.2.2.1 r3.2.2.2.2.2.2.2.2.1 r3.2.2.2.2.2.2.2.2.2.1 r3.2.2.2.2.2.2.2.2.2.2.1 r3.2.2.2.2.2.2.2.2.2.2.2.1, rA (qs 7) cI 7 r3.2.2.2.2.2.2.2.2.2.2.2.2.1, rA (qs 8) cI 9 r3.2.2.2.2.2.2.2.2.2.2.2.2.2.1, rA (qs 9) cI 9 r3.2.2.2.2.2.2.2.2.2.2.2.2.2.2.1, rA (qs 10) cI 9 r3.2.2.2.2.2.2.2.2.2.2.2.2.2.2.2.1, rA (qs 11) cI 4 r3.2.2.2.2.2.2.2.2.2.2.2.2.2.2.2.2.1, rA (qs 12) cI 4 r3.2.2.2.2.2.2.2.2.2.2.2.2.2.2.2.2.2.1, rA (qs 13) cI 4 r3.2.2.2.2.2.2.2.2.2.2.2.2.2.2.2.2.2.2.1, rA (qs 14) cI 4 r3.2.2.2.2.2.2.2.2.2.2.2.2.2.2.2.2.2.2.2.1, rA (qs 15) cI 8 r3.2.2.2.2.2.2.2.2.2.2.2.2.2.2.2.2.2.2.2.2, oX1 qt t_corner t_minute t_paid t_leader t_undoable, oX3 qto to_felt to_walked, oX5 qw w_size w_bestWorth w_bestSet] H := hP
    have hD : va_D A [oX6 q (qr 0) (qs 0) (qs 0) (qt 0) (qro 0) (qto 0) (qw 0) v_asked, rA (q 6) cZ 2 v_kept, oX2 qr r_length r3.2.1 r3.2.2.1 r3.2.2.2.1 r3.2.2.2.2.1 r3.2.2.2.2.2.1, rA (qr 1) cI 200 r_text, oX4 qs r3.2.2.2.2.2.2.1 r3.2.2.2.2.2.2.2.1 r3.2.2.2.2.2.2.2.2.1 r3.2.2.2.2.2.2.2.2.2.1 r3.2.2.2.2.2.2.2.2.2.2.1 r3.2.2.2.2.2.2.2.2.2.2.2.1, rA (qs 7) cI 7 r3.2.2.2.2.2.2.2.2.2.2.2.2.1, rA (qs 8) cI 9 r3.2.2.2.2.2.2.2.2.2.2.2.2.2.1, rA (qs 9) cI 9 r3.2.2.2.2.2.2.2.2.2.2.2.2.2.2.1, rA (qs 10) cI 9 r3.2.2.2.2.2.2.2.2.2.2.2.2.2.2.2.1, rA (qs 11) cI 4 r3.2.2.2.2.2.2.2.2.2.2.2.2.2.2.2.2.1, rA (qs 12) cI 4 r3.2.2.2.2.2.2.2.2.2.2.2.2.2.2.2.2.2.1, rA (qs 13) cI 4 r3.2.2.2.2.2.2.2.2.2.2.2.2.2.2.2.2.2.2.1, rA (qs 14) cI 4 r3.2.2.2.2.2.2.2.2.2.2.2.2.2.2.2.2.2.2.2.1, rA (qs 15) cI 8 r3.2.2.2.2.2.2.2.2.2.2.2.2.2.2.2.2.2.2.2.2, oX1 qt t_corner t_minute t_paid t_leader t_undoable, oX3 qto to_felt to_walked, oX5 qw w_size w_bestWorth w_bestSet] := hD
    refine lv_aload_n hx hb dX6_town_31 rfl (lv_at hl 2 rfl) ?_
    refine lv_aload_n hx hb dX6_town_32 rfl (lv_at hl 0 rfl) ?_
    refine va_put (C := RX6) (T := TX6) (N := 10) (v := .ref (qm 0)) (ty := .object "FogGuides$TownMap") hx hb hts iw6 tyX6 tyX6_ok nmX6 hown hK hP hD hS 0 rfl rfl 2 (Nat.le_of_ble_eq_true rfl) lk23 (fun _ h9 => h9) rfl (by decide +kernel) rfl rfl (Nat.le_of_ble_eq_true rfl) dX6_town_33 (fun H locs hP hD hS => ?_)
    have hP : va_P D vwCl [oX6 q (qr 0) (qs 0) (qm 0) (qt 0) (qro 0) (qto 0) (qw 0) v_asked, rA (q 6) cZ 2 v_kept, oX2 qr r_length r3.2.1 r3.2.2.1 r3.2.2.2.1 r3.2.2.2.2.1 r3.2.2.2.2.2.1, rA (qr 1) cI 200 r_text, oX4 qs r3.2.2.2.2.2.2.1 r3.2.2.2.2.2.2.2.1 r3.2.2.2.2.2.2.2.2.1 r3.2.2.2.2.2.2.2.2.2.1 r3.2.2.2.2.2.2.2.2.2.2.1 r3.2.2.2.2.2.2.2.2.2.2.2.1, rA (qs 7) cI 7 r3.2.2.2.2.2.2.2.2.2.2.2.2.1, rA (qs 8) cI 9 r3.2.2.2.2.2.2.2.2.2.2.2.2.2.1, rA (qs 9) cI 9 r3.2.2.2.2.2.2.2.2.2.2.2.2.2.2.1, rA (qs 10) cI 9 r3.2.2.2.2.2.2.2.2.2.2.2.2.2.2.2.1, rA (qs 11) cI 4 r3.2.2.2.2.2.2.2.2.2.2.2.2.2.2.2.2.1, rA (qs 12) cI 4 r3.2.2.2.2.2.2.2.2.2.2.2.2.2.2.2.2.2.1, rA (qs 13) cI 4 r3.2.2.2.2.2.2.2.2.2.2.2.2.2.2.2.2.2.2.1, rA (qs 14) cI 4 r3.2.2.2.2.2.2.2.2.2.2.2.2.2.2.2.2.2.2.2.1, rA (qs 15) cI 8 r3.2.2.2.2.2.2.2.2.2.2.2.2.2.2.2.2.2.2.2.2, oX1 qt t_corner t_minute t_paid t_leader t_undoable, oX3 qto to_felt to_walked, oX5 qw w_size w_bestWorth w_bestSet] H := hP
    have hD : va_D A [oX6 q (qr 0) (qs 0) (qm 0) (qt 0) (qro 0) (qto 0) (qw 0) v_asked, rA (q 6) cZ 2 v_kept, oX2 qr r_length r3.2.1 r3.2.2.1 r3.2.2.2.1 r3.2.2.2.2.1 r3.2.2.2.2.2.1, rA (qr 1) cI 200 r_text, oX4 qs r3.2.2.2.2.2.2.1 r3.2.2.2.2.2.2.2.1 r3.2.2.2.2.2.2.2.2.1 r3.2.2.2.2.2.2.2.2.2.1 r3.2.2.2.2.2.2.2.2.2.2.1 r3.2.2.2.2.2.2.2.2.2.2.2.1, rA (qs 7) cI 7 r3.2.2.2.2.2.2.2.2.2.2.2.2.1, rA (qs 8) cI 9 r3.2.2.2.2.2.2.2.2.2.2.2.2.2.1, rA (qs 9) cI 9 r3.2.2.2.2.2.2.2.2.2.2.2.2.2.2.1, rA (qs 10) cI 9 r3.2.2.2.2.2.2.2.2.2.2.2.2.2.2.2.1, rA (qs 11) cI 4 r3.2.2.2.2.2.2.2.2.2.2.2.2.2.2.2.2.1, rA (qs 12) cI 4 r3.2.2.2.2.2.2.2.2.2.2.2.2.2.2.2.2.2.1, rA (qs 13) cI 4 r3.2.2.2.2.2.2.2.2.2.2.2.2.2.2.2.2.2.2.1, rA (qs 14) cI 4 r3.2.2.2.2.2.2.2.2.2.2.2.2.2.2.2.2.2.2.2.1, rA (qs 15) cI 8 r3.2.2.2.2.2.2.2.2.2.2.2.2.2.2.2.2.2.2.2.2, oX1 qt t_corner t_minute t_paid t_leader t_undoable, oX3 qto to_felt to_walked, oX5 qw w_size w_bestWorth w_bestSet] := hD
    refine lv_aload_n hx hb dX6_town_36 rfl (lv_at hl 2 rfl) ?_
    refine va_get (C := RX6) (T := TX6) (N := 10) (v := .ref (qr 0)) hx hb hts iw6 hown hK hP 0 rfl rfl 0 (Nat.le_of_ble_eq_true rfl) lk10 (fun _ h9 => h9) rfl dX6_town_37 ?_
    refine lv_iconst (v := 0) hx hb dX6_town_40 (by decide) ?_
    refine va_put (C := RX2) (T := TX2) (N := 7) (v := .int (0 : Int32)) (ty := .int) hx hb hts iw2 tyX2 tyX2_ok nmX2 hown hK hP hD hS 2 rfl rfl 1 (Nat.le_of_ble_eq_true rfl) lk70 (fun _ h9 => h9) rfl (by decide +kernel) rfl rfl (Nat.le_of_ble_eq_true rfl) dX6_town_41 (fun H locs hP hD hS => ?_)
    have hP : va_P D vwCl [oX6 q (qr 0) (qs 0) (qm 0) (qt 0) (qro 0) (qto 0) (qw 0) v_asked, rA (q 6) cZ 2 v_kept, oX2 qr (0 : Int32) r3.2.1 r3.2.2.1 r3.2.2.2.1 r3.2.2.2.2.1 r3.2.2.2.2.2.1, rA (qr 1) cI 200 r_text, oX4 qs r3.2.2.2.2.2.2.1 r3.2.2.2.2.2.2.2.1 r3.2.2.2.2.2.2.2.2.1 r3.2.2.2.2.2.2.2.2.2.1 r3.2.2.2.2.2.2.2.2.2.2.1 r3.2.2.2.2.2.2.2.2.2.2.2.1, rA (qs 7) cI 7 r3.2.2.2.2.2.2.2.2.2.2.2.2.1, rA (qs 8) cI 9 r3.2.2.2.2.2.2.2.2.2.2.2.2.2.1, rA (qs 9) cI 9 r3.2.2.2.2.2.2.2.2.2.2.2.2.2.2.1, rA (qs 10) cI 9 r3.2.2.2.2.2.2.2.2.2.2.2.2.2.2.2.1, rA (qs 11) cI 4 r3.2.2.2.2.2.2.2.2.2.2.2.2.2.2.2.2.1, rA (qs 12) cI 4 r3.2.2.2.2.2.2.2.2.2.2.2.2.2.2.2.2.2.1, rA (qs 13) cI 4 r3.2.2.2.2.2.2.2.2.2.2.2.2.2.2.2.2.2.2.1, rA (qs 14) cI 4 r3.2.2.2.2.2.2.2.2.2.2.2.2.2.2.2.2.2.2.2.1, rA (qs 15) cI 8 r3.2.2.2.2.2.2.2.2.2.2.2.2.2.2.2.2.2.2.2.2, oX1 qt t_corner t_minute t_paid t_leader t_undoable, oX3 qto to_felt to_walked, oX5 qw w_size w_bestWorth w_bestSet] H := hP
    have hD : va_D A [oX6 q (qr 0) (qs 0) (qm 0) (qt 0) (qro 0) (qto 0) (qw 0) v_asked, rA (q 6) cZ 2 v_kept, oX2 qr (0 : Int32) r3.2.1 r3.2.2.1 r3.2.2.2.1 r3.2.2.2.2.1 r3.2.2.2.2.2.1, rA (qr 1) cI 200 r_text, oX4 qs r3.2.2.2.2.2.2.1 r3.2.2.2.2.2.2.2.1 r3.2.2.2.2.2.2.2.2.1 r3.2.2.2.2.2.2.2.2.2.1 r3.2.2.2.2.2.2.2.2.2.2.1 r3.2.2.2.2.2.2.2.2.2.2.2.1, rA (qs 7) cI 7 r3.2.2.2.2.2.2.2.2.2.2.2.2.1, rA (qs 8) cI 9 r3.2.2.2.2.2.2.2.2.2.2.2.2.2.1, rA (qs 9) cI 9 r3.2.2.2.2.2.2.2.2.2.2.2.2.2.2.1, rA (qs 10) cI 9 r3.2.2.2.2.2.2.2.2.2.2.2.2.2.2.2.1, rA (qs 11) cI 4 r3.2.2.2.2.2.2.2.2.2.2.2.2.2.2.2.2.1, rA (qs 12) cI 4 r3.2.2.2.2.2.2.2.2.2.2.2.2.2.2.2.2.2.1, rA (qs 13) cI 4 r3.2.2.2.2.2.2.2.2.2.2.2.2.2.2.2.2.2.2.1, rA (qs 14) cI 4 r3.2.2.2.2.2.2.2.2.2.2.2.2.2.2.2.2.2.2.2.1, rA (qs 15) cI 8 r3.2.2.2.2.2.2.2.2.2.2.2.2.2.2.2.2.2.2.2.2, oX1 qt t_corner t_minute t_paid t_leader t_undoable, oX3 qto to_felt to_walked, oX5 qw w_size w_bestWorth w_bestSet] := hD
    refine lv_aload_n hx hb dX6_town_44 rfl (lv_at hl 2 rfl) ?_
    refine va_get (C := RX6) (T := TX6) (N := 10) (v := .ref (qt 0)) hx hb hts iw6 hown hK hP 0 rfl rfl 3 (Nat.le_of_ble_eq_true rfl) lk29 (fun _ h9 => h9) rfl dX6_town_45 ?_
    obtain ⟨r5, hr5, h⟩ := xk_some h
    refine vx_VV (As := []) (rest := []) (wr := [oX6 q (qr 0) (qs 0) (qm 0) (qt 0) (qro 0) (qto 0) (qw 0) v_asked, rA (q 6) cZ 2 v_kept, oX2 qr (0 : Int32) r3.2.1 r3.2.2.1 r3.2.2.2.1 r3.2.2.2.2.1 r3.2.2.2.2.2.1, rA (qr 1) cI 200 r_text, oX4 qs r3.2.2.2.2.2.2.1 r3.2.2.2.2.2.2.2.1 r3.2.2.2.2.2.2.2.2.1 r3.2.2.2.2.2.2.2.2.2.1 r3.2.2.2.2.2.2.2.2.2.2.1 r3.2.2.2.2.2.2.2.2.2.2.2.1, rA (qs 7) cI 7 r3.2.2.2.2.2.2.2.2.2.2.2.2.1, rA (qs 8) cI 9 r3.2.2.2.2.2.2.2.2.2.2.2.2.2.1, rA (qs 9) cI 9 r3.2.2.2.2.2.2.2.2.2.2.2.2.2.2.1, rA (qs 10) cI 9 r3.2.2.2.2.2.2.2.2.2.2.2.2.2.2.2.1, rA (qs 11) cI 4 r3.2.2.2.2.2.2.2.2.2.2.2.2.2.2.2.2.1, rA (qs 12) cI 4 r3.2.2.2.2.2.2.2.2.2.2.2.2.2.2.2.2.2.1, rA (qs 13) cI 4 r3.2.2.2.2.2.2.2.2.2.2.2.2.2.2.2.2.2.2.1, rA (qs 14) cI 4 r3.2.2.2.2.2.2.2.2.2.2.2.2.2.2.2.2.2.2.2.1, rA (qs 15) cI 8 r3.2.2.2.2.2.2.2.2.2.2.2.2.2.2.2.2.2.2.2.2, oX3 qto to_felt to_walked, oX5 qw w_size w_bestWorth w_bestSet]) (wn := [oX6 q (qr 0) (qs 0) (qm 0) (qt 0) (qro 0) (qto 0) (qw 0) v_asked, rA (q 6) cZ 2 v_kept, oX2 qr (0 : Int32) r3.2.1 r3.2.2.1 r3.2.2.2.1 r3.2.2.2.2.1 r3.2.2.2.2.2.1, rA (qr 1) cI 200 r_text, oX4 qs r3.2.2.2.2.2.2.1 r3.2.2.2.2.2.2.2.1 r3.2.2.2.2.2.2.2.2.1 r3.2.2.2.2.2.2.2.2.2.1 r3.2.2.2.2.2.2.2.2.2.2.1 r3.2.2.2.2.2.2.2.2.2.2.2.1, rA (qs 7) cI 7 r3.2.2.2.2.2.2.2.2.2.2.2.2.1, rA (qs 8) cI 9 r3.2.2.2.2.2.2.2.2.2.2.2.2.2.1, rA (qs 9) cI 9 r3.2.2.2.2.2.2.2.2.2.2.2.2.2.2.1, rA (qs 10) cI 9 r3.2.2.2.2.2.2.2.2.2.2.2.2.2.2.2.1, rA (qs 11) cI 4 r3.2.2.2.2.2.2.2.2.2.2.2.2.2.2.2.2.1, rA (qs 12) cI 4 r3.2.2.2.2.2.2.2.2.2.2.2.2.2.2.2.2.2.1, rA (qs 13) cI 4 r3.2.2.2.2.2.2.2.2.2.2.2.2.2.2.2.2.2.2.1, rA (qs 14) cI 4 r3.2.2.2.2.2.2.2.2.2.2.2.2.2.2.2.2.2.2.2.1, rA (qs 15) cI 8 r3.2.2.2.2.2.2.2.2.2.2.2.2.2.2.2.2.2.2.2.2, oX1 qt r5.1 r5.2.1 r5.2.2.1 r5.2.2.2.1 r5.2.2.2.2, oX3 qto to_felt to_walked, oX5 qw w_size w_bestWorth w_bestSet]) hFx (k_X1_startAnew l D cI cZ cT qt H.size t_corner t_minute t_paid t_leader t_undoable r5 hr5) (cwV 0 hts gX6_town_X1_startAnew rfl rfl rfl (by decide +kernel) ⟨Nat.le_of_ble_eq_true rfl, Nat.le_of_ble_eq_true rfl⟩) hK hP hD hS hA [14] [0, 1, 2, 3, 4, 5, 6, 7, 8, 9, 10, 11, 12, 13, 15, 16] [0, 1, 2, 3, 4, 5, 6, 7, 8, 9, 10, 11, 12, 13, 16, 14, 15] rfl rfl rfl rfl (by decide) rfl rfl 1 0 rfl rfl rfl hl.1 rfl (Nat.le_of_ble_eq_true rfl) dX6_town_48 ⟨Nat.zero_le _, Nat.zero_le _⟩ (fun H locs hP hD hS => ?_)
    refine lv_aload_n hx hb dX6_town_51 rfl (lv_at hl 2 rfl) ?_
    refine va_get (C := RX6) (T := TX6) (N := 10) (v := .ref (qto 0)) hx hb hts iw6 hown hK hP 0 rfl rfl 7 (Nat.le_of_ble_eq_true rfl) lk51 (fun _ h9 => h9) rfl dX6_town_52 ?_
    obtain ⟨r6, hr6, h⟩ := xk_some h
    refine vx_VV (As := []) (rest := []) (wr := [oX6 q (qr 0) (qs 0) (qm 0) (qt 0) (qro 0) (qto 0) (qw 0) v_asked, rA (q 6) cZ 2 v_kept, oX2 qr (0 : Int32) r3.2.1 r3.2.2.1 r3.2.2.2.1 r3.2.2.2.2.1 r3.2.2.2.2.2.1, rA (qr 1) cI 200 r_text, oX4 qs r3.2.2.2.2.2.2.1 r3.2.2.2.2.2.2.2.1 r3.2.2.2.2.2.2.2.2.1 r3.2.2.2.2.2.2.2.2.2.1 r3.2.2.2.2.2.2.2.2.2.2.1 r3.2.2.2.2.2.2.2.2.2.2.2.1, rA (qs 7) cI 7 r3.2.2.2.2.2.2.2.2.2.2.2.2.1, rA (qs 8) cI 9 r3.2.2.2.2.2.2.2.2.2.2.2.2.2.1, rA (qs 9) cI 9 r3.2.2.2.2.2.2.2.2.2.2.2.2.2.2.1, rA (qs 10) cI 9 r3.2.2.2.2.2.2.2.2.2.2.2.2.2.2.2.1, rA (qs 11) cI 4 r3.2.2.2.2.2.2.2.2.2.2.2.2.2.2.2.2.1, rA (qs 12) cI 4 r3.2.2.2.2.2.2.2.2.2.2.2.2.2.2.2.2.2.1, rA (qs 13) cI 4 r3.2.2.2.2.2.2.2.2.2.2.2.2.2.2.2.2.2.2.1, rA (qs 14) cI 4 r3.2.2.2.2.2.2.2.2.2.2.2.2.2.2.2.2.2.2.2.1, rA (qs 15) cI 8 r3.2.2.2.2.2.2.2.2.2.2.2.2.2.2.2.2.2.2.2.2, oX1 qt r5.1 r5.2.1 r5.2.2.1 r5.2.2.2.1 r5.2.2.2.2, oX5 qw w_size w_bestWorth w_bestSet]) (wn := [oX6 q (qr 0) (qs 0) (qm 0) (qt 0) (qro 0) (qto 0) (qw 0) v_asked, rA (q 6) cZ 2 v_kept, oX2 qr (0 : Int32) r3.2.1 r3.2.2.1 r3.2.2.2.1 r3.2.2.2.2.1 r3.2.2.2.2.2.1, rA (qr 1) cI 200 r_text, oX4 qs r3.2.2.2.2.2.2.1 r3.2.2.2.2.2.2.2.1 r3.2.2.2.2.2.2.2.2.1 r3.2.2.2.2.2.2.2.2.2.1 r3.2.2.2.2.2.2.2.2.2.2.1 r3.2.2.2.2.2.2.2.2.2.2.2.1, rA (qs 7) cI 7 r3.2.2.2.2.2.2.2.2.2.2.2.2.1, rA (qs 8) cI 9 r3.2.2.2.2.2.2.2.2.2.2.2.2.2.1, rA (qs 9) cI 9 r3.2.2.2.2.2.2.2.2.2.2.2.2.2.2.1, rA (qs 10) cI 9 r3.2.2.2.2.2.2.2.2.2.2.2.2.2.2.2.1, rA (qs 11) cI 4 r3.2.2.2.2.2.2.2.2.2.2.2.2.2.2.2.2.1, rA (qs 12) cI 4 r3.2.2.2.2.2.2.2.2.2.2.2.2.2.2.2.2.2.1, rA (qs 13) cI 4 r3.2.2.2.2.2.2.2.2.2.2.2.2.2.2.2.2.2.2.1, rA (qs 14) cI 4 r3.2.2.2.2.2.2.2.2.2.2.2.2.2.2.2.2.2.2.2.1, rA (qs 15) cI 8 r3.2.2.2.2.2.2.2.2.2.2.2.2.2.2.2.2.2.2.2.2, oX1 qt r5.1 r5.2.1 r5.2.2.1 r5.2.2.2.1 r5.2.2.2.2, oX3 qto r6.1 r6.2, oX5 qw w_size w_bestWorth w_bestSet]) hFx (k_X3_forgetAll l D cI cZ cT qto H.size to_felt to_walked r6 hr6) (cwV 0 hts gX6_town_X3_forgetAll rfl rfl rfl (by decide +kernel) ⟨Nat.le_of_ble_eq_true rfl, Nat.le_of_ble_eq_true rfl⟩) hK hP hD hS hA [15] [0, 1, 2, 3, 4, 5, 6, 7, 8, 9, 10, 11, 12, 13, 14, 16] [0, 1, 2, 3, 4, 5, 6, 7, 8, 9, 10, 11, 12, 13, 14, 16, 15] rfl rfl rfl rfl (by decide) rfl rfl 3 0 rfl rfl rfl hl.1 rfl (Nat.le_of_ble_eq_true rfl) dX6_town_55 ⟨Nat.zero_le _, Nat.zero_le _⟩ (fun H locs hP hD hS => ?_)
    refine lv_aload_n hx hb dX6_town_58 rfl (lv_at hl 2 rfl) ?_
    refine va_get (C := RX6) (T := TX6) (N := 10) (v := .ref (qw 0)) hx hb hts iw6 hown hK hP 0 rfl rfl 8 (Nat.le_of_ble_eq_true rfl) lk58 (fun _ h9 => h9) rfl dX6_town_59 ?_
    refine lv_iconst (v := 0) hx hb dX6_town_62 (by decide) ?_
    refine va_put (C := RX5) (T := TX5) (N := 7) (v := .int (0 : Int32)) (ty := .int) hx hb hts iw5 tyX5 tyX5_ok nmX5 hown hK hP hD hS 16 rfl rfl 0 (Nat.le_of_ble_eq_true rfl) lk84 (fun _ h9 => h9) rfl (by decide +kernel) rfl rfl (Nat.le_of_ble_eq_true rfl) dX6_town_63 (fun H locs hP hD hS => ?_)
    have hP : va_P D vwCl [oX6 q (qr 0) (qs 0) (qm 0) (qt 0) (qro 0) (qto 0) (qw 0) v_asked, rA (q 6) cZ 2 v_kept, oX2 qr (0 : Int32) r3.2.1 r3.2.2.1 r3.2.2.2.1 r3.2.2.2.2.1 r3.2.2.2.2.2.1, rA (qr 1) cI 200 r_text, oX4 qs r3.2.2.2.2.2.2.1 r3.2.2.2.2.2.2.2.1 r3.2.2.2.2.2.2.2.2.1 r3.2.2.2.2.2.2.2.2.2.1 r3.2.2.2.2.2.2.2.2.2.2.1 r3.2.2.2.2.2.2.2.2.2.2.2.1, rA (qs 7) cI 7 r3.2.2.2.2.2.2.2.2.2.2.2.2.1, rA (qs 8) cI 9 r3.2.2.2.2.2.2.2.2.2.2.2.2.2.1, rA (qs 9) cI 9 r3.2.2.2.2.2.2.2.2.2.2.2.2.2.2.1, rA (qs 10) cI 9 r3.2.2.2.2.2.2.2.2.2.2.2.2.2.2.2.1, rA (qs 11) cI 4 r3.2.2.2.2.2.2.2.2.2.2.2.2.2.2.2.2.1, rA (qs 12) cI 4 r3.2.2.2.2.2.2.2.2.2.2.2.2.2.2.2.2.2.1, rA (qs 13) cI 4 r3.2.2.2.2.2.2.2.2.2.2.2.2.2.2.2.2.2.2.1, rA (qs 14) cI 4 r3.2.2.2.2.2.2.2.2.2.2.2.2.2.2.2.2.2.2.2.1, rA (qs 15) cI 8 r3.2.2.2.2.2.2.2.2.2.2.2.2.2.2.2.2.2.2.2.2, oX1 qt r5.1 r5.2.1 r5.2.2.1 r5.2.2.2.1 r5.2.2.2.2, oX3 qto r6.1 r6.2, oX5 qw (0 : Int32) w_bestWorth w_bestSet] H := hP
    have hD : va_D A [oX6 q (qr 0) (qs 0) (qm 0) (qt 0) (qro 0) (qto 0) (qw 0) v_asked, rA (q 6) cZ 2 v_kept, oX2 qr (0 : Int32) r3.2.1 r3.2.2.1 r3.2.2.2.1 r3.2.2.2.2.1 r3.2.2.2.2.2.1, rA (qr 1) cI 200 r_text, oX4 qs r3.2.2.2.2.2.2.1 r3.2.2.2.2.2.2.2.1 r3.2.2.2.2.2.2.2.2.1 r3.2.2.2.2.2.2.2.2.2.1 r3.2.2.2.2.2.2.2.2.2.2.1 r3.2.2.2.2.2.2.2.2.2.2.2.1, rA (qs 7) cI 7 r3.2.2.2.2.2.2.2.2.2.2.2.2.1, rA (qs 8) cI 9 r3.2.2.2.2.2.2.2.2.2.2.2.2.2.1, rA (qs 9) cI 9 r3.2.2.2.2.2.2.2.2.2.2.2.2.2.2.1, rA (qs 10) cI 9 r3.2.2.2.2.2.2.2.2.2.2.2.2.2.2.2.1, rA (qs 11) cI 4 r3.2.2.2.2.2.2.2.2.2.2.2.2.2.2.2.2.1, rA (qs 12) cI 4 r3.2.2.2.2.2.2.2.2.2.2.2.2.2.2.2.2.2.1, rA (qs 13) cI 4 r3.2.2.2.2.2.2.2.2.2.2.2.2.2.2.2.2.2.2.1, rA (qs 14) cI 4 r3.2.2.2.2.2.2.2.2.2.2.2.2.2.2.2.2.2.2.2.1, rA (qs 15) cI 8 r3.2.2.2.2.2.2.2.2.2.2.2.2.2.2.2.2.2.2.2.2, oX1 qt r5.1 r5.2.1 r5.2.2.1 r5.2.2.2.1 r5.2.2.2.2, oX3 qto r6.1 r6.2, oX5 qw (0 : Int32) w_bestWorth w_bestSet] := hD
    refine lv_iconst (v := 0) hx hb dX6_town_66 (by decide) ?_
    refine lv_istore_n (lv' := [(3, .int (0 : Int32)), (2, .ref (qm 0)), (1, .int r3.1), (0, .ref (q 0))]) hx hb dX6_town_67 rfl hl (by decide) rfl (fun ls hl => ?_)
    exact hL68 fu (qs 0) (qm 0) v_kept (0 : Int32) r3.2.1 r3.2.2.1 r3.2.2.2.1 r3.2.2.2.2.1 r3.2.2.2.2.2.1 r3.2.2.2.2.2.2.1 r3.2.2.2.2.2.2.2.1 r3.2.2.2.2.2.2.2.2.1 r3.2.2.2.2.2.2.2.2.2.1 r3.2.2.2.2.2.2.2.2.2.2.1 r3.2.2.2.2.2.2.2.2.2.2.2.1 r3.2.2.2.2.2.2.2.2.2.2.2.2.1 r3.2.2.2.2.2.2.2.2.2.2.2.2.2.1 r3.2.2.2.2.2.2.2.2.2.2.2.2.2.2.1 r3.2.2.2.2.2.2.2.2.2.2.2.2.2.2.2.1 r3.2.2.2.2.2.2.2.2.2.2.2.2.2.2.2.2.1 r3.2.2.2.2.2.2.2.2.2.2.2.2.2.2.2.2.2.1 r3.2.2.2.2.2.2.2.2.2.2.2.2.2.2.2.2.2.2.1 r3.2.2.2.2.2.2.2.2.2.2.2.2.2.2.2.2.2.2.2.1 r3.2.2.2.2.2.2.2.2.2.2.2.2.2.2.2.2.2.2.2.2 r5.1 r5.2.1 r5.2.2.1 r5.2.2.2.1 r5.2.2.2.2 r6.1 r6.2 (0 : Int32) r3.1 (0 : Int32) H locs ls h hP hD hS (lv_sub hl [3, 2, 0] rfl)
  · have h := (if_neg c4).symm.trans h
    refine lv_iload_n hx hb dX6_town_16 rfl (lv_at hl 0 rfl) ?_
    exact hret r3.1 (qm 0, qs 0, v_kept, r_length, r3.2.1, r3.2.2.1, r3.2.2.2.1, r3.2.2.2.2.1, r3.2.2.2.2.2.1, r3.2.2.2.2.2.2.1, r3.2.2.2.2.2.2.2.1, r3.2.2.2.2.2.2.2.2.1, r3.2.2.2.2.2.2.2.2.2.1, r3.2.2.2.2.2.2.2.2.2.2.1, r3.2.2.2.2.2.2.2.2.2.2.2.1, r3.2.2.2.2.2.2.2.2.2.2.2.2.1, r3.2.2.2.2.2.2.2.2.2.2.2.2.2.1, r3.2.2.2.2.2.2.2.2.2.2.2.2.2.2.1, r3.2.2.2.2.2.2.2.2.2.2.2.2.2.2.2.1, r3.2.2.2.2.2.2.2.2.2.2.2.2.2.2.2.2.1, r3.2.2.2.2.2.2.2.2.2.2.2.2.2.2.2.2.2.1, r3.2.2.2.2.2.2.2.2.2.2.2.2.2.2.2.2.2.2.1, r3.2.2.2.2.2.2.2.2.2.2.2.2.2.2.2.2.2.2.2.1, r3.2.2.2.2.2.2.2.2.2.2.2.2.2.2.2.2.2.2.2.2, t_corner, t_minute, t_paid, t_leader, t_undoable, to_felt, to_walked, w_size) H locs _ ls (Option.some.inj h) hP hD hS dX6_town_17
abbrev rm_X6_corner : Room := { frames := 1, cells := 0, slots := 0, locals := 21 }
set_option maxHeartbeats 4000000 in
set_option maxRecDepth 100000 in
theorem k_X6_corner (l : Launch) (D : va_G) (cI cZ cT : ClassId) (q : Nat → Nat) (qr : Nat → Nat) (qm : Nat → Nat) (qs : Nat → Nat) (qt : Nat → Nat) (qro : Nat → Nat) (qto : Nat → Nat) (qw : Nat → Nat) (qi0 : Nat → Nat) (qi1 : Nat → Nat) (sz : Nat) (v_asked : Int64) (m_cornerCount : Int32) (m_streetCount : Int32) (m_guideCount : Int32) (m_bellCount : Int32) (m_hand : Int32) (m_handTold : Int32) (m_marks : Nat → Int32) (x1 : Int32) (res : R_X6_corner) (hf : f_X6_corner m_cornerCount m_marks x1 = some res) : Met l yX6_corner wsX6_corner rm_X6_corner (cPre D (tyz cI cZ cT) [.ref (q 0), .int x1] sz [oX6 q (qr 0) (qm 0) (qs 0) (qt 0) (qro 0) (qto 0) (qw 0) v_asked, oX4 qm m_cornerCount m_streetCount m_guideCount m_bellCount m_hand m_handTold, rA (qm 7) cI 7 m_marks]) (cPi D (tyz cI cZ cT) (fun (r : Int32) (_ : Unit) => r = res) (fun _ => [oX6 q (qr 0) (qm 0) (qs 0) (qt 0) (qro 0) (qto 0) (qw 0) v_asked, oX4 qm m_cornerCount m_streetCount m_guideCount m_bellCount m_hand m_handTold, rA (qm 7) cI 7 m_marks]) [oX6 q (qr 0) (qm 0) (qs 0) (qt 0) (qro 0) (qto 0) (qw 0) v_asked, oX4 qm m_cornerCount m_streetCount m_guideCount m_bellCount m_hand m_handTold, rA (qm 7) cI 7 m_marks] sz) 0 0 (va_A [oX6 q (qr 0) (qm 0) (qs 0) (qt 0) (qro 0) (qto 0) (qw 0) v_asked, oX4 qm m_cornerCount m_streetCount m_guideCount m_bellCount m_hand m_handTold, rA (qm 7) cI 7 m_marks] sz) := by
  refine vx_meth_i (by decide) rfl (Nat.le_of_ble_eq_true rfl) ?_
  intro p e s m args below meth c A Q hx hb hml hown hts hK hP hD hA hS hret ls hl
  have hown : s.vm.findClass RX6 = some m.cls := hown
  have hl : lv_has ls 2 [(0, .ref (q 0)), (1, .int x1)] := hl
  have hFx : CallFix p m c cX6_corner 2 s args wsX6_corner RX6 := ⟨hx, hb, hml, hown, hts⟩
  have lk19 := hts (.fieldLink RX6 19 "FogGuides" "map" "LFogGuides$TownMap;") (by decide +kernel)
  have iw6 : ∀ w ∈ u_ws RX6 TX6 10, w ∈ wsX6_corner := by decide +kernel
  have lk90 := hts (.fieldLink RX6 90 "FogGuides$TownMap" "marks" "[I") (by decide +kernel)
  have iw4 : ∀ w ∈ u_ws RX4 TX4 15, w ∈ wsX6_corner := by decide +kernel
  have h := hf
  unfold f_X6_corner at h
  obtain ⟨H, eH⟩ : ∃ H, H = s.heap := ⟨_, rfl⟩
  rw [← eH] at hP ⊢
  obtain ⟨locs, el⟩ : ∃ locs : List Loc, locs = [] := ⟨_, rfl⟩
  rw [← el] at hS ⊢
  have hS : va_S A s.heap H locs := by rw [eH]; exact hS
  refine lv_aload_n hx hb dX6_corner_0 rfl (lv_at hl 0 rfl) ?_
  refine va_get (C := RX6) (T := TX6) (N := 10) (v := .ref (qm 0)) hx hb hts iw6 hown hK hP 0 rfl rfl 1 (Nat.le_of_ble_eq_true rfl) lk19 (fun _ h9 => h9) rfl dX6_corner_1 ?_
  refine lv_iload_n hx hb dX6_corner_4 rfl (lv_at hl 1 rfl) ?_
  obtain ⟨r1, hr1, h⟩ := xk_some h
  refine vx_VJ (As := [.int x1]) (rest := []) hFx (k_X4_hasCorner l D cI cZ cT qm H.size m_cornerCount m_streetCount m_guideCount m_bellCount m_hand m_handTold x1 r1 hr1) (cwV 1 hts gX6_corner_X4_hasCorner rfl rfl rfl (by decide +kernel) ⟨Nat.le_of_ble_eq_true rfl, Nat.le_of_ble_eq_true rfl⟩) hK hP hD hS hA [1] rfl rfl 4 0 rfl rfl rfl hl.1 rfl (Nat.le_of_ble_eq_true rfl) dX6_corner_5 ⟨Nat.zero_le _, Nat.zero_le _⟩ (fun H locs hP hS => ?_)
  refine lv_if_eq (tgt := 23) hx hb dX6_corner_8 (by decide) (fun c2 => ?_) (fun c2 => ?_)
  · have h := (if_pos c2).symm.trans h
    refine lv_iconst (v := (-1)) hx hb dX6_corner_23 (by decide) ?_
    exact hret (-1 : Int32) () H locs _ ls (Option.some.inj h) hP hD hS dX6_corner_24
  · have h := (if_neg c2).symm.trans h
    refine lv_aload_n hx hb dX6_corner_11 rfl (lv_at hl 0 rfl) ?_
    refine va_get (C := RX6) (T := TX6) (N := 10) (v := .ref (qm 0)) hx hb hts iw6 hown hK hP 0 rfl rfl 1 (Nat.le_of_ble_eq_true rfl) lk19 (fun _ h9 => h9) rfl dX6_corner_12 ?_
    refine va_get (C := RX4) (T := TX4) (N := 15) (v := .ref (qm 7)) hx hb hts iw4 hown hK hP 1 rfl rfl 6 (Nat.le_of_ble_eq_true rfl) lk90 (fun _ h9 => h9) rfl dX6_corner_15 ?_
    refine lv_iload_n hx hb dX6_corner_18 rfl (lv_at hl 1 rfl) ?_
    obtain ⟨hi3, h⟩ := xb_some h
    refine va_iald hx hb hK hP 2 0 rfl rfl hi3 dX6_corner_19 ?_
    refine lv_goto (tgt := 24) hx hb dX6_corner_20 (by decide) ?_
    exact hret (m_marks x1.toNatClampNeg) () H locs _ ls (Option.some.inj h) hP hD hS dX6_corner_24
abbrev rm_X6_street : Room := { frames := 1, cells := 0, slots := 0, locals := 21 }
set_option maxHeartbeats 4000000 in
set_option maxRecDepth 100000 in
theorem k_X6_street (l : Launch) (D : va_G) (cI cZ cT : ClassId) (q : Nat → Nat) (qr : Nat → Nat) (qm : Nat → Nat) (qs : Nat → Nat) (qt : Nat → Nat) (qro : Nat → Nat) (qto : Nat → Nat) (qw : Nat → Nat) (qi0 : Nat → Nat) (qi1 : Nat → Nat) (sz : Nat) (v_asked : Int64) (m_cornerCount : Int32) (m_streetCount : Int32) (m_guideCount : Int32) (m_bellCount : Int32) (m_hand : Int32) (m_handTold : Int32) (m_ends : Nat → Int32) (m_farEnds : Nat → Int32) (m_lengths : Nat → Int32) (x1 : Int32) (x2 : Int32) (res : R_X6_street) (hf : f_X6_street m_streetCount m_ends m_farEnds m_lengths x1 x2 = some res) : Met l yX6_street wsX6_street rm_X6_street (cPre D (tyz cI cZ cT) [.ref (q 0), .int x1, .int x2] sz [oX6 q (qr 0) (qm 0) (qs 0) (qt 0) (qro 0) (qto 0) (qw 0) v_asked, oX4 qm m_cornerCount m_streetCount m_guideCount m_bellCount m_hand m_handTold, rA (qm 8) cI 9 m_ends, rA (qm 9) cI 9 m_farEnds, rA (qm 10) cI 9 m_lengths]) (cPi D (tyz cI cZ cT) (fun (r : Int32) (_ : Unit) => r = res) (fun _ => [oX6 q (qr 0) (qm 0) (qs 0) (qt 0) (qro 0) (qto 0) (qw 0) v_asked, oX4 qm m_cornerCount m_streetCount m_guideCount m_bellCount m_hand m_handTold, rA (qm 8) cI 9 m_ends, rA (qm 9) cI 9 m_farEnds, rA (qm 10) cI 9 m_lengths]) [oX6 q (qr 0) (qm 0) (qs 0) (qt 0) (qro 0) (qto 0) (qw 0) v_asked, oX4 qm m_cornerCount m_streetCount m_guideCount m_bellCount m_hand m_handTold, rA (qm 8) cI 9 m_ends, rA (qm 9) cI 9 m_farEnds, rA (qm 10) cI 9 m_lengths] sz) 0 0 (va_A [oX6 q (qr 0) (qm 0) (qs 0) (qt 0) (qro 0) (qto 0) (qw 0) v_asked, oX4 qm m_cornerCount m_streetCount m_guideCount m_bellCount m_hand m_handTold, rA (qm 8) cI 9 m_ends, rA (qm 9) cI 9 m_farEnds, rA (qm 10) cI 9 m_lengths] sz) := by
  refine vx_meth_i (by decide) rfl (Nat.le_of_ble_eq_true rfl) ?_
  intro p e s m args below meth c A Q hx hb hml hown hts hK hP hD hA hS hret ls hl
  have hown : s.vm.findClass RX6 = some m.cls := hown
  have hl : lv_has ls 3 [(0, .ref (q 0)), (1, .int x1), (2, .int x2)] := hl
  have hFx : CallFix p m c cX6_street 3 s args wsX6_street RX6 := ⟨hx, hb, hml, hown, hts⟩
  have lk19 := hts (.fieldLink RX6 19 "FogGuides" "map" "LFogGuides$TownMap;") (by decide +kernel)
  have iw6 : ∀ w ∈ u_ws RX6 TX6 10, w ∈ wsX6_street := by decide +kernel
  have lk97 := hts (.fieldLink RX6 97 "FogGuides$TownMap" "ends" "[I") (by decide +kernel)
  have iw4 : ∀ w ∈ u_ws RX4 TX4 15, w ∈ wsX6_street := by decide +kernel
  have lk100 := hts (.fieldLink RX6 100 "FogGuides$TownMap" "farEnds" "[I") (by decide +kernel)
  have lk103 := hts (.fieldLink RX6 103 "FogGuides$TownMap" "lengths" "[I") (by decide +kernel)
  have h := hf
  unfold f_X6_street at h
  obtain ⟨H, eH⟩ : ∃ H, H = s.heap := ⟨_, rfl⟩
  rw [← eH] at hP ⊢
  obtain ⟨locs, el⟩ : ∃ locs : List Loc, locs = [] := ⟨_, rfl⟩
  rw [← el] at hS ⊢
  have hS : va_S A s.heap H locs := by rw [eH]; exact hS
  refine lv_aload_n hx hb dX6_street_0 rfl (lv_at hl 0 rfl) ?_
  refine va_get (C := RX6) (T := TX6) (N := 10) (v := .ref (qm 0)) hx hb hts iw6 hown hK hP 0 rfl rfl 1 (Nat.le_of_ble_eq_true rfl) lk19 (fun _ h9 => h9) rfl dX6_street_1 ?_
  refine lv_iload_n hx hb dX6_street_4 rfl (lv_at hl 1 rfl) ?_
  obtain ⟨r1, hr1, h⟩ := xk_some h
  refine vx_VJ (As := [.int x1]) (rest := []) hFx (k_X4_hasStreet l D cI cZ cT qm H.size m_cornerCount m_streetCount m_guideCount m_bellCount m_hand m_handTold x1 r1 hr1) (cwV 1 hts gX6_street_X4_hasStreet rfl rfl rfl (by decide +kernel) ⟨Nat.le_of_ble_eq_true rfl, Nat.le_of_ble_eq_true rfl⟩) hK hP hD hS hA [1] rfl rfl 4 0 rfl rfl rfl hl.1 rfl (Nat.le_of_ble_eq_true rfl) dX6_street_5 ⟨Nat.zero_le _, Nat.zero_le _⟩ (fun H locs hP hS => ?_)
  refine lv_if_ne (tgt := 13) hx hb dX6_street_8 (by decide) (fun c2 => ?_) (fun c2 => ?_)
  · have h := (if_neg c2).symm.trans h
    refine lv_iload_n hx hb dX6_street_13 rfl (lv_at hl 2 rfl) ?_
    by_cases c3 : x2 = (0 : Int32)
    · refine lv_tableIn (off := 26) (tgt := 40) hx hb dX6_street_14 (by rw [c3]; decide) (by rw [c3]; decide) (by rw [c3]; decide) (by decide) ?_
      have h := (if_pos c3).symm.trans h
      refine lv_aload_n hx hb dX6_street_40 rfl (lv_at hl 0 rfl) ?_
      refine va_get (C := RX6) (T := TX6) (N := 10) (v := .ref (qm 0)) hx hb hts iw6 hown hK hP 0 rfl rfl 1 (Nat.le_of_ble_eq_true rfl) lk19 (fun _ h9 => h9) rfl dX6_street_41 ?_
      refine va_get (C := RX4) (T := TX4) (N := 15) (v := .ref (qm 8)) hx hb hts iw4 hown hK hP 1 rfl rfl 7 (Nat.le_of_ble_eq_true rfl) lk97 (fun _ h9 => h9) rfl dX6_street_44 ?_
      refine lv_iload_n hx hb dX6_street_47 rfl (lv_at hl 1 rfl) ?_
      obtain ⟨hi4, h⟩ := xb_some h
      refine va_iald hx hb hK hP 2 0 rfl rfl hi4 dX6_street_48 ?_
      exact hret (m_ends x1.toNatClampNeg) () H locs _ ls (Option.some.inj h) hP hD hS dX6_street_49
    have h := (if_neg c3).symm.trans h
    by_cases c5 : x2 = (1 : Int32)
    · refine lv_tableIn (off := 36) (tgt := 50) hx hb dX6_street_14 (by rw [c5]; decide) (by rw [c5]; decide) (by rw [c5]; decide) (by decide) ?_
      have h := (if_pos c5).symm.trans h
      refine lv_aload_n hx hb dX6_street_50 rfl (lv_at hl 0 rfl) ?_
      refine va_get (C := RX6) (T := TX6) (N := 10) (v := .ref (qm 0)) hx hb hts iw6 hown hK hP 0 rfl rfl 1 (Nat.le_of_ble_eq_true rfl) lk19 (fun _ h9 => h9) rfl dX6_street_51 ?_
      refine va_get (C := RX4) (T := TX4) (N := 15) (v := .ref (qm 9)) hx hb hts iw4 hown hK hP 1 rfl rfl 8 (Nat.le_of_ble_eq_true rfl) lk100 (fun _ h9 => h9) rfl dX6_street_54 ?_
      refine lv_iload_n hx hb dX6_street_57 rfl (lv_at hl 1 rfl) ?_
      obtain ⟨hi6, h⟩ := xb_some h
      refine va_iald hx hb hK hP 3 0 rfl rfl hi6 dX6_street_58 ?_
      exact hret (m_farEnds x1.toNatClampNeg) () H locs _ ls (Option.some.inj h) hP hD hS dX6_street_59
    have h := (if_neg c5).symm.trans h
    by_cases c7 : x2 = (2 : Int32)
    · refine lv_tableIn (off := 46) (tgt := 60) hx hb dX6_street_14 (by rw [c7]; decide) (by rw [c7]; decide) (by rw [c7]; decide) (by decide) ?_
      have h := (if_pos c7).symm.trans h
      refine lv_aload_n hx hb dX6_street_60 rfl (lv_at hl 0 rfl) ?_
      refine va_get (C := RX6) (T := TX6) (N := 10) (v := .ref (qm 0)) hx hb hts iw6 hown hK hP 0 rfl rfl 1 (Nat.le_of_ble_eq_true rfl) lk19 (fun _ h9 => h9) rfl dX6_street_61 ?_
      refine va_get (C := RX4) (T := TX4) (N := 15) (v := .ref (qm 10)) hx hb hts iw4 hown hK hP 1 rfl rfl 9 (Nat.le_of_ble_eq_true rfl) lk103 (fun _ h9 => h9) rfl dX6_street_64 ?_
      refine lv_iload_n hx hb dX6_street_67 rfl (lv_at hl 1 rfl) ?_
      obtain ⟨hi8, h⟩ := xb_some h
      refine va_iald hx hb hK hP 4 0 rfl rfl hi8 dX6_street_68 ?_
      exact hret (m_lengths x1.toNatClampNeg) () H locs _ ls (Option.some.inj h) hP hD hS dX6_street_69
    have h := (if_neg c7).symm.trans h
    refine lv_tableOut (tgt := 70) hx hb dX6_street_14 (sw_out (lo := 0) (hi := 2) (by decide) (by decide) (fun j h1 h2 => ?_)) (by decide) ?_
    · rcases (show j = 0 ∨ j = 1 ∨ j = 2 by omega) with rfl | rfl | rfl
      · exact c3
      · exact c5
      · exact c7
    · refine lv_iconst (v := (-1)) hx hb dX6_street_70 (by decide) ?_
      exact hret (-1 : Int32) () H locs _ ls (Option.some.inj h) hP hD hS dX6_street_71
  · have h := (if_pos c2).symm.trans h
    refine lv_iconst (v := (-1)) hx hb dX6_street_11 (by decide) ?_
    exact hret (-1 : Int32) () H locs _ ls (Option.some.inj h) hP hD hS dX6_street_12
abbrev rm_X6_guide : Room := { frames := 1, cells := 0, slots := 0, locals := 21 }
set_option maxHeartbeats 4000000 in
set_option maxRecDepth 100000 in
theorem k_X6_guide (l : Launch) (D : va_G) (cI cZ cT : ClassId) (q : Nat → Nat) (qr : Nat → Nat) (qm : Nat → Nat) (qs : Nat → Nat) (qt : Nat → Nat) (qro : Nat → Nat) (qto : Nat → Nat) (qw : Nat → Nat) (qi0 : Nat → Nat) (qi1 : Nat → Nat) (sz : Nat) (v_asked : Int64) (m_cornerCount : Int32) (m_streetCount : Int32) (m_guideCount : Int32) (m_bellCount : Int32) (m_hand : Int32) (m_handTold : Int32) (m_paces : Nat → Int32) (m_fees : Nat → Int32) (m_knows : Nat → Int32) (m_his : Nat → Int32) (x1 : Int32) (x2 : Int32) (res : R_X6_guide) (hf : f_X6_guide m_guideCount m_paces m_fees m_knows m_his x1 x2 = some res) : Met l yX6_guide wsX6_guide rm_X6_guide (cPre D (tyz cI cZ cT) [.ref (q 0), .int x1, .int x2] sz [oX6 q (qr 0) (qm 0) (qs 0) (qt 0) (qro 0) (qto 0) (qw 0) v_asked, oX4 qm m_cornerCount m_streetCount m_guideCount m_bellCount m_hand m_handTold, rA (qm 11) cI 4 m_paces, rA (qm 12) cI 4 m_fees, rA (qm 13) cI 4 m_knows, rA (qm 14) cI 4 m_his]) (cPi D (tyz cI cZ cT) (fun (r : Int32) (_ : Unit) => r = res) (fun _ => [oX6 q (qr 0) (qm 0) (qs 0) (qt 0) (qro 0) (qto 0) (qw 0) v_asked, oX4 qm m_cornerCount m_streetCount m_guideCount m_bellCount m_hand m_handTold, rA (qm 11) cI 4 m_paces, rA (qm 12) cI 4 m_fees, rA (qm 13) cI 4 m_knows, rA (qm 14) cI 4 m_his]) [oX6 q (qr 0) (qm 0) (qs 0) (qt 0) (qro 0) (qto 0) (qw 0) v_asked, oX4 qm m_cornerCount m_streetCount m_guideCount m_bellCount m_hand m_handTold, rA (qm 11) cI 4 m_paces, rA (qm 12) cI 4 m_fees, rA (qm 13) cI 4 m_knows, rA (qm 14) cI 4 m_his] sz) 0 0 (va_A [oX6 q (qr 0) (qm 0) (qs 0) (qt 0) (qro 0) (qto 0) (qw 0) v_asked, oX4 qm m_cornerCount m_streetCount m_guideCount m_bellCount m_hand m_handTold, rA (qm 11) cI 4 m_paces, rA (qm 12) cI 4 m_fees, rA (qm 13) cI 4 m_knows, rA (qm 14) cI 4 m_his] sz) := by
  refine vx_meth_i (by decide) rfl (Nat.le_of_ble_eq_true rfl) ?_
  intro p e s m args below meth c A Q hx hb hml hown hts hK hP hD hA hS hret ls hl
  have hown : s.vm.findClass RX6 = some m.cls := hown
  have hl : lv_has ls 3 [(0, .ref (q 0)), (1, .int x1), (2, .int x2)] := hl
  have hFx : CallFix p m c cX6_guide 3 s args wsX6_guide RX6 := ⟨hx, hb, hml, hown, hts⟩
  have lk19 := hts (.fieldLink RX6 19 "FogGuides" "map" "LFogGuides$TownMap;") (by decide +kernel)
  have iw6 : ∀ w ∈ u_ws RX6 TX6 10, w ∈ wsX6_guide := by decide +kernel
  have lk109 := hts (.fieldLink RX6 109 "FogGuides$TownMap" "paces" "[I") (by decide +kernel)
  have iw4 : ∀ w ∈ u_ws RX4 TX4 15, w ∈ wsX6_guide := by decide +kernel
  have lk112 := hts (.fieldLink RX6 112 "FogGuides$TownMap" "fees" "[I") (by decide +kernel)
  have lk115 := hts (.fieldLink RX6 115 "FogGuides$TownMap" "knows" "[I") (by decide +kernel)
  have lk118 := hts (.fieldLink RX6 118 "FogGuides$TownMap" "his" "[I") (by decide +kernel)
  have h := hf
  unfold f_X6_guide at h
  obtain ⟨H, eH⟩ : ∃ H, H = s.heap := ⟨_, rfl⟩
  rw [← eH] at hP ⊢
  obtain ⟨locs, el⟩ : ∃ locs : List Loc, locs = [] := ⟨_, rfl⟩
  rw [← el] at hS ⊢
  have hS : va_S A s.heap H locs := by rw [eH]; exact hS
  refine lv_aload_n hx hb dX6_guide_0 rfl (lv_at hl 0 rfl) ?_
  refine va_get (C := RX6) (T := TX6) (N := 10) (v := .ref (qm 0)) hx hb hts iw6 hown hK hP 0 rfl rfl 1 (Nat.le_of_ble_eq_true rfl) lk19 (fun _ h9 => h9) rfl dX6_guide_1 ?_
  refine lv_iload_n hx hb dX6_guide_4 rfl (lv_at hl 1 rfl) ?_
  obtain ⟨r1, hr1, h⟩ := xk_some h
  refine vx_VJ (As := [.int x1]) (rest := []) hFx (k_X4_hasGuide l D cI cZ cT qm H.size m_cornerCount m_streetCount m_guideCount m_bellCount m_hand m_handTold x1 r1 hr1) (cwV 1 hts gX6_guide_X4_hasGuide rfl rfl rfl (by decide +kernel) ⟨Nat.le_of_ble_eq_true rfl, Nat.le_of_ble_eq_true rfl⟩) hK hP hD hS hA [1] rfl rfl 4 0 rfl rfl rfl hl.1 rfl (Nat.le_of_ble_eq_true rfl) dX6_guide_5 ⟨Nat.zero_le _, Nat.zero_le _⟩ (fun H locs hP hS => ?_)
  refine lv_if_ne (tgt := 13) hx hb dX6_guide_8 (by decide) (fun c2 => ?_) (fun c2 => ?_)
  · have h := (if_neg c2).symm.trans h
    refine lv_iload_n hx hb dX6_guide_13 rfl (lv_at hl 2 rfl) ?_
    by_cases c3 : x2 = (0 : Int32)
    · refine lv_tableIn (off := 30) (tgt := 44) hx hb dX6_guide_14 (by rw [c3]; decide) (by rw [c3]; decide) (by rw [c3]; decide) (by decide) ?_
      have h := (if_pos c3).symm.trans h
      refine lv_aload_n hx hb dX6_guide_44 rfl (lv_at hl 0 rfl) ?_
      refine va_get (C := RX6) (T := TX6) (N := 10) (v := .ref (qm 0)) hx hb hts iw6 hown hK hP 0 rfl rfl 1 (Nat.le_of_ble_eq_true rfl) lk19 (fun _ h9 => h9) rfl dX6_guide_45 ?_
      refine va_get (C := RX4) (T := TX4) (N := 15) (v := .ref (qm 11)) hx hb hts iw4 hown hK hP 1 rfl rfl 10 (Nat.le_of_ble_eq_true rfl) lk109 (fun _ h9 => h9) rfl dX6_guide_48 ?_
      refine lv_iload_n hx hb dX6_guide_51 rfl (lv_at hl 1 rfl) ?_
      obtain ⟨hi4, h⟩ := xb_some h
      refine va_iald hx hb hK hP 2 0 rfl rfl hi4 dX6_guide_52 ?_
      exact hret (m_paces x1.toNatClampNeg) () H locs _ ls (Option.some.inj h) hP hD hS dX6_guide_53
    have h := (if_neg c3).symm.trans h
    by_cases c5 : x2 = (1 : Int32)
    · refine lv_tableIn (off := 40) (tgt := 54) hx hb dX6_guide_14 (by rw [c5]; decide) (by rw [c5]; decide) (by rw [c5]; decide) (by decide) ?_
      have h := (if_pos c5).symm.trans h
      refine lv_aload_n hx hb dX6_guide_54 rfl (lv_at hl 0 rfl) ?_
      refine va_get (C := RX6) (T := TX6) (N := 10) (v := .ref (qm 0)) hx hb hts iw6 hown hK hP 0 rfl rfl 1 (Nat.le_of_ble_eq_true rfl) lk19 (fun _ h9 => h9) rfl dX6_guide_55 ?_
      refine va_get (C := RX4) (T := TX4) (N := 15) (v := .ref (qm 12)) hx hb hts iw4 hown hK hP 1 rfl rfl 11 (Nat.le_of_ble_eq_true rfl) lk112 (fun _ h9 => h9) rfl dX6_guide_58 ?_
      refine lv_iload_n hx hb dX6_guide_61 rfl (lv_at hl 1 rfl) ?_
      obtain ⟨hi6, h⟩ := xb_some h
      refine va_iald hx hb hK hP 3 0 rfl rfl hi6 dX6_guide_62 ?_
      exact hret (m_fees x1.toNatClampNeg) () H locs _ ls (Option.some.inj h) hP hD hS dX6_guide_63
    have h := (if_neg c5).symm.trans h
    by_cases c7 : x2 = (2 : Int32)
    · refine lv_tableIn (off := 50) (tgt := 64) hx hb dX6_guide_14 (by rw [c7]; decide) (by rw [c7]; decide) (by rw [c7]; decide) (by decide) ?_
      have h := (if_pos c7).symm.trans h
      refine lv_aload_n hx hb dX6_guide_64 rfl (lv_at hl 0 rfl) ?_
      refine va_get (C := RX6) (T := TX6) (N := 10) (v := .ref (qm 0)) hx hb hts iw6 hown hK hP 0 rfl rfl 1 (Nat.le_of_ble_eq_true rfl) lk19 (fun _ h9 => h9) rfl dX6_guide_65 ?_
      refine va_get (C := RX4) (T := TX4) (N := 15) (v := .ref (qm 13)) hx hb hts iw4 hown hK hP 1 rfl rfl 12 (Nat.le_of_ble_eq_true rfl) lk115 (fun _ h9 => h9) rfl dX6_guide_68 ?_
      refine lv_iload_n hx hb dX6_guide_71 rfl (lv_at hl 1 rfl) ?_
      obtain ⟨hi8, h⟩ := xb_some h
      refine va_iald hx hb hK hP 4 0 rfl rfl hi8 dX6_guide_72 ?_
      exact hret (m_knows x1.toNatClampNeg) () H locs _ ls (Option.some.inj h) hP hD hS dX6_guide_73
    have h := (if_neg c7).symm.trans h
    by_cases c9 : x2 = (3 : Int32)
    · refine lv_tableIn (off := 60) (tgt := 74) hx hb dX6_guide_14 (by rw [c9]; decide) (by rw [c9]; decide) (by rw [c9]; decide) (by decide) ?_
      have h := (if_pos c9).symm.trans h
      refine lv_aload_n hx hb dX6_guide_74 rfl (lv_at hl 0 rfl) ?_
      refine va_get (C := RX6) (T := TX6) (N := 10) (v := .ref (qm 0)) hx hb hts iw6 hown hK hP 0 rfl rfl 1 (Nat.le_of_ble_eq_true rfl) lk19 (fun _ h9 => h9) rfl dX6_guide_75 ?_
      refine va_get (C := RX4) (T := TX4) (N := 15) (v := .ref (qm 14)) hx hb hts iw4 hown hK hP 1 rfl rfl 13 (Nat.le_of_ble_eq_true rfl) lk118 (fun _ h9 => h9) rfl dX6_guide_78 ?_
      refine lv_iload_n hx hb dX6_guide_81 rfl (lv_at hl 1 rfl) ?_
      obtain ⟨hi10, h⟩ := xb_some h
      refine va_iald hx hb hK hP 5 0 rfl rfl hi10 dX6_guide_82 ?_
      exact hret (m_his x1.toNatClampNeg) () H locs _ ls (Option.some.inj h) hP hD hS dX6_guide_83
    have h := (if_neg c9).symm.trans h
    refine lv_tableOut (tgt := 84) hx hb dX6_guide_14 (sw_out (lo := 0) (hi := 3) (by decide) (by decide) (fun j h1 h2 => ?_)) (by decide) ?_
    · rcases (show j = 0 ∨ j = 1 ∨ j = 2 ∨ j = 3 by omega) with rfl | rfl | rfl | rfl
      · exact c3
      · exact c5
      · exact c7
      · exact c9
    · refine lv_iconst (v := (-1)) hx hb dX6_guide_84 (by decide) ?_
      exact hret (-1 : Int32) () H locs _ ls (Option.some.inj h) hP hD hS dX6_guide_85
  · have h := (if_pos c2).symm.trans h
    refine lv_iconst (v := (-1)) hx hb dX6_guide_11 (by decide) ?_
    exact hret (-1 : Int32) () H locs _ ls (Option.some.inj h) hP hD hS dX6_guide_12
abbrev rm_X6_fog : Room := { frames := 1, cells := 0, slots := 0, locals := 21 }
set_option maxHeartbeats 4000000 in
set_option maxRecDepth 100000 in
theorem k_X6_fog (l : Launch) (D : va_G) (cI cZ cT : ClassId) (q : Nat → Nat) (qr : Nat → Nat) (qm : Nat → Nat) (qs : Nat → Nat) (qt : Nat → Nat) (qro : Nat → Nat) (qto : Nat → Nat) (qw : Nat → Nat) (qi0 : Nat → Nat) (qi1 : Nat → Nat) (sz : Nat) (v_asked : Int64) (m_cornerCount : Int32) (m_streetCount : Int32) (m_guideCount : Int32) (m_bellCount : Int32) (m_hand : Int32) (m_handTold : Int32) (m_bells : Nat → Int32) (x1 : Int32) (res : R_X6_fog) (hf : f_X6_fog m_bellCount m_bells x1 = some res) : Met l yX6_fog wsX6_fog rm_X6_fog (cPre D (tyz cI cZ cT) [.ref (q 0), .int x1] sz [oX6 q (qr 0) (qm 0) (qs 0) (qt 0) (qro 0) (qto 0) (qw 0) v_asked, oX4 qm m_cornerCount m_streetCount m_guideCount m_bellCount m_hand m_handTold, rA (qm 15) cI 8 m_bells]) (cPi D (tyz cI cZ cT) (fun (r : Int32) (_ : Unit) => r = res) (fun _ => [oX6 q (qr 0) (qm 0) (qs 0) (qt 0) (qro 0) (qto 0) (qw 0) v_asked, oX4 qm m_cornerCount m_streetCount m_guideCount m_bellCount m_hand m_handTold, rA (qm 15) cI 8 m_bells]) [oX6 q (qr 0) (qm 0) (qs 0) (qt 0) (qro 0) (qto 0) (qw 0) v_asked, oX4 qm m_cornerCount m_streetCount m_guideCount m_bellCount m_hand m_handTold, rA (qm 15) cI 8 m_bells] sz) 0 0 (va_A [oX6 q (qr 0) (qm 0) (qs 0) (qt 0) (qro 0) (qto 0) (qw 0) v_asked, oX4 qm m_cornerCount m_streetCount m_guideCount m_bellCount m_hand m_handTold, rA (qm 15) cI 8 m_bells] sz) := by
  refine vx_meth_i (by decide) rfl (Nat.le_of_ble_eq_true rfl) ?_
  intro p e s m args below meth c A Q hx hb hml hown hts hK hP hD hA hS hret ls hl
  have hown : s.vm.findClass RX6 = some m.cls := hown
  have hl : lv_has ls 2 [(0, .ref (q 0)), (1, .int x1)] := hl
  have hFx : CallFix p m c cX6_fog 2 s args wsX6_fog RX6 := ⟨hx, hb, hml, hown, hts⟩
  have lk19 := hts (.fieldLink RX6 19 "FogGuides" "map" "LFogGuides$TownMap;") (by decide +kernel)
  have iw6 : ∀ w ∈ u_ws RX6 TX6 10, w ∈ wsX6_fog := by decide +kernel
  have h := hf
  unfold f_X6_fog at h
  obtain ⟨H, eH⟩ : ∃ H, H = s.heap := ⟨_, rfl⟩
  rw [← eH] at hP ⊢
  obtain ⟨locs, el⟩ : ∃ locs : List Loc, locs = [] := ⟨_, rfl⟩
  rw [← el] at hS ⊢
  have hS : va_S A s.heap H locs := by rw [eH]; exact hS
  refine lv_iload_n hx hb dX6_fog_0 rfl (lv_at hl 1 rfl) ?_
  refine lv_if_lt (tgt := 11) hx hb dX6_fog_1 (by decide) (fun c1 => ?_) (fun c1 => ?_)
  · have h := (if_pos c1).symm.trans h
    refine lv_iconst (v := (-1)) hx hb dX6_fog_11 (by decide) ?_
    exact hret (-1 : Int32) () H locs _ ls (Option.some.inj h) hP hD hS dX6_fog_12
  · have h := (if_neg c1).symm.trans h
    refine lv_iload_n hx hb dX6_fog_4 rfl (lv_at hl 1 rfl) ?_
    refine lv_sipush (v := 9999) hx hb dX6_fog_5 (by decide) ?_
    refine lv_icmp_le (tgt := 13) hx hb dX6_fog_8 (by decide) (fun c2 => ?_) (fun c2 => ?_)
    · have h := (if_pos c2).symm.trans h
      refine lv_aload_n hx hb dX6_fog_13 rfl (lv_at hl 0 rfl) ?_
      refine va_get (C := RX6) (T := TX6) (N := 10) (v := .ref (qm 0)) hx hb hts iw6 hown hK hP 0 rfl rfl 1 (Nat.le_of_ble_eq_true rfl) lk19 (fun _ h9 => h9) rfl dX6_fog_14 ?_
      refine lv_iload_n hx hb dX6_fog_17 rfl (lv_at hl 1 rfl) ?_
      obtain ⟨r3, hr3, h⟩ := xk_some h
      refine vx_VJ (As := [.int x1]) (rest := []) hFx (k_X4_isThick l D cI cZ cT qm H.size m_cornerCount m_streetCount m_guideCount m_bellCount m_hand m_handTold m_bells x1 r3 hr3) (cwV 1 hts gX6_fog_X4_isThick rfl rfl rfl (by decide +kernel) ⟨Nat.le_of_ble_eq_true rfl, Nat.le_of_ble_eq_true rfl⟩) hK hP hD hS hA [1, 2] rfl rfl 4 0 rfl rfl rfl hl.1 rfl (Nat.le_of_ble_eq_true rfl) dX6_fog_18 ⟨Nat.zero_le _, Nat.zero_le _⟩ (fun H locs hP hS => ?_)
      refine lv_if_eq (tgt := 28) hx hb dX6_fog_21 (by decide) (fun c4 => ?_) (fun c4 => ?_)
      · have h := (if_pos c4).symm.trans h
        refine lv_iconst (v := 0) hx hb dX6_fog_28 (by decide) ?_
        exact hret (0 : Int32) () H locs _ ls (Option.some.inj h) hP hD hS dX6_fog_29
      · have h := (if_neg c4).symm.trans h
        refine lv_iconst (v := 1) hx hb dX6_fog_24 (by decide) ?_
        refine lv_goto (tgt := 29) hx hb dX6_fog_25 (by decide) ?_
        exact hret (1 : Int32) () H locs _ ls (Option.some.inj h) hP hD hS dX6_fog_29
    · have h := (if_neg c2).symm.trans h
      refine lv_iconst (v := (-1)) hx hb dX6_fog_11 (by decide) ?_
      exact hret (-1 : Int32) () H locs _ ls (Option.some.inj h) hP hD hS dX6_fog_12
abbrev rm_X6_mayHire : Room := { frames := 2, cells := 0, slots := 0, locals := 43 }
set_option maxHeartbeats 4000000 in
set_option maxRecDepth 100000 in
theorem k_X6_mayHire (l : Launch) (D : va_G) (cI cZ cT : ClassId) (q : Nat → Nat) (qr : Nat → Nat) (qm : Nat → Nat) (qs : Nat → Nat) (qt : Nat → Nat) (qro : Nat → Nat) (qto : Nat → Nat) (qw : Nat → Nat) (qi0 : Nat → Nat) (qi1 : Nat → Nat) (sz : Nat) (v_asked : Int64) (m_cornerCount : Int32) (m_streetCount : Int32) (m_guideCount : Int32) (m_bellCount : Int32) (m_hand : Int32) (m_handTold : Int32) (t_corner : Int32) (t_minute : Int32) (t_paid : Int32) (t_leader : Int32) (t_undoable : Int32) (m_his : Nat → Int32) (x1 : Int32) (res : R_X6_mayHire) (hf : f_X6_mayHire m_cornerCount m_guideCount m_hand m_his t_corner t_minute t_leader x1 = some res) : Met l yX6_mayHire wsX6_mayHire rm_X6_mayHire (cPre D (tyz cI cZ cT) [.ref (q 0), .int x1] sz [oX6 q (qr 0) (qm 0) (qs 0) (qt 0) (qro 0) (qto 0) (qw 0) v_asked, oX4 qm m_cornerCount m_streetCount m_guideCount m_bellCount m_hand m_handTold, rA (qm 14) cI 4 m_his, oX1 qt t_corner t_minute t_paid t_leader t_undoable]) (cPi D (tyz cI cZ cT) (fun (r : Int32) (_ : Unit) => r = res) (fun _ => [oX6 q (qr 0) (qm 0) (qs 0) (qt 0) (qro 0) (qto 0) (qw 0) v_asked, oX4 qm m_cornerCount m_streetCount m_guideCount m_bellCount m_hand m_handTold, rA (qm 14) cI 4 m_his, oX1 qt t_corner t_minute t_paid t_leader t_undoable]) [oX6 q (qr 0) (qm 0) (qs 0) (qt 0) (qro 0) (qto 0) (qw 0) v_asked, oX4 qm m_cornerCount m_streetCount m_guideCount m_bellCount m_hand m_handTold, rA (qm 14) cI 4 m_his, oX1 qt t_corner t_minute t_paid t_leader t_undoable] sz) 0 0 (va_A [oX6 q (qr 0) (qm 0) (qs 0) (qt 0) (qro 0) (qto 0) (qw 0) v_asked, oX4 qm m_cornerCount m_streetCount m_guideCount m_bellCount m_hand m_handTold, rA (qm 14) cI 4 m_his, oX1 qt t_corner t_minute t_paid t_leader t_undoable] sz) := by
  refine vx_meth_z (by decide) rfl (Nat.le_of_ble_eq_true rfl) ?_
  intro p e s m args below meth c A Q hx hb hml hown hts hK hP hD hA hS hret ls hl
  have hown : s.vm.findClass RX6 = some m.cls := hown
  have hl : lv_has ls 2 [(0, .ref (q 0)), (1, .int x1)] := hl
  have hFx : CallFix p m c cX6_mayHire 2 s args wsX6_mayHire RX6 := ⟨hx, hb, hml, hown, hts⟩
  have lk19 := hts (.fieldLink RX6 19 "FogGuides" "map" "LFogGuides$TownMap;") (by decide +kernel)
  have iw6 : ∀ w ∈ u_ws RX6 TX6 10, w ∈ wsX6_mayHire := by decide +kernel
  have lk163 := hts (.fieldLink RX6 163 "FogGuides$TownMap" "cornerCount" "I") (by decide +kernel)
  have iw4 : ∀ w ∈ u_ws RX4 TX4 15, w ∈ wsX6_mayHire := by decide +kernel
  have lk29 := hts (.fieldLink RX6 29 "FogGuides" "tale" "LFogGuides$Tale;") (by decide +kernel)
  have lk127 := hts (.fieldLink RX6 127 "FogGuides$Tale" "leader" "I") (by decide +kernel)
  have iw1 : ∀ w ∈ u_ws RX1 TX1 9, w ∈ wsX6_mayHire := by decide +kernel
  have lk133 := hts (.fieldLink RX6 133 "FogGuides$Tale" "corner" "I") (by decide +kernel)
  have lk140 := hts (.fieldLink RX6 140 "FogGuides$Tale" "minute" "I") (by decide +kernel)
  have lk130 := hts (.fieldLink RX6 130 "FogGuides$TownMap" "hand" "I") (by decide +kernel)
  have h := hf
  unfold f_X6_mayHire at h
  obtain ⟨H, eH⟩ : ∃ H, H = s.heap := ⟨_, rfl⟩
  rw [← eH] at hP ⊢
  obtain ⟨locs, el⟩ : ∃ locs : List Loc, locs = [] := ⟨_, rfl⟩
  rw [← el] at hS ⊢
  have hS : va_S A s.heap H locs := by rw [eH]; exact hS
  refine lv_aload_n hx hb dX6_mayHire_0 rfl (lv_at hl 0 rfl) ?_
  refine va_get (C := RX6) (T := TX6) (N := 10) (v := .ref (qm 0)) hx hb hts iw6 hown hK hP 0 rfl rfl 1 (Nat.le_of_ble_eq_true rfl) lk19 (fun _ h9 => h9) rfl dX6_mayHire_1 ?_
  refine va_get (C := RX4) (T := TX4) (N := 15) (v := .int m_cornerCount) hx hb hts iw4 hown hK hP 1 rfl rfl 0 (Nat.le_of_ble_eq_true rfl) lk163 (fun _ h9 => h9) rfl dX6_mayHire_4 ?_
  refine lv_if_eq (tgt := 39) hx hb dX6_mayHire_7 (by decide) (fun c1 => ?_) (fun c1 => ?_)
  · have h := (if_pos c1).symm.trans h
    refine lv_iconst (v := 0) hx hb dX6_mayHire_39 (by decide) ?_
    exact hret (0 : Int32) () H locs _ ls (Or.inl rfl) (Option.some.inj h) hP hD hS dX6_mayHire_40
  · have h := (if_neg c1).symm.trans h
    refine lv_aload_n hx hb dX6_mayHire_10 rfl (lv_at hl 0 rfl) ?_
    refine va_get (C := RX6) (T := TX6) (N := 10) (v := .ref (qt 0)) hx hb hts iw6 hown hK hP 0 rfl rfl 3 (Nat.le_of_ble_eq_true rfl) lk29 (fun _ h9 => h9) rfl dX6_mayHire_11 ?_
    refine va_get (C := RX1) (T := TX1) (N := 9) (v := .int t_leader) hx hb hts iw1 hown hK hP 3 rfl rfl 3 (Nat.le_of_ble_eq_true rfl) lk127 (fun _ h9 => h9) rfl dX6_mayHire_14 ?_
    refine lv_iload_n hx hb dX6_mayHire_17 rfl (lv_at hl 1 rfl) ?_
    refine lv_icmp_eq (tgt := 39) hx hb dX6_mayHire_18 (by decide) (fun c2 => ?_) (fun c2 => ?_)
    · have h := (if_pos c2).symm.trans h
      refine lv_iconst (v := 0) hx hb dX6_mayHire_39 (by decide) ?_
      exact hret (0 : Int32) () H locs _ ls (Or.inl rfl) (Option.some.inj h) hP hD hS dX6_mayHire_40
    · have h := (if_neg c2).symm.trans h
      refine lv_aload_n hx hb dX6_mayHire_21 rfl (lv_at hl 0 rfl) ?_
      refine va_get (C := RX6) (T := TX6) (N := 10) (v := .ref (qm 0)) hx hb hts iw6 hown hK hP 0 rfl rfl 1 (Nat.le_of_ble_eq_true rfl) lk19 (fun _ h9 => h9) rfl dX6_mayHire_22 ?_
      refine lv_iload_n hx hb dX6_mayHire_25 rfl (lv_at hl 1 rfl) ?_
      refine lv_aload_n hx hb dX6_mayHire_26 rfl (lv_at hl 0 rfl) ?_
      refine va_get (C := RX6) (T := TX6) (N := 10) (v := .ref (qt 0)) hx hb hts iw6 hown hK hP 0 rfl rfl 3 (Nat.le_of_ble_eq_true rfl) lk29 (fun _ h9 => h9) rfl dX6_mayHire_27 ?_
      refine va_get (C := RX1) (T := TX1) (N := 9) (v := .int t_corner) hx hb hts iw1 hown hK hP 3 rfl rfl 0 (Nat.le_of_ble_eq_true rfl) lk133 (fun _ h9 => h9) rfl dX6_mayHire_30 ?_
      obtain ⟨r3, hr3, h⟩ := xk_some h
      refine vx_VJ (As := [.int x1, .int t_corner]) (rest := []) hFx (k_X4_isHis l D cI cZ cT qm H.size m_cornerCount m_streetCount m_guideCount m_bellCount m_hand m_handTold m_his x1 t_corner r3 hr3) (cwV 2 hts gX6_mayHire_X4_isHis rfl rfl rfl (by decide +kernel) ⟨Nat.le_of_ble_eq_true rfl, Nat.le_of_ble_eq_true rfl⟩) hK hP hD hS hA [1, 2] rfl rfl 4 0 rfl rfl rfl hl.1 rfl (Nat.le_of_ble_eq_true rfl) dX6_mayHire_33 ⟨Nat.zero_le _, Nat.zero_le _⟩ (fun H locs hP hS => ?_)
      refine lv_if_ne (tgt := 41) hx hb dX6_mayHire_36 (by decide) (fun c4 => ?_) (fun c4 => ?_)
      · have h := (if_neg c4).symm.trans h
        refine lv_aload_n hx hb dX6_mayHire_41 rfl (lv_at hl 0 rfl) ?_
        refine va_get (C := RX6) (T := TX6) (N := 10) (v := .ref (qt 0)) hx hb hts iw6 hown hK hP 0 rfl rfl 3 (Nat.le_of_ble_eq_true rfl) lk29 (fun _ h9 => h9) rfl dX6_mayHire_42 ?_
        refine va_get (C := RX1) (T := TX1) (N := 9) (v := .int t_leader) hx hb hts iw1 hown hK hP 3 rfl rfl 3 (Nat.le_of_ble_eq_true rfl) lk127 (fun _ h9 => h9) rfl dX6_mayHire_45 ?_
        refine lv_bipush (v := (-9)) hx hb dX6_mayHire_48 (by decide) ?_
        refine lv_icmp_ne (tgt := 55) hx hb dX6_mayHire_50 (by decide) (fun c5 => ?_) (fun c5 => ?_)
        · have h := (if_neg c5).symm.trans h
          refine lv_aload_n hx hb dX6_mayHire_55 rfl (lv_at hl 0 rfl) ?_
          refine va_get (C := RX6) (T := TX6) (N := 10) (v := .ref (qm 0)) hx hb hts iw6 hown hK hP 0 rfl rfl 1 (Nat.le_of_ble_eq_true rfl) lk19 (fun _ h9 => h9) rfl dX6_mayHire_56 ?_
          refine lv_aload_n hx hb dX6_mayHire_59 rfl (lv_at hl 0 rfl) ?_
          refine va_get (C := RX6) (T := TX6) (N := 10) (v := .ref (qt 0)) hx hb hts iw6 hown hK hP 0 rfl rfl 3 (Nat.le_of_ble_eq_true rfl) lk29 (fun _ h9 => h9) rfl dX6_mayHire_60 ?_
          refine va_get (C := RX1) (T := TX1) (N := 9) (v := .int t_leader) hx hb hts iw1 hown hK hP 3 rfl rfl 3 (Nat.le_of_ble_eq_true rfl) lk127 (fun _ h9 => h9) rfl dX6_mayHire_63 ?_
          refine lv_aload_n hx hb dX6_mayHire_66 rfl (lv_at hl 0 rfl) ?_
          refine va_get (C := RX6) (T := TX6) (N := 10) (v := .ref (qt 0)) hx hb hts iw6 hown hK hP 0 rfl rfl 3 (Nat.le_of_ble_eq_true rfl) lk29 (fun _ h9 => h9) rfl dX6_mayHire_67 ?_
          refine va_get (C := RX1) (T := TX1) (N := 9) (v := .int t_corner) hx hb hts iw1 hown hK hP 3 rfl rfl 0 (Nat.le_of_ble_eq_true rfl) lk133 (fun _ h9 => h9) rfl dX6_mayHire_70 ?_
          obtain ⟨r6, hr6, h⟩ := xk_some h
          refine vx_VJ (As := [.int t_leader, .int t_corner]) (rest := []) hFx (k_X4_isHis l D cI cZ cT qm H.size m_cornerCount m_streetCount m_guideCount m_bellCount m_hand m_handTold m_his t_leader t_corner r6 hr6) (cwV 2 hts gX6_mayHire_X4_isHis rfl rfl rfl (by decide +kernel) ⟨Nat.le_of_ble_eq_true rfl, Nat.le_of_ble_eq_true rfl⟩) hK hP hD hS hA [1, 2] rfl rfl 4 0 rfl rfl rfl hl.1 rfl (Nat.le_of_ble_eq_true rfl) dX6_mayHire_73 ⟨Nat.zero_le _, Nat.zero_le _⟩ (fun H locs hP hS => ?_)
          refine lv_if_eq (tgt := 104) hx hb dX6_mayHire_76 (by decide) (fun c7 => ?_) (fun c7 => ?_)
          · have h := (if_pos c7).symm.trans h
            refine lv_iconst (v := 0) hx hb dX6_mayHire_104 (by decide) ?_
            exact hret (0 : Int32) () H locs _ ls (Or.inl rfl) (Option.some.inj h) hP hD hS dX6_mayHire_105
          · have h := (if_neg c7).symm.trans h
            refine lv_aload_n hx hb dX6_mayHire_79 rfl (lv_at hl 0 rfl) ?_
            refine va_get (C := RX6) (T := TX6) (N := 10) (v := .ref (qt 0)) hx hb hts iw6 hown hK hP 0 rfl rfl 3 (Nat.le_of_ble_eq_true rfl) lk29 (fun _ h9 => h9) rfl dX6_mayHire_80 ?_
            refine va_get (C := RX1) (T := TX1) (N := 9) (v := .int t_minute) hx hb hts iw1 hown hK hP 3 rfl rfl 1 (Nat.le_of_ble_eq_true rfl) lk140 (fun _ h9 => h9) rfl dX6_mayHire_83 ?_
            refine lv_aload_n hx hb dX6_mayHire_86 rfl (lv_at hl 0 rfl) ?_
            refine va_get (C := RX6) (T := TX6) (N := 10) (v := .ref (qm 0)) hx hb hts iw6 hown hK hP 0 rfl rfl 1 (Nat.le_of_ble_eq_true rfl) lk19 (fun _ h9 => h9) rfl dX6_mayHire_87 ?_
            refine va_get (C := RX4) (T := TX4) (N := 15) (v := .int m_hand) hx hb hts iw4 hown hK hP 1 rfl rfl 4 (Nat.le_of_ble_eq_true rfl) lk130 (fun _ h9 => h9) rfl dX6_mayHire_90 ?_
            refine lv_iadd hx hb dX6_mayHire_93 ?_
            refine lv_sipush (v := 9999) hx hb dX6_mayHire_94 (by decide) ?_
            refine lv_icmp_gt (tgt := 104) hx hb dX6_mayHire_97 (by decide) (fun c8 => ?_) (fun c8 => ?_)
            · have h := (if_pos c8).symm.trans h
              refine lv_iconst (v := 0) hx hb dX6_mayHire_104 (by decide) ?_
              exact hret (0 : Int32) () H locs _ ls (Or.inl rfl) (Option.some.inj h) hP hD hS dX6_mayHire_105
            · have h := (if_neg c8).symm.trans h
              refine lv_iconst (v := 1) hx hb dX6_mayHire_100 (by decide) ?_
              refine lv_goto (tgt := 105) hx hb dX6_mayHire_101 (by decide) ?_
              exact hret (1 : Int32) () H locs _ ls (Or.inr rfl) (Option.some.inj h) hP hD hS dX6_mayHire_105
        · have h := (if_pos c5).symm.trans h
          refine lv_iconst (v := 1) hx hb dX6_mayHire_53 (by decide) ?_
          exact hret (1 : Int32) () H locs _ ls (Or.inr rfl) (Option.some.inj h) hP hD hS dX6_mayHire_54
      · have h := (if_pos c4).symm.trans h
        refine lv_iconst (v := 0) hx hb dX6_mayHire_39 (by decide) ?_
        exact hret (0 : Int32) () H locs _ ls (Or.inl rfl) (Option.some.inj h) hP hD hS dX6_mayHire_40
abbrev rm_X6_hires : Room := { frames := 4, cells := 0, slots := 0, locals := 128 }
set_option maxHeartbeats 4000000 in
set_option maxRecDepth 100000 in
theorem k_X6_hires (l : Launch) (D : va_G) (cI cZ cT : ClassId) (q : Nat → Nat) (qr : Nat → Nat) (qm : Nat → Nat) (qs : Nat → Nat) (qt : Nat → Nat) (qro : Nat → Nat) (qto : Nat → Nat) (qw : Nat → Nat) (qi0 : Nat → Nat) (qi1 : Nat → Nat) (sz : Nat) (v_asked : Int64) (m_cornerCount : Int32) (m_streetCount : Int32) (m_guideCount : Int32) (m_bellCount : Int32) (m_hand : Int32) (m_handTold : Int32) (t_corner : Int32) (t_minute : Int32) (t_paid : Int32) (t_leader : Int32) (t_undoable : Int32) (m_his : Nat → Int32) (t_corners : Nat → Int32) (t_minutes : Nat → Int32) (t_paids : Nat → Int32) (t_leaders : Nat → Int32) (x1 : Int32) (res : R_X6_hires) (hf : f_X6_hires m_cornerCount m_guideCount m_hand m_his t_corner t_minute t_paid t_leader t_undoable t_corners t_minutes t_paids t_leaders x1 = some res) : Met l yX6_hires wsX6_hires rm_X6_hires (cPre D (tyz cI cZ cT) [.ref (q 0), .int x1] sz [oX6 q (qr 0) (qm 0) (qs 0) (qt 0) (qro 0) (qto 0) (qw 0) v_asked, oX4 qm m_cornerCount m_streetCount m_guideCount m_bellCount m_hand m_handTold, rA (qm 14) cI 4 m_his, oX1 qt t_corner t_minute t_paid t_leader t_undoable, rA (qt 6) cI 10 t_corners, rA (qt 7) cI 10 t_minutes, rA (qt 8) cI 10 t_paids, rA (qt 9) cI 10 t_leaders]) (cPi D (tyz cI cZ cT) (fun (r : Int32) (u : Int32 × Int32 × Int32 × Int32 × Int32 × (Nat → Int32) × (Nat → Int32) × (Nat → Int32) × (Nat → Int32)) => (r, u) = res) (fun u => [oX6 q (qr 0) (qm 0) (qs 0) (qt 0) (qro 0) (qto 0) (qw 0) v_asked, oX4 qm m_cornerCount m_streetCount m_guideCount m_bellCount m_hand m_handTold, rA (qm 14) cI 4 m_his, oX1 qt u.1 u.2.1 u.2.2.1 u.2.2.2.1 u.2.2.2.2.1, rA (qt 6) cI 10 u.2.2.2.2.2.1, rA (qt 7) cI 10 u.2.2.2.2.2.2.1, rA (qt 8) cI 10 u.2.2.2.2.2.2.2.1, rA (qt 9) cI 10 u.2.2.2.2.2.2.2.2]) [oX6 q (qr 0) (qm 0) (qs 0) (qt 0) (qro 0) (qto 0) (qw 0) v_asked, oX4 qm m_cornerCount m_streetCount m_guideCount m_bellCount m_hand m_handTold, rA (qm 14) cI 4 m_his, oX1 qt t_corner t_minute t_paid t_leader t_undoable, rA (qt 6) cI 10 t_corners, rA (qt 7) cI 10 t_minutes, rA (qt 8) cI 10 t_paids, rA (qt 9) cI 10 t_leaders] sz) 0 0 (va_A [oX6 q (qr 0) (qm 0) (qs 0) (qt 0) (qro 0) (qto 0) (qw 0) v_asked, oX4 qm m_cornerCount m_streetCount m_guideCount m_bellCount m_hand m_handTold, rA (qm 14) cI 4 m_his, oX1 qt t_corner t_minute t_paid t_leader t_undoable, rA (qt 6) cI 10 t_corners, rA (qt 7) cI 10 t_minutes, rA (qt 8) cI 10 t_paids, rA (qt 9) cI 10 t_leaders] sz) := by
  refine vx_meth_i (by decide) rfl (Nat.le_of_ble_eq_true rfl) ?_
  intro p e s m args below meth c A Q hx hb hml hown hts hK hP hD hA hS hret ls hl
  have hown : s.vm.findClass RX6 = some m.cls := hown
  have hl : lv_has ls 3 [(0, .ref (q 0)), (1, .int x1)] := hl
  have hFx : CallFix p m c cX6_hires 3 s args wsX6_hires RX6 := ⟨hx, hb, hml, hown, hts⟩
  have lk29 := hts (.fieldLink RX6 29 "FogGuides" "tale" "LFogGuides$Tale;") (by decide +kernel)
  have iw6 : ∀ w ∈ u_ws RX6 TX6 10, w ∈ wsX6_hires := by decide +kernel
  have lk133 := hts (.fieldLink RX6 133 "FogGuides$Tale" "corner" "I") (by decide +kernel)
  have iw1 : ∀ w ∈ u_ws RX1 TX1 9, w ∈ wsX6_hires := by decide +kernel
  have lk140 := hts (.fieldLink RX6 140 "FogGuides$Tale" "minute" "I") (by decide +kernel)
  have lk19 := hts (.fieldLink RX6 19 "FogGuides" "map" "LFogGuides$TownMap;") (by decide +kernel)
  have lk127 := hts (.fieldLink RX6 127 "FogGuides$Tale" "leader" "I") (by decide +kernel)
  have lk130 := hts (.fieldLink RX6 130 "FogGuides$TownMap" "hand" "I") (by decide +kernel)
  have iw4 : ∀ w ∈ u_ws RX4 TX4 15, w ∈ wsX6_hires := by decide +kernel
  have hJ47 : ∀ (t_corner : Int32) (t_minute : Int32) (t_paid : Int32) (t_leader : Int32) (t_undoable : Int32) (t_corners : (Nat → Int32)) (t_minutes : (Nat → Int32)) (t_paids : (Nat → Int32)) (t_leaders : (Nat → Int32)) (x1 : Int32) (z0 : Int32) (H : Heap) (locs : List Loc) (ls : Array Slot), f_X6_hires_J47 m_cornerCount m_guideCount m_hand m_his t_corner t_minute t_paid t_leader t_undoable t_corners t_minutes t_paids t_leaders x1 z0 = some res → va_P D vwCl [oX6 q (qr 0) (qm 0) (qs 0) (qt 0) (qro 0) (qto 0) (qw 0) v_asked, oX4 qm m_cornerCount m_streetCount m_guideCount m_bellCount m_hand m_handTold, rA (qm 14) cI 4 m_his, oX1 qt t_corner t_minute t_paid t_leader t_undoable, rA (qt 6) cI 10 t_corners, rA (qt 7) cI 10 t_minutes, rA (qt 8) cI 10 t_paids, rA (qt 9) cI 10 t_leaders] H → va_D A [oX6 q (qr 0) (qm 0) (qs 0) (qt 0) (qro 0) (qto 0) (qw 0) v_asked, oX4 qm m_cornerCount m_streetCount m_guideCount m_bellCount m_hand m_handTold, rA (qm 14) cI 4 m_his, oX1 qt t_corner t_minute t_paid t_leader t_undoable, rA (qt 6) cI 10 t_corners, rA (qt 7) cI 10 t_minutes, rA (qt 8) cI 10 t_paids, rA (qt 9) cI 10 t_leaders] → va_S A s.heap H locs → lv_has ls 3 [(0, .ref (q 0)), (1, .int x1)] → W p l e rm_X6_hires s m args below meth c H locs 0 0 Q (F0 m 47 ls [.int z0]) := by
    intro t_corner t_minute t_paid t_leader t_undoable t_corners t_minutes t_paids t_leaders x1 z0 H locs ls h hP hD hS hl
    unfold f_X6_hires_J47 at h
    refine lv_istore_n (lv' := [(2, .int z0), (0, .ref (q 0)), (1, .int x1)]) hx hb dX6_hires_47 rfl hl (by decide) rfl (fun ls hl => ?_)
    refine lv_aload_n hx hb dX6_hires_48 rfl (lv_at hl 1 rfl) ?_
    refine va_get (C := RX6) (T := TX6) (N := 10) (v := .ref (qt 0)) hx hb hts iw6 hown hK hP 0 rfl rfl 3 (Nat.le_of_ble_eq_true rfl) lk29 (fun _ h9 => h9) rfl dX6_hires_49 ?_
    refine lv_aload_n hx hb dX6_hires_52 rfl (lv_at hl 1 rfl) ?_
    refine va_get (C := RX6) (T := TX6) (N := 10) (v := .ref (qt 0)) hx hb hts iw6 hown hK hP 0 rfl rfl 3 (Nat.le_of_ble_eq_true rfl) lk29 (fun _ h9 => h9) rfl dX6_hires_53 ?_
    refine va_get (C := RX1) (T := TX1) (N := 9) (v := .int t_corner) hx hb hts iw1 hown hK hP 3 rfl rfl 0 (Nat.le_of_ble_eq_true rfl) lk133 (fun _ h9 => h9) rfl dX6_hires_56 ?_
    refine lv_iload_n hx hb dX6_hires_59 rfl (lv_at hl 0 rfl) ?_
    refine lv_iconst (v := 0) hx hb dX6_hires_60 (by decide) ?_
    refine lv_iload_n hx hb dX6_hires_61 rfl (lv_at hl 2 rfl) ?_
    obtain ⟨r1, hr1, h⟩ := xk_some h
    refine vx_VV (As := [.int t_corner, .int z0, .int (0 : Int32), .int x1]) (rest := []) (wr := [oX6 q (qr 0) (qm 0) (qs 0) (qt 0) (qro 0) (qto 0) (qw 0) v_asked, oX4 qm m_cornerCount m_streetCount m_guideCount m_bellCount m_hand m_handTold, rA (qm 14) cI 4 m_his]) (wn := [oX6 q (qr 0) (qm 0) (qs 0) (qt 0) (qro 0) (qto 0) (qw 0) v_asked, oX4 qm m_cornerCount m_streetCount m_guideCount m_bellCount m_hand m_handTold, rA (qm 14) cI 4 m_his, oX1 qt r1.1 r1.2.1 r1.2.2.1 r1.2.2.2.1 r1.2.2.2.2.1, rA (qt 6) cI 10 r1.2.2.2.2.2.1, rA (qt 7) cI 10 r1.2.2.2.2.2.2.1, rA (qt 8) cI 10 r1.2.2.2.2.2.2.2.1, rA (qt 9) cI 10 r1.2.2.2.2.2.2.2.2]) hFx (k_X1_step l D cI cZ cT qt H.size t_corner t_minute t_paid t_leader t_undoable t_corners t_minutes t_paids t_leaders t_corner z0 (0 : Int32) x1 r1 hr1) (cwV 4 hts gX6_hires_X1_step rfl rfl rfl (by decide +kernel) ⟨Nat.le_of_ble_eq_true rfl, Nat.le_of_ble_eq_true rfl⟩) hK hP hD hS hA [3, 4, 5, 6, 7] [0, 1, 2] [0, 1, 2, 3, 4, 5, 6, 7] rfl rfl rfl rfl (by decide) rfl rfl 1 0 rfl rfl rfl hl.1 rfl (Nat.le_of_ble_eq_true rfl) dX6_hires_62 ⟨Nat.zero_le _, Nat.zero_le _⟩ (fun H locs hP hD hS => ?_)
    refine lv_aload_n hx hb dX6_hires_65 rfl (lv_at hl 1 rfl) ?_
    refine va_get (C := RX6) (T := TX6) (N := 10) (v := .ref (qt 0)) hx hb hts iw6 hown hK hP 0 rfl rfl 3 (Nat.le_of_ble_eq_true rfl) lk29 (fun _ h9 => h9) rfl dX6_hires_66 ?_
    refine va_get (C := RX1) (T := TX1) (N := 9) (v := .int r1.2.1) hx hb hts iw1 hown hK hP 3 rfl rfl 1 (Nat.le_of_ble_eq_true rfl) lk140 (fun _ h9 => h9) rfl dX6_hires_69 ?_
    exact hret r1.2.1 (r1.1, r1.2.1, r1.2.2.1, r1.2.2.2.1, r1.2.2.2.2.1, r1.2.2.2.2.2.1, r1.2.2.2.2.2.2.1, r1.2.2.2.2.2.2.2.1, r1.2.2.2.2.2.2.2.2) H locs _ ls (Option.some.inj h) hP hD hS dX6_hires_72
  have h := hf
  unfold f_X6_hires at h
  obtain ⟨H, eH⟩ : ∃ H, H = s.heap := ⟨_, rfl⟩
  rw [← eH] at hP ⊢
  obtain ⟨locs, el⟩ : ∃ locs : List Loc, locs = [] := ⟨_, rfl⟩
  rw [← el] at hS ⊢
  have hS : va_S A s.heap H locs := by rw [eH]; exact hS
  refine lv_aload_n hx hb dX6_hires_0 rfl (lv_at hl 0 rfl) ?_
  refine va_get (C := RX6) (T := TX6) (N := 10) (v := .ref (qm 0)) hx hb hts iw6 hown hK hP 0 rfl rfl 1 (Nat.le_of_ble_eq_true rfl) lk19 (fun _ h9 => h9) rfl dX6_hires_1 ?_
  refine lv_iload_n hx hb dX6_hires_4 rfl (lv_at hl 1 rfl) ?_
  obtain ⟨r2, hr2, h⟩ := xk_some h
  refine vx_VJ (As := [.int x1]) (rest := []) hFx (k_X4_hasGuide l D cI cZ cT qm H.size m_cornerCount m_streetCount m_guideCount m_bellCount m_hand m_handTold x1 r2 hr2) (cwV 1 hts gX6_hires_X4_hasGuide rfl rfl rfl (by decide +kernel) ⟨Nat.le_of_ble_eq_true rfl, Nat.le_of_ble_eq_true rfl⟩) hK hP hD hS hA [1] rfl rfl 4 0 rfl rfl rfl hl.1 rfl (Nat.le_of_ble_eq_true rfl) dX6_hires_5 ⟨Nat.zero_le _, Nat.zero_le _⟩ (fun H locs hP hS => ?_)
  refine lv_if_ne (tgt := 13) hx hb dX6_hires_8 (by decide) (fun c3 => ?_) (fun c3 => ?_)
  · have h := (if_neg c3).symm.trans h
    refine lv_aload_n hx hb dX6_hires_13 rfl (lv_at hl 0 rfl) ?_
    refine lv_iload_n hx hb dX6_hires_14 rfl (lv_at hl 1 rfl) ?_
    obtain ⟨r4, hr4, h⟩ := xk_some h
    refine vx_VJ (As := [.int x1]) (rest := []) hFx (k_X6_mayHire l D cI cZ cT q qr qm qs qt qro qto qw qi0 qi1 H.size v_asked m_cornerCount m_streetCount m_guideCount m_bellCount m_hand m_handTold t_corner t_minute t_paid t_leader t_undoable m_his x1 r4 hr4) (cwV 1 hts gX6_hires_X6_mayHire rfl rfl rfl (by decide +kernel) ⟨Nat.le_of_ble_eq_true rfl, Nat.le_of_ble_eq_true rfl⟩) hK hP hD hS hA [0, 1, 2, 3] rfl rfl 6 0 rfl rfl rfl hl.1 rfl (Nat.le_of_ble_eq_true rfl) dX6_hires_15 ⟨Nat.zero_le _, Nat.zero_le _⟩ (fun H locs hP hS => ?_)
    refine lv_if_ne (tgt := 24) hx hb dX6_hires_18 (by decide) (fun c5 => ?_) (fun c5 => ?_)
    · have h := (if_neg c5).symm.trans h
      refine lv_aload_n hx hb dX6_hires_24 rfl (lv_at hl 0 rfl) ?_
      refine va_get (C := RX6) (T := TX6) (N := 10) (v := .ref (qt 0)) hx hb hts iw6 hown hK hP 0 rfl rfl 3 (Nat.le_of_ble_eq_true rfl) lk29 (fun _ h9 => h9) rfl dX6_hires_25 ?_
      refine va_get (C := RX1) (T := TX1) (N := 9) (v := .int t_leader) hx hb hts iw1 hown hK hP 3 rfl rfl 3 (Nat.le_of_ble_eq_true rfl) lk127 (fun _ h9 => h9) rfl dX6_hires_28 ?_
      refine lv_bipush (v := (-9)) hx hb dX6_hires_31 (by decide) ?_
      refine lv_icmp_ne (tgt := 40) hx hb dX6_hires_33 (by decide) (fun c6 => ?_) (fun c6 => ?_)
      · have h := (if_neg c6).symm.trans h
        refine lv_aload_n hx hb dX6_hires_40 rfl (lv_at hl 0 rfl) ?_
        refine va_get (C := RX6) (T := TX6) (N := 10) (v := .ref (qm 0)) hx hb hts iw6 hown hK hP 0 rfl rfl 1 (Nat.le_of_ble_eq_true rfl) lk19 (fun _ h9 => h9) rfl dX6_hires_41 ?_
        refine va_get (C := RX4) (T := TX4) (N := 15) (v := .int m_hand) hx hb hts iw4 hown hK hP 1 rfl rfl 4 (Nat.le_of_ble_eq_true rfl) lk130 (fun _ h9 => h9) rfl dX6_hires_44 ?_
        exact hJ47 t_corner t_minute t_paid t_leader t_undoable t_corners t_minutes t_paids t_leaders x1 m_hand H locs ls h hP hD hS (lv_sub hl [0, 1] rfl)
      · have h := (if_pos c6).symm.trans h
        refine lv_iconst (v := 0) hx hb dX6_hires_36 (by decide) ?_
        refine lv_goto (tgt := 47) hx hb dX6_hires_37 (by decide) ?_
        exact hJ47 t_corner t_minute t_paid t_leader t_undoable t_corners t_minutes t_paids t_leaders x1 (0 : Int32) H locs ls h hP hD hS (lv_sub hl [0, 1] rfl)
    · have h := (if_pos c5).symm.trans h
      refine lv_bipush (v := (-2)) hx hb dX6_hires_21 (by decide) ?_
      exact hret (-2 : Int32) (t_corner, t_minute, t_paid, t_leader, t_undoable, t_corners, t_minutes, t_paids, t_leaders) H locs _ ls (Option.some.inj h) hP hD hS dX6_hires_23
  · have h := (if_pos c3).symm.trans h
    refine lv_iconst (v := (-1)) hx hb dX6_hires_11 (by decide) ?_
    exact hret (-1 : Int32) (t_corner, t_minute, t_paid, t_leader, t_undoable, t_corners, t_minutes, t_paids, t_leaders) H locs _ ls (Option.some.inj h) hP hD hS dX6_hires_12
abbrev rm_X6_leaves : Room := { frames := 4, cells := 0, slots := 0, locals := 128 }
set_option maxHeartbeats 4000000 in
set_option maxRecDepth 100000 in
theorem k_X6_leaves (l : Launch) (D : va_G) (cI cZ cT : ClassId) (q : Nat → Nat) (qr : Nat → Nat) (qm : Nat → Nat) (qs : Nat → Nat) (qt : Nat → Nat) (qro : Nat → Nat) (qto : Nat → Nat) (qw : Nat → Nat) (qi0 : Nat → Nat) (qi1 : Nat → Nat) (sz : Nat) (v_asked : Int64) (t_corner : Int32) (t_minute : Int32) (t_paid : Int32) (t_leader : Int32) (t_undoable : Int32) (t_corners : Nat → Int32) (t_minutes : Nat → Int32) (t_paids : Nat → Int32) (t_leaders : Nat → Int32) (res : R_X6_leaves) (hf : f_X6_leaves t_corner t_minute t_paid t_leader t_undoable t_corners t_minutes t_paids t_leaders = some res) : Met l yX6_leaves wsX6_leaves rm_X6_leaves (cPre D (tyz cI cZ cT) [.ref (q 0)] sz [oX6 q (qr 0) (qm 0) (qs 0) (qt 0) (qro 0) (qto 0) (qw 0) v_asked, oX1 qt t_corner t_minute t_paid t_leader t_undoable, rA (qt 6) cI 10 t_corners, rA (qt 7) cI 10 t_minutes, rA (qt 8) cI 10 t_paids, rA (qt 9) cI 10 t_leaders]) (cPi D (tyz cI cZ cT) (fun (r : Int32) (u : Int32 × Int32 × Int32 × Int32 × Int32 × (Nat → Int32) × (Nat → Int32) × (Nat → Int32) × (Nat → Int32)) => (r, u) = res) (fun u => [oX6 q (qr 0) (qm 0) (qs 0) (qt 0) (qro 0) (qto 0) (qw 0) v_asked, oX1 qt u.1 u.2.1 u.2.2.1 u.2.2.2.1 u.2.2.2.2.1, rA (qt 6) cI 10 u.2.2.2.2.2.1, rA (qt 7) cI 10 u.2.2.2.2.2.2.1, rA (qt 8) cI 10 u.2.2.2.2.2.2.2.1, rA (qt 9) cI 10 u.2.2.2.2.2.2.2.2]) [oX6 q (qr 0) (qm 0) (qs 0) (qt 0) (qro 0) (qto 0) (qw 0) v_asked, oX1 qt t_corner t_minute t_paid t_leader t_undoable, rA (qt 6) cI 10 t_corners, rA (qt 7) cI 10 t_minutes, rA (qt 8) cI 10 t_paids, rA (qt 9) cI 10 t_leaders] sz) 0 0 (va_A [oX6 q (qr 0) (qm 0) (qs 0) (qt 0) (qro 0) (qto 0) (qw 0) v_asked, oX1 qt t_corner t_minute t_paid t_leader t_undoable, rA (qt 6) cI 10 t_corners, rA (qt 7) cI 10 t_minutes, rA (qt 8) cI 10 t_paids, rA (qt 9) cI 10 t_leaders] sz) := by
  refine vx_meth_i (by decide) rfl (Nat.le_of_ble_eq_true rfl) ?_
  intro p e s m args below meth c A Q hx hb hml hown hts hK hP hD hA hS hret ls hl
  have hown : s.vm.findClass RX6 = some m.cls := hown
  have hl : lv_has ls 2 [(0, .ref (q 0))] := hl
  have hFx : CallFix p m c cX6_leaves 2 s args wsX6_leaves RX6 := ⟨hx, hb, hml, hown, hts⟩
  have lk29 := hts (.fieldLink RX6 29 "FogGuides" "tale" "LFogGuides$Tale;") (by decide +kernel)
  have iw6 : ∀ w ∈ u_ws RX6 TX6 10, w ∈ wsX6_leaves := by decide +kernel
  have lk127 := hts (.fieldLink RX6 127 "FogGuides$Tale" "leader" "I") (by decide +kernel)
  have iw1 : ∀ w ∈ u_ws RX1 TX1 9, w ∈ wsX6_leaves := by decide +kernel
  have lk133 := hts (.fieldLink RX6 133 "FogGuides$Tale" "corner" "I") (by decide +kernel)
  have h := hf
  unfold f_X6_leaves at h
  obtain ⟨H, eH⟩ : ∃ H, H = s.heap := ⟨_, rfl⟩
  rw [← eH] at hP ⊢
  obtain ⟨locs, el⟩ : ∃ locs : List Loc, locs = [] := ⟨_, rfl⟩
  rw [← el] at hS ⊢
  have hS : va_S A s.heap H locs := by rw [eH]; exact hS
  refine lv_aload_n hx hb dX6_leaves_0 rfl (lv_at hl 0 rfl) ?_
  refine va_get (C := RX6) (T := TX6) (N := 10) (v := .ref (qt 0)) hx hb hts iw6 hown hK hP 0 rfl rfl 3 (Nat.le_of_ble_eq_true rfl) lk29 (fun _ h9 => h9) rfl dX6_leaves_1 ?_
  refine va_get (C := RX1) (T := TX1) (N := 9) (v := .int t_leader) hx hb hts iw1 hown hK hP 1 rfl rfl 3 (Nat.le_of_ble_eq_true rfl) lk127 (fun _ h9 => h9) rfl dX6_leaves_4 ?_
  refine lv_istore_n (lv' := [(1, .int t_leader), (0, .ref (q 0))]) hx hb dX6_leaves_7 rfl hl (by decide) rfl (fun ls hl => ?_)
  refine lv_iload_n hx hb dX6_leaves_8 rfl (lv_at hl 0 rfl) ?_
  refine lv_bipush (v := (-9)) hx hb dX6_leaves_9 (by decide) ?_
  refine lv_icmp_ne (tgt := 17) hx hb dX6_leaves_11 (by decide) (fun c1 => ?_) (fun c1 => ?_)
  · have h := (if_neg c1).symm.trans h
    refine lv_aload_n hx hb dX6_leaves_17 rfl (lv_at hl 1 rfl) ?_
    refine va_get (C := RX6) (T := TX6) (N := 10) (v := .ref (qt 0)) hx hb hts iw6 hown hK hP 0 rfl rfl 3 (Nat.le_of_ble_eq_true rfl) lk29 (fun _ h9 => h9) rfl dX6_leaves_18 ?_
    refine lv_aload_n hx hb dX6_leaves_21 rfl (lv_at hl 1 rfl) ?_
    refine va_get (C := RX6) (T := TX6) (N := 10) (v := .ref (qt 0)) hx hb hts iw6 hown hK hP 0 rfl rfl 3 (Nat.le_of_ble_eq_true rfl) lk29 (fun _ h9 => h9) rfl dX6_leaves_22 ?_
    refine va_get (C := RX1) (T := TX1) (N := 9) (v := .int t_corner) hx hb hts iw1 hown hK hP 1 rfl rfl 0 (Nat.le_of_ble_eq_true rfl) lk133 (fun _ h9 => h9) rfl dX6_leaves_25 ?_
    refine lv_iconst (v := 0) hx hb dX6_leaves_28 (by decide) ?_
    refine lv_iconst (v := 0) hx hb dX6_leaves_29 (by decide) ?_
    refine lv_bipush (v := (-9)) hx hb dX6_leaves_30 (by decide) ?_
    obtain ⟨r2, hr2, h⟩ := xk_some h
    refine vx_VV (As := [.int t_corner, .int (0 : Int32), .int (0 : Int32), .int (-9 : Int32)]) (rest := []) (wr := [oX6 q (qr 0) (qm 0) (qs 0) (qt 0) (qro 0) (qto 0) (qw 0) v_asked]) (wn := [oX6 q (qr 0) (qm 0) (qs 0) (qt 0) (qro 0) (qto 0) (qw 0) v_asked, oX1 qt r2.1 r2.2.1 r2.2.2.1 r2.2.2.2.1 r2.2.2.2.2.1, rA (qt 6) cI 10 r2.2.2.2.2.2.1, rA (qt 7) cI 10 r2.2.2.2.2.2.2.1, rA (qt 8) cI 10 r2.2.2.2.2.2.2.2.1, rA (qt 9) cI 10 r2.2.2.2.2.2.2.2.2]) hFx (k_X1_step l D cI cZ cT qt H.size t_corner t_minute t_paid t_leader t_undoable t_corners t_minutes t_paids t_leaders t_corner (0 : Int32) (0 : Int32) (-9 : Int32) r2 hr2) (cwV 4 hts gX6_leaves_X1_step rfl rfl rfl (by decide +kernel) ⟨Nat.le_of_ble_eq_true rfl, Nat.le_of_ble_eq_true rfl⟩) hK hP hD hS hA [1, 2, 3, 4, 5] [0] [0, 1, 2, 3, 4, 5] rfl rfl rfl rfl (by decide) rfl rfl 1 0 rfl rfl rfl hl.1 rfl (Nat.le_of_ble_eq_true rfl) dX6_leaves_32 ⟨Nat.zero_le _, Nat.zero_le _⟩ (fun H locs hP hD hS => ?_)
    refine lv_iload_n hx hb dX6_leaves_35 rfl (lv_at hl 0 rfl) ?_
    exact hret t_leader (r2.1, r2.2.1, r2.2.2.1, r2.2.2.2.1, r2.2.2.2.2.1, r2.2.2.2.2.2.1, r2.2.2.2.2.2.2.1, r2.2.2.2.2.2.2.2.1, r2.2.2.2.2.2.2.2.2) H locs _ ls (Option.some.inj h) hP hD hS dX6_leaves_36
  · have h := (if_pos c1).symm.trans h
    refine lv_bipush (v := (-2)) hx hb dX6_leaves_14 (by decide) ?_
    exact hret (-2 : Int32) (t_corner, t_minute, t_paid, t_leader, t_undoable, t_corners, t_minutes, t_paids, t_leaders) H locs _ ls (Option.some.inj h) hP hD hS dX6_leaves_16
abbrev rm_X6_mayBeLed : Room := { frames := 2, cells := 0, slots := 0, locals := 43 }
set_option maxHeartbeats 4000000 in
set_option maxRecDepth 100000 in
theorem k_X6_mayBeLed (l : Launch) (D : va_G) (cI cZ cT : ClassId) (q : Nat → Nat) (qr : Nat → Nat) (qm : Nat → Nat) (qs : Nat → Nat) (qt : Nat → Nat) (qro : Nat → Nat) (qto : Nat → Nat) (qw : Nat → Nat) (qi0 : Nat → Nat) (qi1 : Nat → Nat) (sz : Nat) (v_asked : Int64) (m_cornerCount : Int32) (m_streetCount : Int32) (m_guideCount : Int32) (m_bellCount : Int32) (m_hand : Int32) (m_handTold : Int32) (t_corner : Int32) (t_minute : Int32) (t_paid : Int32) (t_leader : Int32) (t_undoable : Int32) (m_ends : Nat → Int32) (m_farEnds : Nat → Int32) (m_lengths : Nat → Int32) (m_paces : Nat → Int32) (m_fees : Nat → Int32) (m_knows : Nat → Int32) (x1 : Int32) (res : R_X6_mayBeLed) (hf : f_X6_mayBeLed m_streetCount m_guideCount m_ends m_farEnds m_lengths m_paces m_fees m_knows t_corner t_minute t_paid t_leader x1 = some res) : Met l yX6_mayBeLed wsX6_mayBeLed rm_X6_mayBeLed (cPre D (tyz cI cZ cT) [.ref (q 0), .int x1] sz [oX6 q (qr 0) (qm 0) (qs 0) (qt 0) (qro 0) (qto 0) (qw 0) v_asked, oX4 qm m_cornerCount m_streetCount m_guideCount m_bellCount m_hand m_handTold, rA (qm 8) cI 9 m_ends, rA (qm 9) cI 9 m_farEnds, rA (qm 10) cI 9 m_lengths, rA (qm 11) cI 4 m_paces, rA (qm 12) cI 4 m_fees, rA (qm 13) cI 4 m_knows, oX1 qt t_corner t_minute t_paid t_leader t_undoable]) (cPi D (tyz cI cZ cT) (fun (r : Int32) (_ : Unit) => r = res) (fun _ => [oX6 q (qr 0) (qm 0) (qs 0) (qt 0) (qro 0) (qto 0) (qw 0) v_asked, oX4 qm m_cornerCount m_streetCount m_guideCount m_bellCount m_hand m_handTold, rA (qm 8) cI 9 m_ends, rA (qm 9) cI 9 m_farEnds, rA (qm 10) cI 9 m_lengths, rA (qm 11) cI 4 m_paces, rA (qm 12) cI 4 m_fees, rA (qm 13) cI 4 m_knows, oX1 qt t_corner t_minute t_paid t_leader t_undoable]) [oX6 q (qr 0) (qm 0) (qs 0) (qt 0) (qro 0) (qto 0) (qw 0) v_asked, oX4 qm m_cornerCount m_streetCount m_guideCount m_bellCount m_hand m_handTold, rA (qm 8) cI 9 m_ends, rA (qm 9) cI 9 m_farEnds, rA (qm 10) cI 9 m_lengths, rA (qm 11) cI 4 m_paces, rA (qm 12) cI 4 m_fees, rA (qm 13) cI 4 m_knows, oX1 qt t_corner t_minute t_paid t_leader t_undoable] sz) 0 0 (va_A [oX6 q (qr 0) (qm 0) (qs 0) (qt 0) (qro 0) (qto 0) (qw 0) v_asked, oX4 qm m_cornerCount m_streetCount m_guideCount m_bellCount m_hand m_handTold, rA (qm 8) cI 9 m_ends, rA (qm 9) cI 9 m_farEnds, rA (qm 10) cI 9 m_lengths, rA (qm 11) cI 4 m_paces, rA (qm 12) cI 4 m_fees, rA (qm 13) cI 4 m_knows, oX1 qt t_corner t_minute t_paid t_leader t_undoable] sz) := by
  refine vx_meth_z (by decide) rfl (Nat.le_of_ble_eq_true rfl) ?_
  intro p e s m args below meth c A Q hx hb hml hown hts hK hP hD hA hS hret ls hl
  have hown : s.vm.findClass RX6 = some m.cls := hown
  have hl : lv_has ls 4 [(0, .ref (q 0)), (1, .int x1)] := hl
  have hFx : CallFix p m c cX6_mayBeLed 4 s args wsX6_mayBeLed RX6 := ⟨hx, hb, hml, hown, hts⟩
  have lk29 := hts (.fieldLink RX6 29 "FogGuides" "tale" "LFogGuides$Tale;") (by decide +kernel)
  have iw6 : ∀ w ∈ u_ws RX6 TX6 10, w ∈ wsX6_mayBeLed := by decide +kernel
  have lk127 := hts (.fieldLink RX6 127 "FogGuides$Tale" "leader" "I") (by decide +kernel)
  have iw1 : ∀ w ∈ u_ws RX1 TX1 9, w ∈ wsX6_mayBeLed := by decide +kernel
  have lk19 := hts (.fieldLink RX6 19 "FogGuides" "map" "LFogGuides$TownMap;") (by decide +kernel)
  have lk133 := hts (.fieldLink RX6 133 "FogGuides$Tale" "corner" "I") (by decide +kernel)
  have lk140 := hts (.fieldLink RX6 140 "FogGuides$Tale" "minute" "I") (by decide +kernel)
  have lk166 := hts (.fieldLink RX6 166 "FogGuides$Tale" "paid" "I") (by decide +kernel)
  have lk112 := hts (.fieldLink RX6 112 "FogGuides$TownMap" "fees" "[I") (by decide +kernel)
  have iw4 : ∀ w ∈ u_ws RX4 TX4 15, w ∈ wsX6_mayBeLed := by decide +kernel
  have h := hf
  unfold f_X6_mayBeLed at h
  obtain ⟨H, eH⟩ : ∃ H, H = s.heap := ⟨_, rfl⟩
  rw [← eH] at hP ⊢
  obtain ⟨locs, el⟩ : ∃ locs : List Loc, locs = [] := ⟨_, rfl⟩
  rw [← el] at hS ⊢
  have hS : va_S A s.heap H locs := by rw [eH]; exact hS
  refine lv_aload_n hx hb dX6_mayBeLed_0 rfl (lv_at hl 0 rfl) ?_
  refine va_get (C := RX6) (T := TX6) (N := 10) (v := .ref (qt 0)) hx hb hts iw6 hown hK hP 0 rfl rfl 3 (Nat.le_of_ble_eq_true rfl) lk29 (fun _ h9 => h9) rfl dX6_mayBeLed_1 ?_
  refine va_get (C := RX1) (T := TX1) (N := 9) (v := .int t_leader) hx hb hts iw1 hown hK hP 8 rfl rfl 3 (Nat.le_of_ble_eq_true rfl) lk127 (fun _ h9 => h9) rfl dX6_mayBeLed_4 ?_
  refine lv_istore_n (lv' := [(2, .int t_leader), (0, .ref (q 0)), (1, .int x1)]) hx hb dX6_mayBeLed_7 rfl hl (by decide) rfl (fun ls hl => ?_)
  refine lv_aload_n hx hb dX6_mayBeLed_8 rfl (lv_at hl 1 rfl) ?_
  refine va_get (C := RX6) (T := TX6) (N := 10) (v := .ref (qm 0)) hx hb hts iw6 hown hK hP 0 rfl rfl 1 (Nat.le_of_ble_eq_true rfl) lk19 (fun _ h9 => h9) rfl dX6_mayBeLed_9 ?_
  refine lv_iload_n hx hb dX6_mayBeLed_12 rfl (lv_at hl 0 rfl) ?_
  refine lv_iload_n hx hb dX6_mayBeLed_13 rfl (lv_at hl 2 rfl) ?_
  obtain ⟨r1, hr1, h⟩ := xk_some h
  refine vx_VJ (As := [.int t_leader, .int x1]) (rest := []) hFx (k_X4_knowsStreet l D cI cZ cT qm H.size m_cornerCount m_streetCount m_guideCount m_bellCount m_hand m_handTold m_knows t_leader x1 r1 hr1) (cwV 2 hts gX6_mayBeLed_X4_knowsStreet rfl rfl rfl (by decide +kernel) ⟨Nat.le_of_ble_eq_true rfl, Nat.le_of_ble_eq_true rfl⟩) hK hP hD hS hA [1, 7] rfl rfl 4 0 rfl rfl rfl hl.1 rfl (Nat.le_of_ble_eq_true rfl) dX6_mayBeLed_14 ⟨Nat.zero_le _, Nat.zero_le _⟩ (fun H locs hP hS => ?_)
  refine lv_if_eq (tgt := 38) hx hb dX6_mayBeLed_17 (by decide) (fun c2 => ?_) (fun c2 => ?_)
  · have h := (if_pos c2).symm.trans h
    refine lv_iconst (v := 0) hx hb dX6_mayBeLed_38 (by decide) ?_
    exact hret (0 : Int32) () H locs _ ls (Or.inl rfl) (Option.some.inj h) hP hD hS dX6_mayBeLed_39
  · have h := (if_neg c2).symm.trans h
    refine lv_aload_n hx hb dX6_mayBeLed_20 rfl (lv_at hl 1 rfl) ?_
    refine va_get (C := RX6) (T := TX6) (N := 10) (v := .ref (qm 0)) hx hb hts iw6 hown hK hP 0 rfl rfl 1 (Nat.le_of_ble_eq_true rfl) lk19 (fun _ h9 => h9) rfl dX6_mayBeLed_21 ?_
    refine lv_iload_n hx hb dX6_mayBeLed_24 rfl (lv_at hl 2 rfl) ?_
    refine lv_aload_n hx hb dX6_mayBeLed_25 rfl (lv_at hl 1 rfl) ?_
    refine va_get (C := RX6) (T := TX6) (N := 10) (v := .ref (qt 0)) hx hb hts iw6 hown hK hP 0 rfl rfl 3 (Nat.le_of_ble_eq_true rfl) lk29 (fun _ h9 => h9) rfl dX6_mayBeLed_26 ?_
    refine va_get (C := RX1) (T := TX1) (N := 9) (v := .int t_corner) hx hb hts iw1 hown hK hP 8 rfl rfl 0 (Nat.le_of_ble_eq_true rfl) lk133 (fun _ h9 => h9) rfl dX6_mayBeLed_29 ?_
    obtain ⟨r3, hr3, h⟩ := xk_some h
    refine vx_VJ (As := [.int x1, .int t_corner]) (rest := []) hFx (k_X4_isAt l D cI cZ cT qm H.size m_cornerCount m_streetCount m_guideCount m_bellCount m_hand m_handTold m_ends m_farEnds x1 t_corner r3 hr3) (cwV 2 hts gX6_mayBeLed_X4_isAt rfl rfl rfl (by decide +kernel) ⟨Nat.le_of_ble_eq_true rfl, Nat.le_of_ble_eq_true rfl⟩) hK hP hD hS hA [1, 2, 3] rfl rfl 4 0 rfl rfl rfl hl.1 rfl (Nat.le_of_ble_eq_true rfl) dX6_mayBeLed_32 ⟨Nat.zero_le _, Nat.zero_le _⟩ (fun H locs hP hS => ?_)
    refine lv_if_ne (tgt := 40) hx hb dX6_mayBeLed_35 (by decide) (fun c4 => ?_) (fun c4 => ?_)
    · have h := (if_neg c4).symm.trans h
      refine lv_aload_n hx hb dX6_mayBeLed_40 rfl (lv_at hl 1 rfl) ?_
      refine va_get (C := RX6) (T := TX6) (N := 10) (v := .ref (qm 0)) hx hb hts iw6 hown hK hP 0 rfl rfl 1 (Nat.le_of_ble_eq_true rfl) lk19 (fun _ h9 => h9) rfl dX6_mayBeLed_41 ?_
      refine lv_iload_n hx hb dX6_mayBeLed_44 rfl (lv_at hl 0 rfl) ?_
      refine lv_iload_n hx hb dX6_mayBeLed_45 rfl (lv_at hl 2 rfl) ?_
      obtain ⟨r5, hr5, h⟩ := xk_some h
      refine vx_VJ (As := [.int t_leader, .int x1]) (rest := []) hFx (k_X4_ledMinutes l D cI cZ cT qm H.size m_cornerCount m_streetCount m_guideCount m_bellCount m_hand m_handTold m_lengths m_paces t_leader x1 r5 hr5) (cwV 2 hts gX6_mayBeLed_X4_ledMinutes rfl rfl rfl (by decide +kernel) ⟨Nat.le_of_ble_eq_true rfl, Nat.le_of_ble_eq_true rfl⟩) hK hP hD hS hA [1, 4, 5] rfl rfl 4 0 rfl rfl rfl hl.1 rfl (Nat.le_of_ble_eq_true rfl) dX6_mayBeLed_46 ⟨Nat.zero_le _, Nat.zero_le _⟩ (fun H locs hP hS => ?_)
      refine lv_istore_n (lv' := [(3, .int r5), (2, .int t_leader), (0, .ref (q 0)), (1, .int x1)]) hx hb dX6_mayBeLed_49 rfl hl (by decide) rfl (fun ls hl => ?_)
      refine lv_aload_n hx hb dX6_mayBeLed_50 rfl (lv_at hl 2 rfl) ?_
      refine va_get (C := RX6) (T := TX6) (N := 10) (v := .ref (qt 0)) hx hb hts iw6 hown hK hP 0 rfl rfl 3 (Nat.le_of_ble_eq_true rfl) lk29 (fun _ h9 => h9) rfl dX6_mayBeLed_51 ?_
      refine va_get (C := RX1) (T := TX1) (N := 9) (v := .int t_minute) hx hb hts iw1 hown hK hP 8 rfl rfl 1 (Nat.le_of_ble_eq_true rfl) lk140 (fun _ h9 => h9) rfl dX6_mayBeLed_54 ?_
      refine lv_iload_n hx hb dX6_mayBeLed_57 rfl (lv_at hl 0 rfl) ?_
      refine lv_iadd hx hb dX6_mayBeLed_58 ?_
      refine lv_sipush (v := 9999) hx hb dX6_mayBeLed_59 (by decide) ?_
      refine lv_icmp_gt (tgt := 93) hx hb dX6_mayBeLed_62 (by decide) (fun c6 => ?_) (fun c6 => ?_)
      · have h := (if_pos c6).symm.trans h
        refine lv_iconst (v := 0) hx hb dX6_mayBeLed_93 (by decide) ?_
        exact hret (0 : Int32) () H locs _ ls (Or.inl rfl) (Option.some.inj h) hP hD hS dX6_mayBeLed_94
      · have h := (if_neg c6).symm.trans h
        refine lv_aload_n hx hb dX6_mayBeLed_65 rfl (lv_at hl 2 rfl) ?_
        refine va_get (C := RX6) (T := TX6) (N := 10) (v := .ref (qt 0)) hx hb hts iw6 hown hK hP 0 rfl rfl 3 (Nat.le_of_ble_eq_true rfl) lk29 (fun _ h9 => h9) rfl dX6_mayBeLed_66 ?_
        refine va_get (C := RX1) (T := TX1) (N := 9) (v := .int t_paid) hx hb hts iw1 hown hK hP 8 rfl rfl 2 (Nat.le_of_ble_eq_true rfl) lk166 (fun _ h9 => h9) rfl dX6_mayBeLed_69 ?_
        refine lv_aload_n hx hb dX6_mayBeLed_72 rfl (lv_at hl 2 rfl) ?_
        refine va_get (C := RX6) (T := TX6) (N := 10) (v := .ref (qm 0)) hx hb hts iw6 hown hK hP 0 rfl rfl 1 (Nat.le_of_ble_eq_true rfl) lk19 (fun _ h9 => h9) rfl dX6_mayBeLed_73 ?_
        refine va_get (C := RX4) (T := TX4) (N := 15) (v := .ref (qm 12)) hx hb hts iw4 hown hK hP 1 rfl rfl 11 (Nat.le_of_ble_eq_true rfl) lk112 (fun _ h9 => h9) rfl dX6_mayBeLed_76 ?_
        refine lv_iload_n hx hb dX6_mayBeLed_79 rfl (lv_at hl 1 rfl) ?_
        obtain ⟨hi7, h⟩ := xb_some h
        refine va_iald hx hb hK hP 6 0 rfl rfl hi7 dX6_mayBeLed_80 ?_
        refine lv_iload_n hx hb dX6_mayBeLed_81 rfl (lv_at hl 0 rfl) ?_
        refine lv_imul hx hb dX6_mayBeLed_82 ?_
        refine lv_iadd hx hb dX6_mayBeLed_83 ?_
        refine lv_ldc (v := (99999)) hx hb hown (hts (.constant RX6 186 (99999)) (by decide +kernel)) dX6_mayBeLed_84 ?_
        refine lv_icmp_gt (tgt := 93) hx hb dX6_mayBeLed_86 (by decide) (fun c8 => ?_) (fun c8 => ?_)
        · have h := (if_pos c8).symm.trans h
          refine lv_iconst (v := 0) hx hb dX6_mayBeLed_93 (by decide) ?_
          exact hret (0 : Int32) () H locs _ ls (Or.inl rfl) (Option.some.inj h) hP hD hS dX6_mayBeLed_94
        · have h := (if_neg c8).symm.trans h
          refine lv_iconst (v := 1) hx hb dX6_mayBeLed_89 (by decide) ?_
          refine lv_goto (tgt := 94) hx hb dX6_mayBeLed_90 (by decide) ?_
          exact hret (1 : Int32) () H locs _ ls (Or.inr rfl) (Option.some.inj h) hP hD hS dX6_mayBeLed_94
    · have h := (if_pos c4).symm.trans h
      refine lv_iconst (v := 0) hx hb dX6_mayBeLed_38 (by decide) ?_
      exact hret (0 : Int32) () H locs _ ls (Or.inl rfl) (Option.some.inj h) hP hD hS dX6_mayBeLed_39
