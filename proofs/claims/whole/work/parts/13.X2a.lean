abbrev rm_X2_put : Room := { frames := 0, cells := 0, slots := 0, locals := 0 }
set_option maxHeartbeats 4000000 in
set_option maxRecDepth 100000 in
theorem k_X2_put (l : Launch) (D : va_G) (cI cZ cT : ClassId) (q : Nat → Nat) (sz : Nat) (v_length : Int32) (v_place : Int32) (v_token : Int32) (v_tokenAt : Int32) (v_value : Int32) (v_fault : Int32) (v_text : Nat → Int32) (x1 : Int32) (res : R_X2_put) (hf : f_X2_put v_text v_length x1 = some res) : Met l yX2_put wsX2_put rm_X2_put (cPre D (tyz cI cZ cT) [.ref (q 0), .int x1] sz [oX2 q v_length v_place v_token v_tokenAt v_value v_fault, rA (q 1) cI 200 v_text]) (cPi D (tyz cI cZ cT) (fun (r : Int32) (u : (Nat → Int32) × Int32) => (r, u) = res) (fun u => [oX2 q u.2 v_place v_token v_tokenAt v_value v_fault, rA (q 1) cI 200 u.1]) [oX2 q v_length v_place v_token v_tokenAt v_value v_fault, rA (q 1) cI 200 v_text] sz) 0 0 (va_A [oX2 q v_length v_place v_token v_tokenAt v_value v_fault, rA (q 1) cI 200 v_text] sz) := by
  refine vx_meth_z (by decide) rfl (Nat.le_of_ble_eq_true rfl) ?_
  intro p e s m args below meth c A Q hx hb hml hown hts hK hP hD hA hS hret ls hl
  have hown : s.vm.findClass RX2 = some m.cls := hown
  have hl : lv_has ls 2 [(0, .ref (q 0)), (1, .int x1)] := hl
  have hFx : CallFix p m c cX2_put 2 s args wsX2_put RX2 := ⟨hx, hb, hml, hown, hts⟩
  have lk15 := hts (.fieldLink RX2 15 "FogGuides$TextReader" "length" "I") (by decide +kernel)
  have iw2 : ∀ w ∈ u_ws RX2 TX2 7, w ∈ wsX2_put := by decide +kernel
  have lk9 := hts (.fieldLink RX2 9 "FogGuides$TextReader" "text" "[I") (by decide +kernel)
  have h := hf
  unfold f_X2_put at h
  obtain ⟨H, eH⟩ : ∃ H, H = s.heap := ⟨_, rfl⟩
  rw [← eH] at hP ⊢
  obtain ⟨locs, el⟩ : ∃ locs : List Loc, locs = [] := ⟨_, rfl⟩
  rw [← el] at hS ⊢
  have hS : va_S A s.heap H locs := by rw [eH]; exact hS
  refine lv_aload_n hx hb dX2_put_0 rfl (lv_at hl 0 rfl) ?_
  refine va_get (C := RX2) (T := TX2) (N := 7) (v := .int v_length) hx hb hts iw2 hown hK hP 0 rfl rfl 1 (Nat.le_of_ble_eq_true rfl) lk15 (fun _ h9 => h9) rfl dX2_put_1 ?_
  refine lv_sipush (v := 200) hx hb dX2_put_4 (by decide) ?_
  refine lv_icmp_lt (tgt := 12) hx hb dX2_put_7 (by decide) (fun c1 => ?_) (fun c1 => ?_)
  · have h := (if_pos c1).symm.trans h
    refine lv_aload_n hx hb dX2_put_12 rfl (lv_at hl 0 rfl) ?_
    refine va_get (C := RX2) (T := TX2) (N := 7) (v := .ref (q 1)) hx hb hts iw2 hown hK hP 0 rfl rfl 0 (Nat.le_of_ble_eq_true rfl) lk9 (fun _ h9 => h9) rfl dX2_put_13 ?_
    refine lv_aload_n hx hb dX2_put_16 rfl (lv_at hl 0 rfl) ?_
    refine va_get (C := RX2) (T := TX2) (N := 7) (v := .int v_length) hx hb hts iw2 hown hK hP 0 rfl rfl 1 (Nat.le_of_ble_eq_true rfl) lk15 (fun _ h9 => h9) rfl dX2_put_17 ?_
    refine lv_iload_n hx hb dX2_put_20 rfl (lv_at hl 1 rfl) ?_
    obtain ⟨hi2, h⟩ := xb_some h
    refine va_iast hx hb hK hP hD hS 1 0 rfl rfl hi2 dX2_put_21 (fun H locs hP hD hS => ?_)
    have hP : va_P D vwCl [oX2 q v_length v_place v_token v_tokenAt v_value v_fault, rA (q 1) cI 200 (upd v_text v_length.toNatClampNeg x1)] H := hP
    have hD : va_D A [oX2 q v_length v_place v_token v_tokenAt v_value v_fault, rA (q 1) cI 200 (upd v_text v_length.toNatClampNeg x1)] := hD
    refine lv_aload_n hx hb dX2_put_22 rfl (lv_at hl 0 rfl) ?_
    refine lv_dup hx hb dX2_put_23 rfl ?_
    refine va_get (C := RX2) (T := TX2) (N := 7) (v := .int v_length) hx hb hts iw2 hown hK hP 0 rfl rfl 1 (Nat.le_of_ble_eq_true rfl) lk15 (fun _ h9 => h9) rfl dX2_put_24 ?_
    refine lv_iconst (v := 1) hx hb dX2_put_27 (by decide) ?_
    refine lv_iadd hx hb dX2_put_28 ?_
    refine va_put (C := RX2) (T := TX2) (N := 7) (v := .int (v_length + (1 : Int32))) (ty := .int) hx hb hts iw2 tyX2 tyX2_ok nmX2 hown hK hP hD hS 0 rfl rfl 1 (Nat.le_of_ble_eq_true rfl) lk15 (fun _ h9 => h9) rfl (by decide +kernel) rfl rfl (Nat.le_of_ble_eq_true rfl) dX2_put_29 (fun H locs hP hD hS => ?_)
    have hP : va_P D vwCl [oX2 q (v_length + (1 : Int32)) v_place v_token v_tokenAt v_value v_fault, rA (q 1) cI 200 (upd v_text v_length.toNatClampNeg x1)] H := hP
    have hD : va_D A [oX2 q (v_length + (1 : Int32)) v_place v_token v_tokenAt v_value v_fault, rA (q 1) cI 200 (upd v_text v_length.toNatClampNeg x1)] := hD
    refine lv_iconst (v := 1) hx hb dX2_put_32 (by decide) ?_
    exact hret (1 : Int32) ((upd v_text v_length.toNatClampNeg x1, v_length + (1 : Int32))) H locs _ ls (Or.inr rfl) (Option.some.inj h) hP hD hS dX2_put_33
  · have h := (if_neg c1).symm.trans h
    refine lv_iconst (v := 0) hx hb dX2_put_10 (by decide) ?_
    exact hret (0 : Int32) (v_text, v_length) H locs _ ls (Or.inl rfl) (Option.some.inj h) hP hD hS dX2_put_11
abbrev rm_X2_takeLetters : Room := { frames := 0, cells := 0, slots := 0, locals := 0 }
set_option maxHeartbeats 4000000 in
set_option maxRecDepth 100000 in
theorem k_X2_takeLetters (l : Launch) (D : va_G) (cI cZ cT : ClassId) (q : Nat → Nat) (sz : Nat) (v_length : Int32) (v_place : Int32) (v_token : Int32) (v_tokenAt : Int32) (v_value : Int32) (v_fault : Int32) (v_text : Nat → Int32) (res : R_X2_takeLetters) (fu : Nat) (hf : f_X2_takeLetters fu v_text v_length v_place v_token v_tokenAt v_value = some res) : Met l yX2_takeLetters wsX2_takeLetters rm_X2_takeLetters (cPre D (tyz cI cZ cT) [.ref (q 0)] sz [oX2 q v_length v_place v_token v_tokenAt v_value v_fault, rA (q 1) cI 200 v_text]) (cPv D (tyz cI cZ cT) (fun (u : Int32 × Int32 × Int32) => u = res) (fun u => [oX2 q v_length u.1 u.2.1 v_tokenAt u.2.2 v_fault, rA (q 1) cI 200 v_text]) [oX2 q v_length v_place v_token v_tokenAt v_value v_fault, rA (q 1) cI 200 v_text] sz) 0 0 (va_A [oX2 q v_length v_place v_token v_tokenAt v_value v_fault, rA (q 1) cI 200 v_text] sz) := by
  refine vx_meth_v (by decide) rfl (Nat.le_of_ble_eq_true rfl) ?_
  intro p e s m args below meth c A Q hx hb hml hown hts hK hP hD hA hS hret ls hl
  have hown : s.vm.findClass RX2 = some m.cls := hown
  have hl : lv_has ls 1 [(0, .ref (q 0))] := hl
  have hFx : CallFix p m c cX2_takeLetters 1 s args wsX2_takeLetters RX2 := ⟨hx, hb, hml, hown, hts⟩
  have lk24 := hts (.fieldLink RX2 24 "FogGuides$TextReader" "place" "I") (by decide +kernel)
  have iw2 : ∀ w ∈ u_ws RX2 TX2 7, w ∈ wsX2_takeLetters := by decide +kernel
  have lk117 := hts (.fieldLink RX2 117 "FogGuides$TextReader" "tokenAt" "I") (by decide +kernel)
  have lk33 := hts (.fieldLink RX2 33 "FogGuides$TextReader" "token" "I") (by decide +kernel)
  have lk43 := hts (.fieldLink RX2 43 "FogGuides$TextReader" "value" "I") (by decide +kernel)
  have lk15 := hts (.fieldLink RX2 15 "FogGuides$TextReader" "length" "I") (by decide +kernel)
  have lk9 := hts (.fieldLink RX2 9 "FogGuides$TextReader" "text" "[I") (by decide +kernel)
  have hJ65 : ∀ (v_place : Int32) (v_token : Int32) (v_value : Int32) (H : Heap) (locs : List Loc) (ls : Array Slot), f_X2_takeLetters_J65 fu v_text v_length v_place v_token v_tokenAt v_value = some res → va_P D vwCl [oX2 q v_length v_place v_token v_tokenAt v_value v_fault, rA (q 1) cI 200 v_text] H → va_D A [oX2 q v_length v_place v_token v_tokenAt v_value v_fault, rA (q 1) cI 200 v_text] → va_S A s.heap H locs → lv_has ls 1 [(0, .ref (q 0))] → W p l e rm_X2_takeLetters s m args below meth c H locs 0 0 Q (F0 m 65 ls []) := by
    intro v_place v_token v_value H locs ls h hP hD hS hl
    unfold f_X2_takeLetters_J65 at h
    refine lv_aload_n hx hb dX2_takeLetters_65 rfl (lv_at hl 0 rfl) ?_
    refine va_get (C := RX2) (T := TX2) (N := 7) (v := .int v_place) hx hb hts iw2 hown hK hP 0 rfl rfl 2 (Nat.le_of_ble_eq_true rfl) lk24 (fun _ h9 => h9) rfl dX2_takeLetters_66 ?_
    refine lv_aload_n hx hb dX2_takeLetters_69 rfl (lv_at hl 0 rfl) ?_
    refine va_get (C := RX2) (T := TX2) (N := 7) (v := .int v_tokenAt) hx hb hts iw2 hown hK hP 0 rfl rfl 4 (Nat.le_of_ble_eq_true rfl) lk117 (fun _ h9 => h9) rfl dX2_takeLetters_70 ?_
    refine lv_isub hx hb dX2_takeLetters_73 ?_
    refine lv_iconst (v := 1) hx hb dX2_takeLetters_74 (by decide) ?_
    refine lv_icmp_le (tgt := 83) hx hb dX2_takeLetters_75 (by decide) (fun c1 => ?_) (fun c1 => ?_)
    · have h := (if_pos c1).symm.trans h
      refine lv_aload_n hx hb dX2_takeLetters_83 rfl (lv_at hl 0 rfl) ?_
      refine lv_iconst (v := 1) hx hb dX2_takeLetters_84 (by decide) ?_
      refine va_put (C := RX2) (T := TX2) (N := 7) (v := .int (1 : Int32)) (ty := .int) hx hb hts iw2 tyX2 tyX2_ok nmX2 hown hK hP hD hS 0 rfl rfl 3 (Nat.le_of_ble_eq_true rfl) lk33 (fun _ h9 => h9) rfl (by decide +kernel) rfl rfl (Nat.le_of_ble_eq_true rfl) dX2_takeLetters_85 (fun H locs hP hD hS => ?_)
      have hP : va_P D vwCl [oX2 q v_length v_place (1 : Int32) v_tokenAt v_value v_fault, rA (q 1) cI 200 v_text] H := hP
      have hD : va_D A [oX2 q v_length v_place (1 : Int32) v_tokenAt v_value v_fault, rA (q 1) cI 200 v_text] := hD
      exact hret ((v_place, (1 : Int32), v_value)) H locs _ ls (Option.some.inj h) hP hD hS dX2_takeLetters_88
    · have h := (if_neg c1).symm.trans h
      refine lv_aload_n hx hb dX2_takeLetters_78 rfl (lv_at hl 0 rfl) ?_
      refine lv_iconst (v := 0) hx hb dX2_takeLetters_79 (by decide) ?_
      refine va_put (C := RX2) (T := TX2) (N := 7) (v := .int (0 : Int32)) (ty := .int) hx hb hts iw2 tyX2 tyX2_ok nmX2 hown hK hP hD hS 0 rfl rfl 5 (Nat.le_of_ble_eq_true rfl) lk43 (fun _ h9 => h9) rfl (by decide +kernel) rfl rfl (Nat.le_of_ble_eq_true rfl) dX2_takeLetters_80 (fun H locs hP hD hS => ?_)
      have hP : va_P D vwCl [oX2 q v_length v_place v_token v_tokenAt (0 : Int32) v_fault, rA (q 1) cI 200 v_text] H := hP
      have hD : va_D A [oX2 q v_length v_place v_token v_tokenAt (0 : Int32) v_fault, rA (q 1) cI 200 v_text] := hD
      refine lv_aload_n hx hb dX2_takeLetters_83 rfl (lv_at hl 0 rfl) ?_
      refine lv_iconst (v := 1) hx hb dX2_takeLetters_84 (by decide) ?_
      refine va_put (C := RX2) (T := TX2) (N := 7) (v := .int (1 : Int32)) (ty := .int) hx hb hts iw2 tyX2 tyX2_ok nmX2 hown hK hP hD hS 0 rfl rfl 3 (Nat.le_of_ble_eq_true rfl) lk33 (fun _ h9 => h9) rfl (by decide +kernel) rfl rfl (Nat.le_of_ble_eq_true rfl) dX2_takeLetters_85 (fun H locs hP hD hS => ?_)
      have hP : va_P D vwCl [oX2 q v_length v_place (1 : Int32) v_tokenAt (0 : Int32) v_fault, rA (q 1) cI 200 v_text] H := hP
      have hD : va_D A [oX2 q v_length v_place (1 : Int32) v_tokenAt (0 : Int32) v_fault, rA (q 1) cI 200 v_text] := hD
      exact hret ((v_place, (1 : Int32), (0 : Int32))) H locs _ ls (Option.some.inj h) hP hD hS dX2_takeLetters_88
  have hL13 : ∀ (n13 : Nat), ∀ (v_place : Int32) (v_token : Int32) (v_value : Int32) (H : Heap) (locs : List Loc) (ls : Array Slot), f_X2_takeLetters_L13 fu n13 v_text v_length v_place v_token v_tokenAt v_value = some res → va_P D vwCl [oX2 q v_length v_place v_token v_tokenAt v_value v_fault, rA (q 1) cI 200 v_text] H → va_D A [oX2 q v_length v_place v_token v_tokenAt v_value v_fault, rA (q 1) cI 200 v_text] → va_S A s.heap H locs → lv_has ls 1 [(0, .ref (q 0))] → W p l e rm_X2_takeLetters s m args below meth c H locs 0 0 Q (F0 m 13 ls []) := by
    intro n13
    induction n13 with
    | zero =>
      intro v_place v_token v_value H locs ls h hP hD hS hl
      cases (show (none : Option R_X2_takeLetters) = some res from h)
    | succ n13 ih13 =>
      intro v_place v_token v_value H locs ls h hP hD hS hl
      have h : f_X2_takeLetters_L13b fu (f_X2_takeLetters_L13 fu n13) v_text v_length v_place v_token v_tokenAt v_value = some res := h
      unfold f_X2_takeLetters_L13b at h
      refine lv_aload_n hx hb dX2_takeLetters_13 rfl (lv_at hl 0 rfl) ?_
      refine va_get (C := RX2) (T := TX2) (N := 7) (v := .int v_place) hx hb hts iw2 hown hK hP 0 rfl rfl 2 (Nat.le_of_ble_eq_true rfl) lk24 (fun _ h9 => h9) rfl dX2_takeLetters_14 ?_
      refine lv_aload_n hx hb dX2_takeLetters_17 rfl (lv_at hl 0 rfl) ?_
      refine va_get (C := RX2) (T := TX2) (N := 7) (v := .int v_length) hx hb hts iw2 hown hK hP 0 rfl rfl 1 (Nat.le_of_ble_eq_true rfl) lk15 (fun _ h9 => h9) rfl dX2_takeLetters_18 ?_
      refine lv_icmp_ge (tgt := 65) hx hb dX2_takeLetters_21 (by decide) (fun c2 => ?_) (fun c2 => ?_)
      · have h := (if_pos c2).symm.trans h
        exact hJ65 v_place v_token v_value H locs ls h hP hD hS (lv_sub hl [0] rfl)
      · have h := (if_neg c2).symm.trans h
        refine lv_aload_n hx hb dX2_takeLetters_24 rfl (lv_at hl 0 rfl) ?_
        refine va_get (C := RX2) (T := TX2) (N := 7) (v := .ref (q 1)) hx hb hts iw2 hown hK hP 0 rfl rfl 0 (Nat.le_of_ble_eq_true rfl) lk9 (fun _ h9 => h9) rfl dX2_takeLetters_25 ?_
        refine lv_aload_n hx hb dX2_takeLetters_28 rfl (lv_at hl 0 rfl) ?_
        refine va_get (C := RX2) (T := TX2) (N := 7) (v := .int v_place) hx hb hts iw2 hown hK hP 0 rfl rfl 2 (Nat.le_of_ble_eq_true rfl) lk24 (fun _ h9 => h9) rfl dX2_takeLetters_29 ?_
        obtain ⟨hi3, h⟩ := xb_some h
        refine va_iald hx hb hK hP 1 0 rfl rfl hi3 dX2_takeLetters_32 ?_
        refine lv_bipush (v := 97) hx hb dX2_takeLetters_33 (by decide) ?_
        refine lv_icmp_lt (tgt := 65) hx hb dX2_takeLetters_35 (by decide) (fun c4 => ?_) (fun c4 => ?_)
        · have h := (if_pos c4).symm.trans h
          exact hJ65 v_place v_token v_value H locs ls h hP hD hS (lv_sub hl [0] rfl)
        · have h := (if_neg c4).symm.trans h
          refine lv_aload_n hx hb dX2_takeLetters_38 rfl (lv_at hl 0 rfl) ?_
          refine va_get (C := RX2) (T := TX2) (N := 7) (v := .ref (q 1)) hx hb hts iw2 hown hK hP 0 rfl rfl 0 (Nat.le_of_ble_eq_true rfl) lk9 (fun _ h9 => h9) rfl dX2_takeLetters_39 ?_
          refine lv_aload_n hx hb dX2_takeLetters_42 rfl (lv_at hl 0 rfl) ?_
          refine va_get (C := RX2) (T := TX2) (N := 7) (v := .int v_place) hx hb hts iw2 hown hK hP 0 rfl rfl 2 (Nat.le_of_ble_eq_true rfl) lk24 (fun _ h9 => h9) rfl dX2_takeLetters_43 ?_
          obtain ⟨hi5, h⟩ := xb_some h
          refine va_iald hx hb hK hP 1 0 rfl rfl hi5 dX2_takeLetters_46 ?_
          refine lv_bipush (v := 122) hx hb dX2_takeLetters_47 (by decide) ?_
          refine lv_icmp_gt (tgt := 65) hx hb dX2_takeLetters_49 (by decide) (fun c6 => ?_) (fun c6 => ?_)
          · have h := (if_pos c6).symm.trans h
            exact hJ65 v_place v_token v_value H locs ls h hP hD hS (lv_sub hl [0] rfl)
          · have h := (if_neg c6).symm.trans h
            refine lv_aload_n hx hb dX2_takeLetters_52 rfl (lv_at hl 0 rfl) ?_
            refine lv_dup hx hb dX2_takeLetters_53 rfl ?_
            refine va_get (C := RX2) (T := TX2) (N := 7) (v := .int v_place) hx hb hts iw2 hown hK hP 0 rfl rfl 2 (Nat.le_of_ble_eq_true rfl) lk24 (fun _ h9 => h9) rfl dX2_takeLetters_54 ?_
            refine lv_iconst (v := 1) hx hb dX2_takeLetters_57 (by decide) ?_
            refine lv_iadd hx hb dX2_takeLetters_58 ?_
            refine va_put (C := RX2) (T := TX2) (N := 7) (v := .int (v_place + (1 : Int32))) (ty := .int) hx hb hts iw2 tyX2 tyX2_ok nmX2 hown hK hP hD hS 0 rfl rfl 2 (Nat.le_of_ble_eq_true rfl) lk24 (fun _ h9 => h9) rfl (by decide +kernel) rfl rfl (Nat.le_of_ble_eq_true rfl) dX2_takeLetters_59 (fun H locs hP hD hS => ?_)
            have hP : va_P D vwCl [oX2 q v_length (v_place + (1 : Int32)) v_token v_tokenAt v_value v_fault, rA (q 1) cI 200 v_text] H := hP
            have hD : va_D A [oX2 q v_length (v_place + (1 : Int32)) v_token v_tokenAt v_value v_fault, rA (q 1) cI 200 v_text] := hD
            refine lv_goto (tgt := 13) hx hb dX2_takeLetters_62 (by decide) ?_
            exact ih13 (v_place + (1 : Int32)) v_token v_value H locs ls h hP hD hS (lv_sub hl [0] rfl)
  have h := hf
  unfold f_X2_takeLetters at h
  obtain ⟨H, eH⟩ : ∃ H, H = s.heap := ⟨_, rfl⟩
  rw [← eH] at hP ⊢
  obtain ⟨locs, el⟩ : ∃ locs : List Loc, locs = [] := ⟨_, rfl⟩
  rw [← el] at hS ⊢
  have hS : va_S A s.heap H locs := by rw [eH]; exact hS
  refine lv_aload_n hx hb dX2_takeLetters_0 rfl (lv_at hl 0 rfl) ?_
  refine lv_aload_n hx hb dX2_takeLetters_1 rfl (lv_at hl 0 rfl) ?_
  refine va_get (C := RX2) (T := TX2) (N := 7) (v := .ref (q 1)) hx hb hts iw2 hown hK hP 0 rfl rfl 0 (Nat.le_of_ble_eq_true rfl) lk9 (fun _ h9 => h9) rfl dX2_takeLetters_2 ?_
  refine lv_aload_n hx hb dX2_takeLetters_5 rfl (lv_at hl 0 rfl) ?_
  refine va_get (C := RX2) (T := TX2) (N := 7) (v := .int v_place) hx hb hts iw2 hown hK hP 0 rfl rfl 2 (Nat.le_of_ble_eq_true rfl) lk24 (fun _ h9 => h9) rfl dX2_takeLetters_6 ?_
  obtain ⟨hi7, h⟩ := xb_some h
  refine va_iald hx hb hK hP 1 0 rfl rfl hi7 dX2_takeLetters_9 ?_
  refine va_put (C := RX2) (T := TX2) (N := 7) (v := .int (v_text v_place.toNatClampNeg)) (ty := .int) hx hb hts iw2 tyX2 tyX2_ok nmX2 hown hK hP hD hS 0 rfl rfl 5 (Nat.le_of_ble_eq_true rfl) lk43 (fun _ h9 => h9) rfl (by decide +kernel) rfl rfl (Nat.le_of_ble_eq_true rfl) dX2_takeLetters_10 (fun H locs hP hD hS => ?_)
  have hP : va_P D vwCl [oX2 q v_length v_place v_token v_tokenAt (v_text v_place.toNatClampNeg) v_fault, rA (q 1) cI 200 v_text] H := hP
  have hD : va_D A [oX2 q v_length v_place v_token v_tokenAt (v_text v_place.toNatClampNeg) v_fault, rA (q 1) cI 200 v_text] := hD
  exact hL13 fu v_place v_token (v_text v_place.toNatClampNeg) H locs ls h hP hD hS (lv_sub hl [0] rfl)
abbrev rm_X2_takeDigits : Room := { frames := 0, cells := 0, slots := 0, locals := 0 }
set_option maxHeartbeats 4000000 in
set_option maxRecDepth 100000 in
theorem k_X2_takeDigits (l : Launch) (D : va_G) (cI cZ cT : ClassId) (q : Nat → Nat) (sz : Nat) (v_length : Int32) (v_place : Int32) (v_token : Int32) (v_tokenAt : Int32) (v_value : Int32) (v_fault : Int32) (v_text : Nat → Int32) (res : R_X2_takeDigits) (fu : Nat) (hf : f_X2_takeDigits fu v_text v_length v_place v_token v_tokenAt v_value = some res) : Met l yX2_takeDigits wsX2_takeDigits rm_X2_takeDigits (cPre D (tyz cI cZ cT) [.ref (q 0)] sz [oX2 q v_length v_place v_token v_tokenAt v_value v_fault, rA (q 1) cI 200 v_text]) (cPv D (tyz cI cZ cT) (fun (u : Int32 × Int32 × Int32) => u = res) (fun u => [oX2 q v_length u.1 u.2.1 v_tokenAt u.2.2 v_fault, rA (q 1) cI 200 v_text]) [oX2 q v_length v_place v_token v_tokenAt v_value v_fault, rA (q 1) cI 200 v_text] sz) 0 0 (va_A [oX2 q v_length v_place v_token v_tokenAt v_value v_fault, rA (q 1) cI 200 v_text] sz) := by
  refine vx_meth_v (by decide) rfl (Nat.le_of_ble_eq_true rfl) ?_
  intro p e s m args below meth c A Q hx hb hml hown hts hK hP hD hA hS hret ls hl
  have hown : s.vm.findClass RX2 = some m.cls := hown
  have hl : lv_has ls 3 [(0, .ref (q 0))] := hl
  have hFx : CallFix p m c cX2_takeDigits 3 s args wsX2_takeDigits RX2 := ⟨hx, hb, hml, hown, hts⟩
  have lk33 := hts (.fieldLink RX2 33 "FogGuides$TextReader" "token" "I") (by decide +kernel)
  have iw2 : ∀ w ∈ u_ws RX2 TX2 7, w ∈ wsX2_takeDigits := by decide +kernel
  have lk43 := hts (.fieldLink RX2 43 "FogGuides$TextReader" "value" "I") (by decide +kernel)
  have lk24 := hts (.fieldLink RX2 24 "FogGuides$TextReader" "place" "I") (by decide +kernel)
  have lk117 := hts (.fieldLink RX2 117 "FogGuides$TextReader" "tokenAt" "I") (by decide +kernel)
  have lk15 := hts (.fieldLink RX2 15 "FogGuides$TextReader" "length" "I") (by decide +kernel)
  have lk9 := hts (.fieldLink RX2 9 "FogGuides$TextReader" "text" "[I") (by decide +kernel)
  have hJ141 : ∀ (v_place : Int32) (v_token : Int32) (v_value : Int32) (z0 : Int32) (H : Heap) (locs : List Loc) (ls : Array Slot), f_X2_takeDigits_J141 fu v_text v_length v_place v_token v_tokenAt v_value z0 = some res → va_P D vwCl [oX2 q v_length v_place v_token v_tokenAt v_value v_fault, rA (q 1) cI 200 v_text] H → va_D A [oX2 q v_length v_place v_token v_tokenAt v_value v_fault, rA (q 1) cI 200 v_text] → va_S A s.heap H locs → lv_has ls 3 [(0, .ref (q 0))] → W p l e rm_X2_takeDigits s m args below meth c H locs 0 0 Q (F0 m 141 ls [.int z0]) := by
    intro v_place v_token v_value z0 H locs ls h hP hD hS hl
    unfold f_X2_takeDigits_J141 at h
    refine lv_istore_n (lv' := [(2, .int z0), (0, .ref (q 0))]) hx hb dX2_takeDigits_141 rfl hl (by decide) rfl (fun ls hl => ?_)
    refine lv_aload_n hx hb dX2_takeDigits_142 rfl (lv_at hl 1 rfl) ?_
    refine lv_iload_n hx hb dX2_takeDigits_143 rfl (lv_at hl 0 rfl) ?_
    refine lv_if_eq (tgt := 151) hx hb dX2_takeDigits_144 (by decide) (fun c1 => ?_) (fun c1 => ?_)
    · have h := (if_pos c1).symm.trans h
      refine lv_iconst (v := 2) hx hb dX2_takeDigits_151 (by decide) ?_
      refine va_put (C := RX2) (T := TX2) (N := 7) (v := .int (2 : Int32)) (ty := .int) hx hb hts iw2 tyX2 tyX2_ok nmX2 hown hK hP hD hS 0 rfl rfl 3 (Nat.le_of_ble_eq_true rfl) lk33 (fun _ h9 => h9) rfl (by decide +kernel) rfl rfl (Nat.le_of_ble_eq_true rfl) dX2_takeDigits_152 (fun H locs hP hD hS => ?_)
      have hP : va_P D vwCl [oX2 q v_length v_place (2 : Int32) v_tokenAt v_value v_fault, rA (q 1) cI 200 v_text] H := hP
      have hD : va_D A [oX2 q v_length v_place (2 : Int32) v_tokenAt v_value v_fault, rA (q 1) cI 200 v_text] := hD
      exact hret ((v_place, (2 : Int32), v_value)) H locs _ ls (Option.some.inj h) hP hD hS dX2_takeDigits_155
    · have h := (if_neg c1).symm.trans h
      refine lv_iconst (v := 4) hx hb dX2_takeDigits_147 (by decide) ?_
      refine lv_goto (tgt := 152) hx hb dX2_takeDigits_148 (by decide) ?_
      refine va_put (C := RX2) (T := TX2) (N := 7) (v := .int (4 : Int32)) (ty := .int) hx hb hts iw2 tyX2 tyX2_ok nmX2 hown hK hP hD hS 0 rfl rfl 3 (Nat.le_of_ble_eq_true rfl) lk33 (fun _ h9 => h9) rfl (by decide +kernel) rfl rfl (Nat.le_of_ble_eq_true rfl) dX2_takeDigits_152 (fun H locs hP hD hS => ?_)
      have hP : va_P D vwCl [oX2 q v_length v_place (4 : Int32) v_tokenAt v_value v_fault, rA (q 1) cI 200 v_text] H := hP
      have hD : va_D A [oX2 q v_length v_place (4 : Int32) v_tokenAt v_value v_fault, rA (q 1) cI 200 v_text] := hD
      exact hret ((v_place, (4 : Int32), v_value)) H locs _ ls (Option.some.inj h) hP hD hS dX2_takeDigits_155
  have hJ110 : ∀ (v_place : Int32) (v_token : Int32) (v_value : Int32) (x1 : Int32) (H : Heap) (locs : List Loc) (ls : Array Slot), f_X2_takeDigits_J110 fu v_text v_length v_place v_token v_tokenAt v_value x1 = some res → va_P D vwCl [oX2 q v_length v_place v_token v_tokenAt v_value v_fault, rA (q 1) cI 200 v_text] H → va_D A [oX2 q v_length v_place v_token v_tokenAt v_value v_fault, rA (q 1) cI 200 v_text] → va_S A s.heap H locs → lv_has ls 3 [(0, .ref (q 0)), (1, .int x1)] → W p l e rm_X2_takeDigits s m args below meth c H locs 0 0 Q (F0 m 110 ls []) := by
    intro v_place v_token v_value x1 H locs ls h hP hD hS hl
    unfold f_X2_takeDigits_J110 at h
    refine lv_aload_n hx hb dX2_takeDigits_110 rfl (lv_at hl 0 rfl) ?_
    refine va_get (C := RX2) (T := TX2) (N := 7) (v := .int v_value) hx hb hts iw2 hown hK hP 0 rfl rfl 5 (Nat.le_of_ble_eq_true rfl) lk43 (fun _ h9 => h9) rfl dX2_takeDigits_111 ?_
    refine lv_bipush (v := 99) hx hb dX2_takeDigits_114 (by decide) ?_
    refine lv_icmp_gt (tgt := 136) hx hb dX2_takeDigits_116 (by decide) (fun c2 => ?_) (fun c2 => ?_)
    · have h := (if_pos c2).symm.trans h
      refine lv_iconst (v := 1) hx hb dX2_takeDigits_136 (by decide) ?_
      refine lv_goto (tgt := 141) hx hb dX2_takeDigits_137 (by decide) ?_
      exact hJ141 v_place v_token v_value (1 : Int32) H locs ls h hP hD hS (lv_sub hl [0] rfl)
    · have h := (if_neg c2).symm.trans h
      refine lv_iload_n hx hb dX2_takeDigits_119 rfl (lv_at hl 1 rfl) ?_
      refine lv_if_eq (tgt := 140) hx hb dX2_takeDigits_120 (by decide) (fun c3 => ?_) (fun c3 => ?_)
      · have h := (if_pos c3).symm.trans h
        refine lv_iconst (v := 0) hx hb dX2_takeDigits_140 (by decide) ?_
        exact hJ141 v_place v_token v_value (0 : Int32) H locs ls h hP hD hS (lv_sub hl [0] rfl)
      · have h := (if_neg c3).symm.trans h
        refine lv_aload_n hx hb dX2_takeDigits_123 rfl (lv_at hl 0 rfl) ?_
        refine va_get (C := RX2) (T := TX2) (N := 7) (v := .int v_place) hx hb hts iw2 hown hK hP 0 rfl rfl 2 (Nat.le_of_ble_eq_true rfl) lk24 (fun _ h9 => h9) rfl dX2_takeDigits_124 ?_
        refine lv_aload_n hx hb dX2_takeDigits_127 rfl (lv_at hl 0 rfl) ?_
        refine va_get (C := RX2) (T := TX2) (N := 7) (v := .int v_tokenAt) hx hb hts iw2 hown hK hP 0 rfl rfl 4 (Nat.le_of_ble_eq_true rfl) lk117 (fun _ h9 => h9) rfl dX2_takeDigits_128 ?_
        refine lv_isub hx hb dX2_takeDigits_131 ?_
        refine lv_iconst (v := 1) hx hb dX2_takeDigits_132 (by decide) ?_
        refine lv_icmp_le (tgt := 140) hx hb dX2_takeDigits_133 (by decide) (fun c4 => ?_) (fun c4 => ?_)
        · have h := (if_pos c4).symm.trans h
          refine lv_iconst (v := 0) hx hb dX2_takeDigits_140 (by decide) ?_
          exact hJ141 v_place v_token v_value (0 : Int32) H locs ls h hP hD hS (lv_sub hl [0] rfl)
        · have h := (if_neg c4).symm.trans h
          refine lv_iconst (v := 1) hx hb dX2_takeDigits_136 (by decide) ?_
          refine lv_goto (tgt := 141) hx hb dX2_takeDigits_137 (by decide) ?_
          exact hJ141 v_place v_token v_value (1 : Int32) H locs ls h hP hD hS (lv_sub hl [0] rfl)
  have hL25 : ∀ (n25 : Nat), ∀ (v_place : Int32) (v_token : Int32) (v_value : Int32) (x1 : Int32) (H : Heap) (locs : List Loc) (ls : Array Slot), f_X2_takeDigits_L25 fu n25 v_text v_length v_place v_token v_tokenAt v_value x1 = some res → va_P D vwCl [oX2 q v_length v_place v_token v_tokenAt v_value v_fault, rA (q 1) cI 200 v_text] H → va_D A [oX2 q v_length v_place v_token v_tokenAt v_value v_fault, rA (q 1) cI 200 v_text] → va_S A s.heap H locs → lv_has ls 3 [(0, .ref (q 0)), (1, .int x1)] → W p l e rm_X2_takeDigits s m args below meth c H locs 0 0 Q (F0 m 25 ls []) := by
    intro n25
    induction n25 with
    | zero =>
      intro v_place v_token v_value x1 H locs ls h hP hD hS hl
      cases (show (none : Option R_X2_takeDigits) = some res from h)
    | succ n25 ih25 =>
      have hJ97 : ∀ (v_place : Int32) (v_token : Int32) (v_value : Int32) (x1 : Int32) (H : Heap) (locs : List Loc) (ls : Array Slot), f_X2_takeDigits_J97 fu (f_X2_takeDigits_L25 fu n25) v_text v_length v_place v_token v_tokenAt v_value x1 = some res → va_P D vwCl [oX2 q v_length v_place v_token v_tokenAt v_value v_fault, rA (q 1) cI 200 v_text] H → va_D A [oX2 q v_length v_place v_token v_tokenAt v_value v_fault, rA (q 1) cI 200 v_text] → va_S A s.heap H locs → lv_has ls 3 [(0, .ref (q 0)), (1, .int x1)] → W p l e rm_X2_takeDigits s m args below meth c H locs 0 0 Q (F0 m 97 ls []) := by
        intro v_place v_token v_value x1 H locs ls h hP hD hS hl
        unfold f_X2_takeDigits_J97 at h
        refine lv_aload_n hx hb dX2_takeDigits_97 rfl (lv_at hl 0 rfl) ?_
        refine lv_dup hx hb dX2_takeDigits_98 rfl ?_
        refine va_get (C := RX2) (T := TX2) (N := 7) (v := .int v_place) hx hb hts iw2 hown hK hP 0 rfl rfl 2 (Nat.le_of_ble_eq_true rfl) lk24 (fun _ h9 => h9) rfl dX2_takeDigits_99 ?_
        refine lv_iconst (v := 1) hx hb dX2_takeDigits_102 (by decide) ?_
        refine lv_iadd hx hb dX2_takeDigits_103 ?_
        refine va_put (C := RX2) (T := TX2) (N := 7) (v := .int (v_place + (1 : Int32))) (ty := .int) hx hb hts iw2 tyX2 tyX2_ok nmX2 hown hK hP hD hS 0 rfl rfl 2 (Nat.le_of_ble_eq_true rfl) lk24 (fun _ h9 => h9) rfl (by decide +kernel) rfl rfl (Nat.le_of_ble_eq_true rfl) dX2_takeDigits_104 (fun H locs hP hD hS => ?_)
        have hP : va_P D vwCl [oX2 q v_length (v_place + (1 : Int32)) v_token v_tokenAt v_value v_fault, rA (q 1) cI 200 v_text] H := hP
        have hD : va_D A [oX2 q v_length (v_place + (1 : Int32)) v_token v_tokenAt v_value v_fault, rA (q 1) cI 200 v_text] := hD
        refine lv_goto (tgt := 25) hx hb dX2_takeDigits_107 (by decide) ?_
        exact ih25 (v_place + (1 : Int32)) v_token v_value x1 H locs ls h hP hD hS (lv_sub hl [0, 1] rfl)
      intro v_place v_token v_value x1 H locs ls h hP hD hS hl
      have h : f_X2_takeDigits_L25b fu (f_X2_takeDigits_L25 fu n25) v_text v_length v_place v_token v_tokenAt v_value x1 = some res := h
      unfold f_X2_takeDigits_L25b at h
      refine lv_aload_n hx hb dX2_takeDigits_25 rfl (lv_at hl 0 rfl) ?_
      refine va_get (C := RX2) (T := TX2) (N := 7) (v := .int v_place) hx hb hts iw2 hown hK hP 0 rfl rfl 2 (Nat.le_of_ble_eq_true rfl) lk24 (fun _ h9 => h9) rfl dX2_takeDigits_26 ?_
      refine lv_aload_n hx hb dX2_takeDigits_29 rfl (lv_at hl 0 rfl) ?_
      refine va_get (C := RX2) (T := TX2) (N := 7) (v := .int v_length) hx hb hts iw2 hown hK hP 0 rfl rfl 1 (Nat.le_of_ble_eq_true rfl) lk15 (fun _ h9 => h9) rfl dX2_takeDigits_30 ?_
      refine lv_icmp_ge (tgt := 110) hx hb dX2_takeDigits_33 (by decide) (fun c5 => ?_) (fun c5 => ?_)
      · have h := (if_pos c5).symm.trans h
        exact hJ110 v_place v_token v_value x1 H locs ls h hP hD hS (lv_sub hl [0, 1] rfl)
      · have h := (if_neg c5).symm.trans h
        refine lv_aload_n hx hb dX2_takeDigits_36 rfl (lv_at hl 0 rfl) ?_
        refine va_get (C := RX2) (T := TX2) (N := 7) (v := .ref (q 1)) hx hb hts iw2 hown hK hP 0 rfl rfl 0 (Nat.le_of_ble_eq_true rfl) lk9 (fun _ h9 => h9) rfl dX2_takeDigits_37 ?_
        refine lv_aload_n hx hb dX2_takeDigits_40 rfl (lv_at hl 0 rfl) ?_
        refine va_get (C := RX2) (T := TX2) (N := 7) (v := .int v_place) hx hb hts iw2 hown hK hP 0 rfl rfl 2 (Nat.le_of_ble_eq_true rfl) lk24 (fun _ h9 => h9) rfl dX2_takeDigits_41 ?_
        obtain ⟨hi6, h⟩ := xb_some h
        refine va_iald hx hb hK hP 1 0 rfl rfl hi6 dX2_takeDigits_44 ?_
        refine lv_bipush (v := 48) hx hb dX2_takeDigits_45 (by decide) ?_
        refine lv_icmp_lt (tgt := 110) hx hb dX2_takeDigits_47 (by decide) (fun c7 => ?_) (fun c7 => ?_)
        · have h := (if_pos c7).symm.trans h
          exact hJ110 v_place v_token v_value x1 H locs ls h hP hD hS (lv_sub hl [0, 1] rfl)
        · have h := (if_neg c7).symm.trans h
          refine lv_aload_n hx hb dX2_takeDigits_50 rfl (lv_at hl 0 rfl) ?_
          refine va_get (C := RX2) (T := TX2) (N := 7) (v := .ref (q 1)) hx hb hts iw2 hown hK hP 0 rfl rfl 0 (Nat.le_of_ble_eq_true rfl) lk9 (fun _ h9 => h9) rfl dX2_takeDigits_51 ?_
          refine lv_aload_n hx hb dX2_takeDigits_54 rfl (lv_at hl 0 rfl) ?_
          refine va_get (C := RX2) (T := TX2) (N := 7) (v := .int v_place) hx hb hts iw2 hown hK hP 0 rfl rfl 2 (Nat.le_of_ble_eq_true rfl) lk24 (fun _ h9 => h9) rfl dX2_takeDigits_55 ?_
          obtain ⟨hi8, h⟩ := xb_some h
          refine va_iald hx hb hK hP 1 0 rfl rfl hi8 dX2_takeDigits_58 ?_
          refine lv_bipush (v := 57) hx hb dX2_takeDigits_59 (by decide) ?_
          refine lv_icmp_gt (tgt := 110) hx hb dX2_takeDigits_61 (by decide) (fun c9 => ?_) (fun c9 => ?_)
          · have h := (if_pos c9).symm.trans h
            exact hJ110 v_place v_token v_value x1 H locs ls h hP hD hS (lv_sub hl [0, 1] rfl)
          · have h := (if_neg c9).symm.trans h
            refine lv_aload_n hx hb dX2_takeDigits_64 rfl (lv_at hl 0 rfl) ?_
            refine va_get (C := RX2) (T := TX2) (N := 7) (v := .int v_value) hx hb hts iw2 hown hK hP 0 rfl rfl 5 (Nat.le_of_ble_eq_true rfl) lk43 (fun _ h9 => h9) rfl dX2_takeDigits_65 ?_
            refine lv_bipush (v := 99) hx hb dX2_takeDigits_68 (by decide) ?_
            refine lv_icmp_gt (tgt := 97) hx hb dX2_takeDigits_70 (by decide) (fun c10 => ?_) (fun c10 => ?_)
            · have h := (if_pos c10).symm.trans h
              exact hJ97 v_place v_token v_value x1 H locs ls h hP hD hS (lv_sub hl [0, 1] rfl)
            · have h := (if_neg c10).symm.trans h
              refine lv_aload_n hx hb dX2_takeDigits_73 rfl (lv_at hl 0 rfl) ?_
              refine lv_aload_n hx hb dX2_takeDigits_74 rfl (lv_at hl 0 rfl) ?_
              refine va_get (C := RX2) (T := TX2) (N := 7) (v := .int v_value) hx hb hts iw2 hown hK hP 0 rfl rfl 5 (Nat.le_of_ble_eq_true rfl) lk43 (fun _ h9 => h9) rfl dX2_takeDigits_75 ?_
              refine lv_bipush (v := 10) hx hb dX2_takeDigits_78 (by decide) ?_
              refine lv_imul hx hb dX2_takeDigits_80 ?_
              refine lv_aload_n hx hb dX2_takeDigits_81 rfl (lv_at hl 0 rfl) ?_
              refine va_get (C := RX2) (T := TX2) (N := 7) (v := .ref (q 1)) hx hb hts iw2 hown hK hP 0 rfl rfl 0 (Nat.le_of_ble_eq_true rfl) lk9 (fun _ h9 => h9) rfl dX2_takeDigits_82 ?_
              refine lv_aload_n hx hb dX2_takeDigits_85 rfl (lv_at hl 0 rfl) ?_
              refine va_get (C := RX2) (T := TX2) (N := 7) (v := .int v_place) hx hb hts iw2 hown hK hP 0 rfl rfl 2 (Nat.le_of_ble_eq_true rfl) lk24 (fun _ h9 => h9) rfl dX2_takeDigits_86 ?_
              obtain ⟨hi11, h⟩ := xb_some h
              refine va_iald hx hb hK hP 1 0 rfl rfl hi11 dX2_takeDigits_89 ?_
              refine lv_iadd hx hb dX2_takeDigits_90 ?_
              refine lv_bipush (v := 48) hx hb dX2_takeDigits_91 (by decide) ?_
              refine lv_isub hx hb dX2_takeDigits_93 ?_
              refine va_put (C := RX2) (T := TX2) (N := 7) (v := .int (((v_value * (10 : Int32)) + (v_text v_place.toNatClampNeg)) - (48 : Int32))) (ty := .int) hx hb hts iw2 tyX2 tyX2_ok nmX2 hown hK hP hD hS 0 rfl rfl 5 (Nat.le_of_ble_eq_true rfl) lk43 (fun _ h9 => h9) rfl (by decide +kernel) rfl rfl (Nat.le_of_ble_eq_true rfl) dX2_takeDigits_94 (fun H locs hP hD hS => ?_)
              have hP : va_P D vwCl [oX2 q v_length v_place v_token v_tokenAt (((v_value * (10 : Int32)) + (v_text v_place.toNatClampNeg)) - (48 : Int32)) v_fault, rA (q 1) cI 200 v_text] H := hP
              have hD : va_D A [oX2 q v_length v_place v_token v_tokenAt (((v_value * (10 : Int32)) + (v_text v_place.toNatClampNeg)) - (48 : Int32)) v_fault, rA (q 1) cI 200 v_text] := hD
              exact hJ97 v_place v_token (((v_value * (10 : Int32)) + (v_text v_place.toNatClampNeg)) - (48 : Int32)) x1 H locs ls h hP hD hS (lv_sub hl [0, 1] rfl)
  have h := hf
  unfold f_X2_takeDigits at h
  obtain ⟨H, eH⟩ : ∃ H, H = s.heap := ⟨_, rfl⟩
  rw [← eH] at hP ⊢
  obtain ⟨locs, el⟩ : ∃ locs : List Loc, locs = [] := ⟨_, rfl⟩
  rw [← el] at hS ⊢
  have hS : va_S A s.heap H locs := by rw [eH]; exact hS
  refine lv_aload_n hx hb dX2_takeDigits_0 rfl (lv_at hl 0 rfl) ?_
  refine va_get (C := RX2) (T := TX2) (N := 7) (v := .ref (q 1)) hx hb hts iw2 hown hK hP 0 rfl rfl 0 (Nat.le_of_ble_eq_true rfl) lk9 (fun _ h9 => h9) rfl dX2_takeDigits_1 ?_
  refine lv_aload_n hx hb dX2_takeDigits_4 rfl (lv_at hl 0 rfl) ?_
  refine va_get (C := RX2) (T := TX2) (N := 7) (v := .int v_place) hx hb hts iw2 hown hK hP 0 rfl rfl 2 (Nat.le_of_ble_eq_true rfl) lk24 (fun _ h9 => h9) rfl dX2_takeDigits_5 ?_
  obtain ⟨hi12, h⟩ := xb_some h
  refine va_iald hx hb hK hP 1 0 rfl rfl hi12 dX2_takeDigits_8 ?_
  refine lv_bipush (v := 48) hx hb dX2_takeDigits_9 (by decide) ?_
  refine lv_icmp_ne (tgt := 18) hx hb dX2_takeDigits_11 (by decide) (fun c13 => ?_) (fun c13 => ?_)
  · have h := (if_neg c13).symm.trans h
    refine lv_iconst (v := 0) hx hb dX2_takeDigits_18 (by decide) ?_
    refine lv_istore_n (lv' := [(1, .int (0 : Int32)), (0, .ref (q 0))]) hx hb dX2_takeDigits_19 rfl hl (by decide) rfl (fun ls hl => ?_)
    refine lv_aload_n hx hb dX2_takeDigits_20 rfl (lv_at hl 1 rfl) ?_
    refine lv_iconst (v := 0) hx hb dX2_takeDigits_21 (by decide) ?_
    refine va_put (C := RX2) (T := TX2) (N := 7) (v := .int (0 : Int32)) (ty := .int) hx hb hts iw2 tyX2 tyX2_ok nmX2 hown hK hP hD hS 0 rfl rfl 5 (Nat.le_of_ble_eq_true rfl) lk43 (fun _ h9 => h9) rfl (by decide +kernel) rfl rfl (Nat.le_of_ble_eq_true rfl) dX2_takeDigits_22 (fun H locs hP hD hS => ?_)
    have hP : va_P D vwCl [oX2 q v_length v_place v_token v_tokenAt (0 : Int32) v_fault, rA (q 1) cI 200 v_text] H := hP
    have hD : va_D A [oX2 q v_length v_place v_token v_tokenAt (0 : Int32) v_fault, rA (q 1) cI 200 v_text] := hD
    exact hL25 fu v_place v_token (0 : Int32) (0 : Int32) H locs ls h hP hD hS (lv_sub hl [1, 0] rfl)
  · have h := (if_pos c13).symm.trans h
    refine lv_iconst (v := 1) hx hb dX2_takeDigits_14 (by decide) ?_
    refine lv_goto (tgt := 19) hx hb dX2_takeDigits_15 (by decide) ?_
    refine lv_istore_n (lv' := [(1, .int (1 : Int32)), (0, .ref (q 0))]) hx hb dX2_takeDigits_19 rfl hl (by decide) rfl (fun ls hl => ?_)
    refine lv_aload_n hx hb dX2_takeDigits_20 rfl (lv_at hl 1 rfl) ?_
    refine lv_iconst (v := 0) hx hb dX2_takeDigits_21 (by decide) ?_
    refine va_put (C := RX2) (T := TX2) (N := 7) (v := .int (0 : Int32)) (ty := .int) hx hb hts iw2 tyX2 tyX2_ok nmX2 hown hK hP hD hS 0 rfl rfl 5 (Nat.le_of_ble_eq_true rfl) lk43 (fun _ h9 => h9) rfl (by decide +kernel) rfl rfl (Nat.le_of_ble_eq_true rfl) dX2_takeDigits_22 (fun H locs hP hD hS => ?_)
    have hP : va_P D vwCl [oX2 q v_length v_place v_token v_tokenAt (0 : Int32) v_fault, rA (q 1) cI 200 v_text] H := hP
    have hD : va_D A [oX2 q v_length v_place v_token v_tokenAt (0 : Int32) v_fault, rA (q 1) cI 200 v_text] := hD
    exact hL25 fu v_place v_token (0 : Int32) (1 : Int32) H locs ls h hP hD hS (lv_sub hl [1, 0] rfl)
abbrev rm_X2_takeOne : Room := { frames := 0, cells := 0, slots := 0, locals := 0 }
set_option maxHeartbeats 4000000 in
set_option maxRecDepth 100000 in
theorem k_X2_takeOne (l : Launch) (D : va_G) (cI cZ cT : ClassId) (q : Nat → Nat) (sz : Nat) (v_length : Int32) (v_place : Int32) (v_token : Int32) (v_tokenAt : Int32) (v_value : Int32) (v_fault : Int32) (v_text : Nat → Int32) (res : R_X2_takeOne) (hf : f_X2_takeOne v_text v_place v_token = some res) : Met l yX2_takeOne wsX2_takeOne rm_X2_takeOne (cPre D (tyz cI cZ cT) [.ref (q 0)] sz [oX2 q v_length v_place v_token v_tokenAt v_value v_fault, rA (q 1) cI 200 v_text]) (cPv D (tyz cI cZ cT) (fun (u : Int32 × Int32) => u = res) (fun u => [oX2 q v_length u.1 u.2 v_tokenAt v_value v_fault, rA (q 1) cI 200 v_text]) [oX2 q v_length v_place v_token v_tokenAt v_value v_fault, rA (q 1) cI 200 v_text] sz) 0 0 (va_A [oX2 q v_length v_place v_token v_tokenAt v_value v_fault, rA (q 1) cI 200 v_text] sz) := by
  refine vx_meth_v (by decide) rfl (Nat.le_of_ble_eq_true rfl) ?_
  intro p e s m args below meth c A Q hx hb hml hown hts hK hP hD hA hS hret ls hl
  have hown : s.vm.findClass RX2 = some m.cls := hown
  have hl : lv_has ls 1 [(0, .ref (q 0))] := hl
  have hFx : CallFix p m c cX2_takeOne 1 s args wsX2_takeOne RX2 := ⟨hx, hb, hml, hown, hts⟩
  have lk33 := hts (.fieldLink RX2 33 "FogGuides$TextReader" "token" "I") (by decide +kernel)
  have iw2 : ∀ w ∈ u_ws RX2 TX2 7, w ∈ wsX2_takeOne := by decide +kernel
  have lk24 := hts (.fieldLink RX2 24 "FogGuides$TextReader" "place" "I") (by decide +kernel)
  have lk9 := hts (.fieldLink RX2 9 "FogGuides$TextReader" "text" "[I") (by decide +kernel)
  have hJ20 : ∀ (v_place : Int32) (v_token : Int32) (z1 : Int32) (H : Heap) (locs : List Loc) (ls : Array Slot), f_X2_takeOne_J20 v_text v_place v_token z1 = some res → va_P D vwCl [oX2 q v_length v_place v_token v_tokenAt v_value v_fault, rA (q 1) cI 200 v_text] H → va_D A [oX2 q v_length v_place v_token v_tokenAt v_value v_fault, rA (q 1) cI 200 v_text] → va_S A s.heap H locs → lv_has ls 1 [(0, .ref (q 0))] → W p l e rm_X2_takeOne s m args below meth c H locs 0 0 Q (F0 m 20 ls [.int z1, .ref (q 0)]) := by
    intro v_place v_token z1 H locs ls h hP hD hS hl
    unfold f_X2_takeOne_J20 at h
    refine va_put (C := RX2) (T := TX2) (N := 7) (v := .int z1) (ty := .int) hx hb hts iw2 tyX2 tyX2_ok nmX2 hown hK hP hD hS 0 rfl rfl 3 (Nat.le_of_ble_eq_true rfl) lk33 (fun _ h9 => h9) rfl (by decide +kernel) rfl rfl (Nat.le_of_ble_eq_true rfl) dX2_takeOne_20 (fun H locs hP hD hS => ?_)
    have hP : va_P D vwCl [oX2 q v_length v_place z1 v_tokenAt v_value v_fault, rA (q 1) cI 200 v_text] H := hP
    have hD : va_D A [oX2 q v_length v_place z1 v_tokenAt v_value v_fault, rA (q 1) cI 200 v_text] := hD
    refine lv_aload_n hx hb dX2_takeOne_23 rfl (lv_at hl 0 rfl) ?_
    refine lv_dup hx hb dX2_takeOne_24 rfl ?_
    refine va_get (C := RX2) (T := TX2) (N := 7) (v := .int v_place) hx hb hts iw2 hown hK hP 0 rfl rfl 2 (Nat.le_of_ble_eq_true rfl) lk24 (fun _ h9 => h9) rfl dX2_takeOne_25 ?_
    refine lv_iconst (v := 1) hx hb dX2_takeOne_28 (by decide) ?_
    refine lv_iadd hx hb dX2_takeOne_29 ?_
    refine va_put (C := RX2) (T := TX2) (N := 7) (v := .int (v_place + (1 : Int32))) (ty := .int) hx hb hts iw2 tyX2 tyX2_ok nmX2 hown hK hP hD hS 0 rfl rfl 2 (Nat.le_of_ble_eq_true rfl) lk24 (fun _ h9 => h9) rfl (by decide +kernel) rfl rfl (Nat.le_of_ble_eq_true rfl) dX2_takeOne_30 (fun H locs hP hD hS => ?_)
    have hP : va_P D vwCl [oX2 q v_length (v_place + (1 : Int32)) z1 v_tokenAt v_value v_fault, rA (q 1) cI 200 v_text] H := hP
    have hD : va_D A [oX2 q v_length (v_place + (1 : Int32)) z1 v_tokenAt v_value v_fault, rA (q 1) cI 200 v_text] := hD
    exact hret ((v_place + (1 : Int32), z1)) H locs _ ls (Option.some.inj h) hP hD hS dX2_takeOne_33
  have h := hf
  unfold f_X2_takeOne at h
  obtain ⟨H, eH⟩ : ∃ H, H = s.heap := ⟨_, rfl⟩
  rw [← eH] at hP ⊢
  obtain ⟨locs, el⟩ : ∃ locs : List Loc, locs = [] := ⟨_, rfl⟩
  rw [← el] at hS ⊢
  have hS : va_S A s.heap H locs := by rw [eH]; exact hS
  refine lv_aload_n hx hb dX2_takeOne_0 rfl (lv_at hl 0 rfl) ?_
  refine lv_aload_n hx hb dX2_takeOne_1 rfl (lv_at hl 0 rfl) ?_
  refine va_get (C := RX2) (T := TX2) (N := 7) (v := .ref (q 1)) hx hb hts iw2 hown hK hP 0 rfl rfl 0 (Nat.le_of_ble_eq_true rfl) lk9 (fun _ h9 => h9) rfl dX2_takeOne_2 ?_
  refine lv_aload_n hx hb dX2_takeOne_5 rfl (lv_at hl 0 rfl) ?_
  refine va_get (C := RX2) (T := TX2) (N := 7) (v := .int v_place) hx hb hts iw2 hown hK hP 0 rfl rfl 2 (Nat.le_of_ble_eq_true rfl) lk24 (fun _ h9 => h9) rfl dX2_takeOne_6 ?_
  obtain ⟨hi1, h⟩ := xb_some h
  refine va_iald hx hb hK hP 1 0 rfl rfl hi1 dX2_takeOne_9 ?_
  refine lv_bipush (v := 59) hx hb dX2_takeOne_10 (by decide) ?_
  refine lv_icmp_ne (tgt := 19) hx hb dX2_takeOne_12 (by decide) (fun c2 => ?_) (fun c2 => ?_)
  · have h := (if_neg c2).symm.trans h
    refine lv_iconst (v := 4) hx hb dX2_takeOne_19 (by decide) ?_
    exact hJ20 v_place v_token (4 : Int32) H locs ls h hP hD hS (lv_sub hl [0] rfl)
  · have h := (if_pos c2).symm.trans h
    refine lv_iconst (v := 3) hx hb dX2_takeOne_15 (by decide) ?_
    refine lv_goto (tgt := 20) hx hb dX2_takeOne_16 (by decide) ?_
    exact hJ20 v_place v_token (3 : Int32) H locs ls h hP hD hS (lv_sub hl [0] rfl)
abbrev rm_X2_nextToken : Room := { frames := 1, cells := 0, slots := 0, locals := 22 }
set_option maxHeartbeats 4000000 in
set_option maxRecDepth 100000 in
theorem k_X2_nextToken (l : Launch) (D : va_G) (cI cZ cT : ClassId) (q : Nat → Nat) (sz : Nat) (v_length : Int32) (v_place : Int32) (v_token : Int32) (v_tokenAt : Int32) (v_value : Int32) (v_fault : Int32) (v_text : Nat → Int32) (res : R_X2_nextToken) (fu : Nat) (hf : f_X2_nextToken fu v_text v_length v_place v_token v_tokenAt v_value = some res) : Met l yX2_nextToken wsX2_nextToken rm_X2_nextToken (cPre D (tyz cI cZ cT) [.ref (q 0)] sz [oX2 q v_length v_place v_token v_tokenAt v_value v_fault, rA (q 1) cI 200 v_text]) (cPv D (tyz cI cZ cT) (fun (u : Int32 × Int32 × Int32 × Int32) => u = res) (fun u => [oX2 q v_length u.1 u.2.1 u.2.2.1 u.2.2.2 v_fault, rA (q 1) cI 200 v_text]) [oX2 q v_length v_place v_token v_tokenAt v_value v_fault, rA (q 1) cI 200 v_text] sz) 0 0 (va_A [oX2 q v_length v_place v_token v_tokenAt v_value v_fault, rA (q 1) cI 200 v_text] sz) := by
  refine vx_meth_v (by decide) rfl (Nat.le_of_ble_eq_true rfl) ?_
  intro p e s m args below meth c A Q hx hb hml hown hts hK hP hD hA hS hret ls hl
  have hown : s.vm.findClass RX2 = some m.cls := hown
  have hl : lv_has ls 1 [(0, .ref (q 0))] := hl
  have hFx : CallFix p m c cX2_nextToken 1 s args wsX2_nextToken RX2 := ⟨hx, hb, hml, hown, hts⟩
  have lk9 := hts (.fieldLink RX2 9 "FogGuides$TextReader" "text" "[I") (by decide +kernel)
  have iw2 : ∀ w ∈ u_ws RX2 TX2 7, w ∈ wsX2_nextToken := by decide +kernel
  have lk24 := hts (.fieldLink RX2 24 "FogGuides$TextReader" "place" "I") (by decide +kernel)
  have lk117 := hts (.fieldLink RX2 117 "FogGuides$TextReader" "tokenAt" "I") (by decide +kernel)
  have lk15 := hts (.fieldLink RX2 15 "FogGuides$TextReader" "length" "I") (by decide +kernel)
  have lk33 := hts (.fieldLink RX2 33 "FogGuides$TextReader" "token" "I") (by decide +kernel)
  have hJ135 : ∀ (v_place : Int32) (v_token : Int32) (v_tokenAt : Int32) (v_value : Int32) (H : Heap) (locs : List Loc) (ls : Array Slot), f_X2_nextToken_J135 fu v_text v_length v_place v_token v_tokenAt v_value = some res → va_P D vwCl [oX2 q v_length v_place v_token v_tokenAt v_value v_fault, rA (q 1) cI 200 v_text] H → va_D A [oX2 q v_length v_place v_token v_tokenAt v_value v_fault, rA (q 1) cI 200 v_text] → va_S A s.heap H locs → lv_has ls 1 [(0, .ref (q 0))] → W p l e rm_X2_nextToken s m args below meth c H locs 0 0 Q (F0 m 135 ls []) := by
    intro v_place v_token v_tokenAt v_value H locs ls h hP hD hS hl
    unfold f_X2_nextToken_J135 at h
    refine lv_aload_n hx hb dX2_nextToken_135 rfl (lv_at hl 0 rfl) ?_
    obtain ⟨r1, hr1, h⟩ := xk_some h
    refine vx_VV (As := []) (rest := []) (wr := []) (wn := [oX2 q v_length r1.1 r1.2 v_tokenAt v_value v_fault, rA (q 1) cI 200 v_text]) hFx (k_X2_takeOne l D cI cZ cT q H.size v_length v_place v_token v_tokenAt v_value v_fault v_text r1 hr1) (cwV 0 hts gX2_nextToken_X2_takeOne rfl rfl rfl (by decide +kernel) ⟨Nat.le_of_ble_eq_true rfl, Nat.le_of_ble_eq_true rfl⟩) hK hP hD hS hA [0, 1] [] [0, 1] rfl rfl rfl rfl (by decide) rfl rfl 2 0 rfl rfl rfl hl.1 rfl (Nat.le_of_ble_eq_true rfl) dX2_nextToken_136 ⟨Nat.zero_le _, Nat.zero_le _⟩ (fun H locs hP hD hS => ?_)
    exact hret (r1.1, r1.2, v_tokenAt, v_value) H locs _ ls (Option.some.inj h) hP hD hS dX2_nextToken_139
  have hJ100 : ∀ (v_place : Int32) (v_token : Int32) (v_tokenAt : Int32) (v_value : Int32) (H : Heap) (locs : List Loc) (ls : Array Slot), f_X2_nextToken_J100 fu v_text v_length v_place v_token v_tokenAt v_value = some res → va_P D vwCl [oX2 q v_length v_place v_token v_tokenAt v_value v_fault, rA (q 1) cI 200 v_text] H → va_D A [oX2 q v_length v_place v_token v_tokenAt v_value v_fault, rA (q 1) cI 200 v_text] → va_S A s.heap H locs → lv_has ls 1 [(0, .ref (q 0))] → W p l e rm_X2_nextToken s m args below meth c H locs 0 0 Q (F0 m 100 ls []) := by
    intro v_place v_token v_tokenAt v_value H locs ls h hP hD hS hl
    unfold f_X2_nextToken_J100 at h
    refine lv_aload_n hx hb dX2_nextToken_100 rfl (lv_at hl 0 rfl) ?_
    refine va_get (C := RX2) (T := TX2) (N := 7) (v := .ref (q 1)) hx hb hts iw2 hown hK hP 0 rfl rfl 0 (Nat.le_of_ble_eq_true rfl) lk9 (fun _ h9 => h9) rfl dX2_nextToken_101 ?_
    refine lv_aload_n hx hb dX2_nextToken_104 rfl (lv_at hl 0 rfl) ?_
    refine va_get (C := RX2) (T := TX2) (N := 7) (v := .int v_place) hx hb hts iw2 hown hK hP 0 rfl rfl 2 (Nat.le_of_ble_eq_true rfl) lk24 (fun _ h9 => h9) rfl dX2_nextToken_105 ?_
    obtain ⟨hi2, h⟩ := xb_some h
    refine va_iald hx hb hK hP 1 0 rfl rfl hi2 dX2_nextToken_108 ?_
    refine lv_bipush (v := 48) hx hb dX2_nextToken_109 (by decide) ?_
    refine lv_icmp_lt (tgt := 135) hx hb dX2_nextToken_111 (by decide) (fun c3 => ?_) (fun c3 => ?_)
    · have h := (if_pos c3).symm.trans h
      exact hJ135 v_place v_token v_tokenAt v_value H locs ls h hP hD hS (lv_sub hl [0] rfl)
    · have h := (if_neg c3).symm.trans h
      refine lv_aload_n hx hb dX2_nextToken_114 rfl (lv_at hl 0 rfl) ?_
      refine va_get (C := RX2) (T := TX2) (N := 7) (v := .ref (q 1)) hx hb hts iw2 hown hK hP 0 rfl rfl 0 (Nat.le_of_ble_eq_true rfl) lk9 (fun _ h9 => h9) rfl dX2_nextToken_115 ?_
      refine lv_aload_n hx hb dX2_nextToken_118 rfl (lv_at hl 0 rfl) ?_
      refine va_get (C := RX2) (T := TX2) (N := 7) (v := .int v_place) hx hb hts iw2 hown hK hP 0 rfl rfl 2 (Nat.le_of_ble_eq_true rfl) lk24 (fun _ h9 => h9) rfl dX2_nextToken_119 ?_
      obtain ⟨hi4, h⟩ := xb_some h
      refine va_iald hx hb hK hP 1 0 rfl rfl hi4 dX2_nextToken_122 ?_
      refine lv_bipush (v := 57) hx hb dX2_nextToken_123 (by decide) ?_
      refine lv_icmp_gt (tgt := 135) hx hb dX2_nextToken_125 (by decide) (fun c5 => ?_) (fun c5 => ?_)
      · have h := (if_pos c5).symm.trans h
        exact hJ135 v_place v_token v_tokenAt v_value H locs ls h hP hD hS (lv_sub hl [0] rfl)
      · have h := (if_neg c5).symm.trans h
        refine lv_aload_n hx hb dX2_nextToken_128 rfl (lv_at hl 0 rfl) ?_
        obtain ⟨r6, hr6, h⟩ := xk_some h
        refine vx_VV (As := []) (rest := []) (wr := []) (wn := [oX2 q v_length r6.1 r6.2.1 v_tokenAt r6.2.2 v_fault, rA (q 1) cI 200 v_text]) hFx (k_X2_takeDigits l D cI cZ cT q H.size v_length v_place v_token v_tokenAt v_value v_fault v_text r6 fu hr6) (cwV 0 hts gX2_nextToken_X2_takeDigits rfl rfl rfl (by decide +kernel) ⟨Nat.le_of_ble_eq_true rfl, Nat.le_of_ble_eq_true rfl⟩) hK hP hD hS hA [0, 1] [] [0, 1] rfl rfl rfl rfl (by decide) rfl rfl 2 0 rfl rfl rfl hl.1 rfl (Nat.le_of_ble_eq_true rfl) dX2_nextToken_129 ⟨Nat.zero_le _, Nat.zero_le _⟩ (fun H locs hP hD hS => ?_)
        refine lv_goto (tgt := 139) hx hb dX2_nextToken_132 (by decide) ?_
        exact hret (r6.1, r6.2.1, v_tokenAt, r6.2.2) H locs _ ls (Option.some.inj h) hP hD hS dX2_nextToken_139
  have hJ38 : ∀ (v_place : Int32) (v_token : Int32) (v_tokenAt : Int32) (v_value : Int32) (H : Heap) (locs : List Loc) (ls : Array Slot), f_X2_nextToken_J38 fu v_text v_length v_place v_token v_tokenAt v_value = some res → va_P D vwCl [oX2 q v_length v_place v_token v_tokenAt v_value v_fault, rA (q 1) cI 200 v_text] H → va_D A [oX2 q v_length v_place v_token v_tokenAt v_value v_fault, rA (q 1) cI 200 v_text] → va_S A s.heap H locs → lv_has ls 1 [(0, .ref (q 0))] → W p l e rm_X2_nextToken s m args below meth c H locs 0 0 Q (F0 m 38 ls []) := by
    intro v_place v_token v_tokenAt v_value H locs ls h hP hD hS hl
    unfold f_X2_nextToken_J38 at h
    refine lv_aload_n hx hb dX2_nextToken_38 rfl (lv_at hl 0 rfl) ?_
    refine lv_aload_n hx hb dX2_nextToken_39 rfl (lv_at hl 0 rfl) ?_
    refine va_get (C := RX2) (T := TX2) (N := 7) (v := .int v_place) hx hb hts iw2 hown hK hP 0 rfl rfl 2 (Nat.le_of_ble_eq_true rfl) lk24 (fun _ h9 => h9) rfl dX2_nextToken_40 ?_
    refine va_put (C := RX2) (T := TX2) (N := 7) (v := .int v_place) (ty := .int) hx hb hts iw2 tyX2 tyX2_ok nmX2 hown hK hP hD hS 0 rfl rfl 4 (Nat.le_of_ble_eq_true rfl) lk117 (fun _ h9 => h9) rfl (by decide +kernel) rfl rfl (Nat.le_of_ble_eq_true rfl) dX2_nextToken_43 (fun H locs hP hD hS => ?_)
    have hP : va_P D vwCl [oX2 q v_length v_place v_token v_place v_value v_fault, rA (q 1) cI 200 v_text] H := hP
    have hD : va_D A [oX2 q v_length v_place v_token v_place v_value v_fault, rA (q 1) cI 200 v_text] := hD
    refine lv_aload_n hx hb dX2_nextToken_46 rfl (lv_at hl 0 rfl) ?_
    refine va_get (C := RX2) (T := TX2) (N := 7) (v := .int v_place) hx hb hts iw2 hown hK hP 0 rfl rfl 2 (Nat.le_of_ble_eq_true rfl) lk24 (fun _ h9 => h9) rfl dX2_nextToken_47 ?_
    refine lv_aload_n hx hb dX2_nextToken_50 rfl (lv_at hl 0 rfl) ?_
    refine va_get (C := RX2) (T := TX2) (N := 7) (v := .int v_length) hx hb hts iw2 hown hK hP 0 rfl rfl 1 (Nat.le_of_ble_eq_true rfl) lk15 (fun _ h9 => h9) rfl dX2_nextToken_51 ?_
    refine lv_icmp_lt (tgt := 65) hx hb dX2_nextToken_54 (by decide) (fun c7 => ?_) (fun c7 => ?_)
    · have h := (if_pos c7).symm.trans h
      refine lv_aload_n hx hb dX2_nextToken_65 rfl (lv_at hl 0 rfl) ?_
      refine va_get (C := RX2) (T := TX2) (N := 7) (v := .ref (q 1)) hx hb hts iw2 hown hK hP 0 rfl rfl 0 (Nat.le_of_ble_eq_true rfl) lk9 (fun _ h9 => h9) rfl dX2_nextToken_66 ?_
      refine lv_aload_n hx hb dX2_nextToken_69 rfl (lv_at hl 0 rfl) ?_
      refine va_get (C := RX2) (T := TX2) (N := 7) (v := .int v_place) hx hb hts iw2 hown hK hP 0 rfl rfl 2 (Nat.le_of_ble_eq_true rfl) lk24 (fun _ h9 => h9) rfl dX2_nextToken_70 ?_
      obtain ⟨hi8, h⟩ := xb_some h
      refine va_iald hx hb hK hP 1 0 rfl rfl hi8 dX2_nextToken_73 ?_
      refine lv_bipush (v := 97) hx hb dX2_nextToken_74 (by decide) ?_
      refine lv_icmp_lt (tgt := 100) hx hb dX2_nextToken_76 (by decide) (fun c9 => ?_) (fun c9 => ?_)
      · have h := (if_pos c9).symm.trans h
        exact hJ100 v_place v_token v_place v_value H locs ls h hP hD hS (lv_sub hl [0] rfl)
      · have h := (if_neg c9).symm.trans h
        refine lv_aload_n hx hb dX2_nextToken_79 rfl (lv_at hl 0 rfl) ?_
        refine va_get (C := RX2) (T := TX2) (N := 7) (v := .ref (q 1)) hx hb hts iw2 hown hK hP 0 rfl rfl 0 (Nat.le_of_ble_eq_true rfl) lk9 (fun _ h9 => h9) rfl dX2_nextToken_80 ?_
        refine lv_aload_n hx hb dX2_nextToken_83 rfl (lv_at hl 0 rfl) ?_
        refine va_get (C := RX2) (T := TX2) (N := 7) (v := .int v_place) hx hb hts iw2 hown hK hP 0 rfl rfl 2 (Nat.le_of_ble_eq_true rfl) lk24 (fun _ h9 => h9) rfl dX2_nextToken_84 ?_
        obtain ⟨hi10, h⟩ := xb_some h
        refine va_iald hx hb hK hP 1 0 rfl rfl hi10 dX2_nextToken_87 ?_
        refine lv_bipush (v := 122) hx hb dX2_nextToken_88 (by decide) ?_
        refine lv_icmp_gt (tgt := 100) hx hb dX2_nextToken_90 (by decide) (fun c11 => ?_) (fun c11 => ?_)
        · have h := (if_pos c11).symm.trans h
          exact hJ100 v_place v_token v_place v_value H locs ls h hP hD hS (lv_sub hl [0] rfl)
        · have h := (if_neg c11).symm.trans h
          refine lv_aload_n hx hb dX2_nextToken_93 rfl (lv_at hl 0 rfl) ?_
          obtain ⟨r12, hr12, h⟩ := xk_some h
          refine vx_VV (As := []) (rest := []) (wr := []) (wn := [oX2 q v_length r12.1 r12.2.1 v_place r12.2.2 v_fault, rA (q 1) cI 200 v_text]) hFx (k_X2_takeLetters l D cI cZ cT q H.size v_length v_place v_token v_place v_value v_fault v_text r12 fu hr12) (cwV 0 hts gX2_nextToken_X2_takeLetters rfl rfl rfl (by decide +kernel) ⟨Nat.le_of_ble_eq_true rfl, Nat.le_of_ble_eq_true rfl⟩) hK hP hD hS hA [0, 1] [] [0, 1] rfl rfl rfl rfl (by decide) rfl rfl 2 0 rfl rfl rfl hl.1 rfl (Nat.le_of_ble_eq_true rfl) dX2_nextToken_94 ⟨Nat.zero_le _, Nat.zero_le _⟩ (fun H locs hP hD hS => ?_)
          refine lv_goto (tgt := 139) hx hb dX2_nextToken_97 (by decide) ?_
          exact hret (r12.1, r12.2.1, v_place, r12.2.2) H locs _ ls (Option.some.inj h) hP hD hS dX2_nextToken_139
    · have h := (if_neg c7).symm.trans h
      refine lv_aload_n hx hb dX2_nextToken_57 rfl (lv_at hl 0 rfl) ?_
      refine lv_iconst (v := 0) hx hb dX2_nextToken_58 (by decide) ?_
      refine va_put (C := RX2) (T := TX2) (N := 7) (v := .int (0 : Int32)) (ty := .int) hx hb hts iw2 tyX2 tyX2_ok nmX2 hown hK hP hD hS 0 rfl rfl 3 (Nat.le_of_ble_eq_true rfl) lk33 (fun _ h9 => h9) rfl (by decide +kernel) rfl rfl (Nat.le_of_ble_eq_true rfl) dX2_nextToken_59 (fun H locs hP hD hS => ?_)
      have hP : va_P D vwCl [oX2 q v_length v_place (0 : Int32) v_place v_value v_fault, rA (q 1) cI 200 v_text] H := hP
      have hD : va_D A [oX2 q v_length v_place (0 : Int32) v_place v_value v_fault, rA (q 1) cI 200 v_text] := hD
      refine lv_goto (tgt := 139) hx hb dX2_nextToken_62 (by decide) ?_
      exact hret ((v_place, (0 : Int32), v_place, v_value)) H locs _ ls (Option.some.inj h) hP hD hS dX2_nextToken_139
  have hL0 : ∀ (n0 : Nat), ∀ (v_place : Int32) (v_token : Int32) (v_tokenAt : Int32) (v_value : Int32) (H : Heap) (locs : List Loc) (ls : Array Slot), f_X2_nextToken_L0 fu n0 v_text v_length v_place v_token v_tokenAt v_value = some res → va_P D vwCl [oX2 q v_length v_place v_token v_tokenAt v_value v_fault, rA (q 1) cI 200 v_text] H → va_D A [oX2 q v_length v_place v_token v_tokenAt v_value v_fault, rA (q 1) cI 200 v_text] → va_S A s.heap H locs → lv_has ls 1 [(0, .ref (q 0))] → W p l e rm_X2_nextToken s m args below meth c H locs 0 0 Q (F0 m 0 ls []) := by
    intro n0
    induction n0 with
    | zero =>
      intro v_place v_token v_tokenAt v_value H locs ls h hP hD hS hl
      cases (show (none : Option R_X2_nextToken) = some res from h)
    | succ n0 ih0 =>
      intro v_place v_token v_tokenAt v_value H locs ls h hP hD hS hl
      have h : f_X2_nextToken_L0b fu (f_X2_nextToken_L0 fu n0) v_text v_length v_place v_token v_tokenAt v_value = some res := h
      unfold f_X2_nextToken_L0b at h
      refine lv_aload_n hx hb dX2_nextToken_0 rfl (lv_at hl 0 rfl) ?_
      refine va_get (C := RX2) (T := TX2) (N := 7) (v := .int v_place) hx hb hts iw2 hown hK hP 0 rfl rfl 2 (Nat.le_of_ble_eq_true rfl) lk24 (fun _ h9 => h9) rfl dX2_nextToken_1 ?_
      refine lv_aload_n hx hb dX2_nextToken_4 rfl (lv_at hl 0 rfl) ?_
      refine va_get (C := RX2) (T := TX2) (N := 7) (v := .int v_length) hx hb hts iw2 hown hK hP 0 rfl rfl 1 (Nat.le_of_ble_eq_true rfl) lk15 (fun _ h9 => h9) rfl dX2_nextToken_5 ?_
      refine lv_icmp_ge (tgt := 38) hx hb dX2_nextToken_8 (by decide) (fun c13 => ?_) (fun c13 => ?_)
      · have h := (if_pos c13).symm.trans h
        exact hJ38 v_place v_token v_tokenAt v_value H locs ls h hP hD hS (lv_sub hl [0] rfl)
      · have h := (if_neg c13).symm.trans h
        refine lv_aload_n hx hb dX2_nextToken_11 rfl (lv_at hl 0 rfl) ?_
        refine va_get (C := RX2) (T := TX2) (N := 7) (v := .ref (q 1)) hx hb hts iw2 hown hK hP 0 rfl rfl 0 (Nat.le_of_ble_eq_true rfl) lk9 (fun _ h9 => h9) rfl dX2_nextToken_12 ?_
        refine lv_aload_n hx hb dX2_nextToken_15 rfl (lv_at hl 0 rfl) ?_
        refine va_get (C := RX2) (T := TX2) (N := 7) (v := .int v_place) hx hb hts iw2 hown hK hP 0 rfl rfl 2 (Nat.le_of_ble_eq_true rfl) lk24 (fun _ h9 => h9) rfl dX2_nextToken_16 ?_
        obtain ⟨hi14, h⟩ := xb_some h
        refine va_iald hx hb hK hP 1 0 rfl rfl hi14 dX2_nextToken_19 ?_
        refine lv_bipush (v := 32) hx hb dX2_nextToken_20 (by decide) ?_
        refine lv_icmp_ne (tgt := 38) hx hb dX2_nextToken_22 (by decide) (fun c15 => ?_) (fun c15 => ?_)
        · have h := (if_neg c15).symm.trans h
          exact hJ38 v_place v_token v_tokenAt v_value H locs ls h hP hD hS (lv_sub hl [0] rfl)
        · have h := (if_pos c15).symm.trans h
          refine lv_aload_n hx hb dX2_nextToken_25 rfl (lv_at hl 0 rfl) ?_
          refine lv_dup hx hb dX2_nextToken_26 rfl ?_
          refine va_get (C := RX2) (T := TX2) (N := 7) (v := .int v_place) hx hb hts iw2 hown hK hP 0 rfl rfl 2 (Nat.le_of_ble_eq_true rfl) lk24 (fun _ h9 => h9) rfl dX2_nextToken_27 ?_
          refine lv_iconst (v := 1) hx hb dX2_nextToken_30 (by decide) ?_
          refine lv_iadd hx hb dX2_nextToken_31 ?_
          refine va_put (C := RX2) (T := TX2) (N := 7) (v := .int (v_place + (1 : Int32))) (ty := .int) hx hb hts iw2 tyX2 tyX2_ok nmX2 hown hK hP hD hS 0 rfl rfl 2 (Nat.le_of_ble_eq_true rfl) lk24 (fun _ h9 => h9) rfl (by decide +kernel) rfl rfl (Nat.le_of_ble_eq_true rfl) dX2_nextToken_32 (fun H locs hP hD hS => ?_)
          have hP : va_P D vwCl [oX2 q v_length (v_place + (1 : Int32)) v_token v_tokenAt v_value v_fault, rA (q 1) cI 200 v_text] H := hP
          have hD : va_D A [oX2 q v_length (v_place + (1 : Int32)) v_token v_tokenAt v_value v_fault, rA (q 1) cI 200 v_text] := hD
          refine lv_goto (tgt := 0) hx hb dX2_nextToken_35 (by decide) ?_
          exact ih0 (v_place + (1 : Int32)) v_token v_tokenAt v_value H locs ls h hP hD hS (lv_sub hl [0] rfl)
  have h := hf
  unfold f_X2_nextToken at h
  obtain ⟨H, eH⟩ : ∃ H, H = s.heap := ⟨_, rfl⟩
  rw [← eH] at hP ⊢
  obtain ⟨locs, el⟩ : ∃ locs : List Loc, locs = [] := ⟨_, rfl⟩
  rw [← el] at hS ⊢
  have hS : va_S A s.heap H locs := by rw [eH]; exact hS
  exact hL0 fu v_place v_token v_tokenAt v_value H locs ls h hP hD hS (lv_sub hl [0] rfl)
abbrev rm_X2_refuseToken : Room := { frames := 0, cells := 0, slots := 0, locals := 0 }
set_option maxHeartbeats 4000000 in
set_option maxRecDepth 100000 in
theorem k_X2_refuseToken (l : Launch) (D : va_G) (cI cZ cT : ClassId) (q : Nat → Nat) (sz : Nat) (v_length : Int32) (v_place : Int32) (v_token : Int32) (v_tokenAt : Int32) (v_value : Int32) (v_fault : Int32) (res : R_X2_refuseToken) (hf : f_X2_refuseToken v_tokenAt v_fault = some res) : Met l yX2_refuseToken wsX2_refuseToken rm_X2_refuseToken (cPre D (tyz cI cZ cT) [.ref (q 0)] sz [oX2 q v_length v_place v_token v_tokenAt v_value v_fault]) (cPv D (tyz cI cZ cT) (fun (u : Int32) => u = res) (fun u => [oX2 q v_length v_place v_token v_tokenAt v_value u]) [oX2 q v_length v_place v_token v_tokenAt v_value v_fault] sz) 0 0 (va_A [oX2 q v_length v_place v_token v_tokenAt v_value v_fault] sz) := by
  refine vx_meth_v (by decide) rfl (Nat.le_of_ble_eq_true rfl) ?_
  intro p e s m args below meth c A Q hx hb hml hown hts hK hP hD hA hS hret ls hl
  have hown : s.vm.findClass RX2 = some m.cls := hown
  have hl : lv_has ls 1 [(0, .ref (q 0))] := hl
  have hFx : CallFix p m c cX2_refuseToken 1 s args wsX2_refuseToken RX2 := ⟨hx, hb, hml, hown, hts⟩
  have lk27 := hts (.fieldLink RX2 27 "FogGuides$TextReader" "fault" "I") (by decide +kernel)
  have iw2 : ∀ w ∈ u_ws RX2 TX2 7, w ∈ wsX2_refuseToken := by decide +kernel
  have lk117 := hts (.fieldLink RX2 117 "FogGuides$TextReader" "tokenAt" "I") (by decide +kernel)
  have h := hf
  unfold f_X2_refuseToken at h
  obtain ⟨H, eH⟩ : ∃ H, H = s.heap := ⟨_, rfl⟩
  rw [← eH] at hP ⊢
  obtain ⟨locs, el⟩ : ∃ locs : List Loc, locs = [] := ⟨_, rfl⟩
  rw [← el] at hS ⊢
  have hS : va_S A s.heap H locs := by rw [eH]; exact hS
  refine lv_aload_n hx hb dX2_refuseToken_0 rfl (lv_at hl 0 rfl) ?_
  refine va_get (C := RX2) (T := TX2) (N := 7) (v := .int v_fault) hx hb hts iw2 hown hK hP 0 rfl rfl 6 (Nat.le_of_ble_eq_true rfl) lk27 (fun _ h9 => h9) rfl dX2_refuseToken_1 ?_
  refine lv_iconst (v := (-1)) hx hb dX2_refuseToken_4 (by decide) ?_
  refine lv_icmp_ne (tgt := 16) hx hb dX2_refuseToken_5 (by decide) (fun c1 => ?_) (fun c1 => ?_)
  · have h := (if_neg c1).symm.trans h
    exact hret v_fault H locs _ ls (Option.some.inj h) hP hD hS dX2_refuseToken_16
  · have h := (if_pos c1).symm.trans h
    refine lv_aload_n hx hb dX2_refuseToken_8 rfl (lv_at hl 0 rfl) ?_
    refine lv_aload_n hx hb dX2_refuseToken_9 rfl (lv_at hl 0 rfl) ?_
    refine va_get (C := RX2) (T := TX2) (N := 7) (v := .int v_tokenAt) hx hb hts iw2 hown hK hP 0 rfl rfl 4 (Nat.le_of_ble_eq_true rfl) lk117 (fun _ h9 => h9) rfl dX2_refuseToken_10 ?_
    refine va_put (C := RX2) (T := TX2) (N := 7) (v := .int v_tokenAt) (ty := .int) hx hb hts iw2 tyX2 tyX2_ok nmX2 hown hK hP hD hS 0 rfl rfl 6 (Nat.le_of_ble_eq_true rfl) lk27 (fun _ h9 => h9) rfl (by decide +kernel) rfl rfl (Nat.le_of_ble_eq_true rfl) dX2_refuseToken_13 (fun H locs hP hD hS => ?_)
    have hP : va_P D vwCl [oX2 q v_length v_place v_token v_tokenAt v_value v_tokenAt] H := hP
    have hD : va_D A [oX2 q v_length v_place v_token v_tokenAt v_value v_tokenAt] := hD
    exact hret v_tokenAt H locs _ ls (Option.some.inj h) hP hD hS dX2_refuseToken_16
abbrev rm_X2_readNumber : Room := { frames := 2, cells := 0, slots := 0, locals := 42 }
set_option maxHeartbeats 4000000 in
set_option maxRecDepth 100000 in
theorem k_X2_readNumber (l : Launch) (D : va_G) (cI cZ cT : ClassId) (q : Nat → Nat) (sz : Nat) (v_length : Int32) (v_place : Int32) (v_token : Int32) (v_tokenAt : Int32) (v_value : Int32) (v_fault : Int32) (v_text : Nat → Int32) (x1 : Int32) (x2 : Int32) (res : R_X2_readNumber) (fu : Nat) (hf : f_X2_readNumber fu v_text v_length v_place v_token v_tokenAt v_value v_fault x1 x2 = some res) : Met l yX2_readNumber wsX2_readNumber rm_X2_readNumber (cPre D (tyz cI cZ cT) [.ref (q 0), .int x1, .int x2] sz [oX2 q v_length v_place v_token v_tokenAt v_value v_fault, rA (q 1) cI 200 v_text]) (cPi D (tyz cI cZ cT) (fun (r : Int32) (u : Int32 × Int32 × Int32 × Int32 × Int32) => (r, u) = res) (fun u => [oX2 q v_length u.1 u.2.1 u.2.2.1 u.2.2.2.1 u.2.2.2.2, rA (q 1) cI 200 v_text]) [oX2 q v_length v_place v_token v_tokenAt v_value v_fault, rA (q 1) cI 200 v_text] sz) 0 0 (va_A [oX2 q v_length v_place v_token v_tokenAt v_value v_fault, rA (q 1) cI 200 v_text] sz) := by
  refine vx_meth_i (by decide) rfl (Nat.le_of_ble_eq_true rfl) ?_
  intro p e s m args below meth c A Q hx hb hml hown hts hK hP hD hA hS hret ls hl
  have hown : s.vm.findClass RX2 = some m.cls := hown
  have hl : lv_has ls 3 [(0, .ref (q 0)), (1, .int x1), (2, .int x2)] := hl
  have hFx : CallFix p m c cX2_readNumber 3 s args wsX2_readNumber RX2 := ⟨hx, hb, hml, hown, hts⟩
  have lk27 := hts (.fieldLink RX2 27 "FogGuides$TextReader" "fault" "I") (by decide +kernel)
  have iw2 : ∀ w ∈ u_ws RX2 TX2 7, w ∈ wsX2_readNumber := by decide +kernel
  have lk33 := hts (.fieldLink RX2 33 "FogGuides$TextReader" "token" "I") (by decide +kernel)
  have lk43 := hts (.fieldLink RX2 43 "FogGuides$TextReader" "value" "I") (by decide +kernel)
  have hJ43 : ∀ (v_place : Int32) (v_token : Int32) (v_tokenAt : Int32) (v_value : Int32) (v_fault : Int32) (H : Heap) (locs : List Loc) (ls : Array Slot), f_X2_readNumber_J43 fu v_text v_length v_place v_token v_tokenAt v_value v_fault = some res → va_P D vwCl [oX2 q v_length v_place v_token v_tokenAt v_value v_fault, rA (q 1) cI 200 v_text] H → va_D A [oX2 q v_length v_place v_token v_tokenAt v_value v_fault, rA (q 1) cI 200 v_text] → va_S A s.heap H locs → lv_has ls 3 [(0, .ref (q 0))] → W p l e rm_X2_readNumber s m args below meth c H locs 0 0 Q (F0 m 43 ls []) := by
    intro v_place v_token v_tokenAt v_value v_fault H locs ls h hP hD hS hl
    unfold f_X2_readNumber_J43 at h
    refine lv_aload_n hx hb dX2_readNumber_43 rfl (lv_at hl 0 rfl) ?_
    obtain ⟨r1, hr1, h⟩ := xk_some h
    refine vx_VV (As := []) (rest := []) (wr := [rA (q 1) cI 200 v_text]) (wn := [oX2 q v_length v_place v_token v_tokenAt v_value r1, rA (q 1) cI 200 v_text]) hFx (k_X2_refuseToken l D cI cZ cT q H.size v_length v_place v_token v_tokenAt v_value v_fault r1 hr1) (cwV 0 hts gX2_readNumber_X2_refuseToken rfl rfl rfl (by decide +kernel) ⟨Nat.le_of_ble_eq_true rfl, Nat.le_of_ble_eq_true rfl⟩) hK hP hD hS hA [0] [1] [1, 0] rfl rfl rfl rfl (by decide) rfl rfl 2 0 rfl rfl rfl hl.1 rfl (Nat.le_of_ble_eq_true rfl) dX2_readNumber_44 ⟨Nat.zero_le _, Nat.zero_le _⟩ (fun H locs hP hD hS => ?_)
    refine lv_iconst (v := 0) hx hb dX2_readNumber_47 (by decide) ?_
    exact hret (0 : Int32) (v_place, v_token, v_tokenAt, v_value, r1) H locs _ ls (Option.some.inj h) hP hD hS dX2_readNumber_48
  have h := hf
  unfold f_X2_readNumber at h
  obtain ⟨H, eH⟩ : ∃ H, H = s.heap := ⟨_, rfl⟩
  rw [← eH] at hP ⊢
  obtain ⟨locs, el⟩ : ∃ locs : List Loc, locs = [] := ⟨_, rfl⟩
  rw [← el] at hS ⊢
  have hS : va_S A s.heap H locs := by rw [eH]; exact hS
  refine lv_aload_n hx hb dX2_readNumber_0 rfl (lv_at hl 0 rfl) ?_
  refine va_get (C := RX2) (T := TX2) (N := 7) (v := .int v_fault) hx hb hts iw2 hown hK hP 0 rfl rfl 6 (Nat.le_of_ble_eq_true rfl) lk27 (fun _ h9 => h9) rfl dX2_readNumber_1 ?_
  refine lv_iconst (v := (-1)) hx hb dX2_readNumber_4 (by decide) ?_
  refine lv_icmp_eq (tgt := 10) hx hb dX2_readNumber_5 (by decide) (fun c2 => ?_) (fun c2 => ?_)
  · have h := (if_pos c2).symm.trans h
    refine lv_aload_n hx hb dX2_readNumber_10 rfl (lv_at hl 0 rfl) ?_
    obtain ⟨r3, hr3, h⟩ := xk_some h
    refine vx_VV (As := []) (rest := []) (wr := []) (wn := [oX2 q v_length r3.1 r3.2.1 r3.2.2.1 r3.2.2.2 v_fault, rA (q 1) cI 200 v_text]) hFx (k_X2_nextToken l D cI cZ cT q H.size v_length v_place v_token v_tokenAt v_value v_fault v_text r3 fu hr3) (cwV 0 hts gX2_readNumber_X2_nextToken rfl rfl rfl (by decide +kernel) ⟨Nat.le_of_ble_eq_true rfl, Nat.le_of_ble_eq_true rfl⟩) hK hP hD hS hA [0, 1] [] [0, 1] rfl rfl rfl rfl (by decide) rfl rfl 2 0 rfl rfl rfl hl.1 rfl (Nat.le_of_ble_eq_true rfl) dX2_readNumber_11 ⟨Nat.zero_le _, Nat.zero_le _⟩ (fun H locs hP hD hS => ?_)
    refine lv_aload_n hx hb dX2_readNumber_14 rfl (lv_at hl 0 rfl) ?_
    refine va_get (C := RX2) (T := TX2) (N := 7) (v := .int r3.2.1) hx hb hts iw2 hown hK hP 0 rfl rfl 3 (Nat.le_of_ble_eq_true rfl) lk33 (fun _ h9 => h9) rfl dX2_readNumber_15 ?_
    refine lv_iconst (v := 2) hx hb dX2_readNumber_18 (by decide) ?_
    refine lv_icmp_ne (tgt := 43) hx hb dX2_readNumber_19 (by decide) (fun c4 => ?_) (fun c4 => ?_)
    · have h := (if_neg c4).symm.trans h
      exact hJ43 r3.1 r3.2.1 r3.2.2.1 r3.2.2.2 v_fault H locs ls h hP hD hS (lv_sub hl [0] rfl)
    · have h := (if_pos c4).symm.trans h
      refine lv_aload_n hx hb dX2_readNumber_22 rfl (lv_at hl 0 rfl) ?_
      refine va_get (C := RX2) (T := TX2) (N := 7) (v := .int r3.2.2.2) hx hb hts iw2 hown hK hP 0 rfl rfl 5 (Nat.le_of_ble_eq_true rfl) lk43 (fun _ h9 => h9) rfl dX2_readNumber_23 ?_
      refine lv_iload_n hx hb dX2_readNumber_26 rfl (lv_at hl 1 rfl) ?_
      refine lv_icmp_lt (tgt := 43) hx hb dX2_readNumber_27 (by decide) (fun c5 => ?_) (fun c5 => ?_)
      · have h := (if_pos c5).symm.trans h
        exact hJ43 r3.1 r3.2.1 r3.2.2.1 r3.2.2.2 v_fault H locs ls h hP hD hS (lv_sub hl [0] rfl)
      · have h := (if_neg c5).symm.trans h
        refine lv_aload_n hx hb dX2_readNumber_30 rfl (lv_at hl 0 rfl) ?_
        refine va_get (C := RX2) (T := TX2) (N := 7) (v := .int r3.2.2.2) hx hb hts iw2 hown hK hP 0 rfl rfl 5 (Nat.le_of_ble_eq_true rfl) lk43 (fun _ h9 => h9) rfl dX2_readNumber_31 ?_
        refine lv_iload_n hx hb dX2_readNumber_34 rfl (lv_at hl 2 rfl) ?_
        refine lv_icmp_gt (tgt := 43) hx hb dX2_readNumber_35 (by decide) (fun c6 => ?_) (fun c6 => ?_)
        · have h := (if_pos c6).symm.trans h
          exact hJ43 r3.1 r3.2.1 r3.2.2.1 r3.2.2.2 v_fault H locs ls h hP hD hS (lv_sub hl [0] rfl)
        · have h := (if_neg c6).symm.trans h
          refine lv_aload_n hx hb dX2_readNumber_38 rfl (lv_at hl 0 rfl) ?_
          refine va_get (C := RX2) (T := TX2) (N := 7) (v := .int r3.2.2.2) hx hb hts iw2 hown hK hP 0 rfl rfl 5 (Nat.le_of_ble_eq_true rfl) lk43 (fun _ h9 => h9) rfl dX2_readNumber_39 ?_
          exact hret r3.2.2.2 (r3.1, r3.2.1, r3.2.2.1, r3.2.2.2, v_fault) H locs _ ls (Option.some.inj h) hP hD hS dX2_readNumber_42
  · have h := (if_neg c2).symm.trans h
    refine lv_iconst (v := 0) hx hb dX2_readNumber_8 (by decide) ?_
    exact hret (0 : Int32) (v_place, v_token, v_tokenAt, v_value, v_fault) H locs _ ls (Option.some.inj h) hP hD hS dX2_readNumber_9
abbrev rm_X2_readStop : Room := { frames := 2, cells := 0, slots := 0, locals := 42 }
set_option maxHeartbeats 4000000 in
set_option maxRecDepth 100000 in
theorem k_X2_readStop (l : Launch) (D : va_G) (cI cZ cT : ClassId) (q : Nat → Nat) (sz : Nat) (v_length : Int32) (v_place : Int32) (v_token : Int32) (v_tokenAt : Int32) (v_value : Int32) (v_fault : Int32) (v_text : Nat → Int32) (res : R_X2_readStop) (fu : Nat) (hf : f_X2_readStop fu v_text v_length v_place v_token v_tokenAt v_value v_fault = some res) : Met l yX2_readStop wsX2_readStop rm_X2_readStop (cPre D (tyz cI cZ cT) [.ref (q 0)] sz [oX2 q v_length v_place v_token v_tokenAt v_value v_fault, rA (q 1) cI 200 v_text]) (cPv D (tyz cI cZ cT) (fun (u : Int32 × Int32 × Int32 × Int32 × Int32) => u = res) (fun u => [oX2 q v_length u.1 u.2.1 u.2.2.1 u.2.2.2.1 u.2.2.2.2, rA (q 1) cI 200 v_text]) [oX2 q v_length v_place v_token v_tokenAt v_value v_fault, rA (q 1) cI 200 v_text] sz) 0 0 (va_A [oX2 q v_length v_place v_token v_tokenAt v_value v_fault, rA (q 1) cI 200 v_text] sz) := by
  refine vx_meth_v (by decide) rfl (Nat.le_of_ble_eq_true rfl) ?_
  intro p e s m args below meth c A Q hx hb hml hown hts hK hP hD hA hS hret ls hl
  have hown : s.vm.findClass RX2 = some m.cls := hown
  have hl : lv_has ls 1 [(0, .ref (q 0))] := hl
  have hFx : CallFix p m c cX2_readStop 1 s args wsX2_readStop RX2 := ⟨hx, hb, hml, hown, hts⟩
  have lk27 := hts (.fieldLink RX2 27 "FogGuides$TextReader" "fault" "I") (by decide +kernel)
  have iw2 : ∀ w ∈ u_ws RX2 TX2 7, w ∈ wsX2_readStop := by decide +kernel
  have lk33 := hts (.fieldLink RX2 33 "FogGuides$TextReader" "token" "I") (by decide +kernel)
  have h := hf
  unfold f_X2_readStop at h
  obtain ⟨H, eH⟩ : ∃ H, H = s.heap := ⟨_, rfl⟩
  rw [← eH] at hP ⊢
  obtain ⟨locs, el⟩ : ∃ locs : List Loc, locs = [] := ⟨_, rfl⟩
  rw [← el] at hS ⊢
  have hS : va_S A s.heap H locs := by rw [eH]; exact hS
  refine lv_aload_n hx hb dX2_readStop_0 rfl (lv_at hl 0 rfl) ?_
  refine va_get (C := RX2) (T := TX2) (N := 7) (v := .int v_fault) hx hb hts iw2 hown hK hP 0 rfl rfl 6 (Nat.le_of_ble_eq_true rfl) lk27 (fun _ h9 => h9) rfl dX2_readStop_1 ?_
  refine lv_iconst (v := (-1)) hx hb dX2_readStop_4 (by decide) ?_
  refine lv_icmp_eq (tgt := 9) hx hb dX2_readStop_5 (by decide) (fun c1 => ?_) (fun c1 => ?_)
  · have h := (if_pos c1).symm.trans h
    refine lv_aload_n hx hb dX2_readStop_9 rfl (lv_at hl 0 rfl) ?_
    obtain ⟨r2, hr2, h⟩ := xk_some h
    refine vx_VV (As := []) (rest := []) (wr := []) (wn := [oX2 q v_length r2.1 r2.2.1 r2.2.2.1 r2.2.2.2 v_fault, rA (q 1) cI 200 v_text]) hFx (k_X2_nextToken l D cI cZ cT q H.size v_length v_place v_token v_tokenAt v_value v_fault v_text r2 fu hr2) (cwV 0 hts gX2_readStop_X2_nextToken rfl rfl rfl (by decide +kernel) ⟨Nat.le_of_ble_eq_true rfl, Nat.le_of_ble_eq_true rfl⟩) hK hP hD hS hA [0, 1] [] [0, 1] rfl rfl rfl rfl (by decide) rfl rfl 2 0 rfl rfl rfl hl.1 rfl (Nat.le_of_ble_eq_true rfl) dX2_readStop_10 ⟨Nat.zero_le _, Nat.zero_le _⟩ (fun H locs hP hD hS => ?_)
    refine lv_aload_n hx hb dX2_readStop_13 rfl (lv_at hl 0 rfl) ?_
    refine va_get (C := RX2) (T := TX2) (N := 7) (v := .int r2.2.1) hx hb hts iw2 hown hK hP 0 rfl rfl 3 (Nat.le_of_ble_eq_true rfl) lk33 (fun _ h9 => h9) rfl dX2_readStop_14 ?_
    refine lv_iconst (v := 3) hx hb dX2_readStop_17 (by decide) ?_
    refine lv_icmp_eq (tgt := 25) hx hb dX2_readStop_18 (by decide) (fun c3 => ?_) (fun c3 => ?_)
    · have h := (if_pos c3).symm.trans h
      exact hret (r2.1, r2.2.1, r2.2.2.1, r2.2.2.2, v_fault) H locs _ ls (Option.some.inj h) hP hD hS dX2_readStop_25
    · have h := (if_neg c3).symm.trans h
      refine lv_aload_n hx hb dX2_readStop_21 rfl (lv_at hl 0 rfl) ?_
      obtain ⟨r4, hr4, h⟩ := xk_some h
      refine vx_VV (As := []) (rest := []) (wr := [rA (q 1) cI 200 v_text]) (wn := [oX2 q v_length r2.1 r2.2.1 r2.2.2.1 r2.2.2.2 r4, rA (q 1) cI 200 v_text]) hFx (k_X2_refuseToken l D cI cZ cT q H.size v_length r2.1 r2.2.1 r2.2.2.1 r2.2.2.2 v_fault r4 hr4) (cwV 0 hts gX2_readStop_X2_refuseToken rfl rfl rfl (by decide +kernel) ⟨Nat.le_of_ble_eq_true rfl, Nat.le_of_ble_eq_true rfl⟩) hK hP hD hS hA [0] [1] [1, 0] rfl rfl rfl rfl (by decide) rfl rfl 2 0 rfl rfl rfl hl.1 rfl (Nat.le_of_ble_eq_true rfl) dX2_readStop_22 ⟨Nat.zero_le _, Nat.zero_le _⟩ (fun H locs hP hD hS => ?_)
      exact hret (r2.1, r2.2.1, r2.2.2.1, r2.2.2.2, r4) H locs _ ls (Option.some.inj h) hP hD hS dX2_readStop_25
  · have h := (if_neg c1).symm.trans h
    exact hret (v_place, v_token, v_tokenAt, v_value, v_fault) H locs _ ls (Option.some.inj h) hP hD hS dX2_readStop_8
abbrev rm_X2_readCorner : Room := { frames := 3, cells := 0, slots := 0, locals := 64 }
set_option maxHeartbeats 4000000 in
set_option maxRecDepth 100000 in
theorem k_X2_readCorner (l : Launch) (D : va_G) (cI cZ cT : ClassId) (q : Nat → Nat) (qm : Nat → Nat) (sz : Nat) (v_length : Int32) (v_place : Int32) (v_token : Int32) (v_tokenAt : Int32) (v_value : Int32) (v_fault : Int32) (m_cornerCount : Int32) (m_streetCount : Int32) (m_guideCount : Int32) (m_bellCount : Int32) (m_hand : Int32) (m_handTold : Int32) (v_text : Nat → Int32) (m_marks : Nat → Int32) (res : R_X2_readCorner) (fu : Nat) (hf : f_X2_readCorner fu v_text v_length v_place v_token v_tokenAt v_value v_fault m_cornerCount m_marks = some res) : Met l yX2_readCorner wsX2_readCorner rm_X2_readCorner (cPre D (tyz cI cZ cT) [.ref (q 0), .ref (qm 0)] sz [oX2 q v_length v_place v_token v_tokenAt v_value v_fault, rA (q 1) cI 200 v_text, oX4 qm m_cornerCount m_streetCount m_guideCount m_bellCount m_hand m_handTold, rA (qm 7) cI 7 m_marks]) (cPv D (tyz cI cZ cT) (fun (u : Int32 × Int32 × Int32 × Int32 × Int32 × Int32 × (Nat → Int32)) => u = res) (fun u => [oX2 q v_length u.1 u.2.1 u.2.2.1 u.2.2.2.1 u.2.2.2.2.1, rA (q 1) cI 200 v_text, oX4 qm u.2.2.2.2.2.1 m_streetCount m_guideCount m_bellCount m_hand m_handTold, rA (qm 7) cI 7 u.2.2.2.2.2.2]) [oX2 q v_length v_place v_token v_tokenAt v_value v_fault, rA (q 1) cI 200 v_text, oX4 qm m_cornerCount m_streetCount m_guideCount m_bellCount m_hand m_handTold, rA (qm 7) cI 7 m_marks] sz) 0 0 (va_A [oX2 q v_length v_place v_token v_tokenAt v_value v_fault, rA (q 1) cI 200 v_text, oX4 qm m_cornerCount m_streetCount m_guideCount m_bellCount m_hand m_handTold, rA (qm 7) cI 7 m_marks] sz) := by
  refine vx_meth_v (by decide) rfl (Nat.le_of_ble_eq_true rfl) ?_
  intro p e s m args below meth c A Q hx hb hml hown hts hK hP hD hA hS hret ls hl
  have hown : s.vm.findClass RX2 = some m.cls := hown
  have hl : lv_has ls 3 [(0, .ref (q 0)), (1, .ref (qm 0))] := hl
  have hFx : CallFix p m c cX2_readCorner 3 s args wsX2_readCorner RX2 := ⟨hx, hb, hml, hown, hts⟩
  have lk64 := hts (.fieldLink RX2 64 "FogGuides$TownMap" "cornerCount" "I") (by decide +kernel)
  have iw4 : ∀ w ∈ u_ws RX4 TX4 15, w ∈ wsX2_readCorner := by decide +kernel
  have lk67 := hts (.fieldLink RX2 67 "FogGuides$TownMap" "marks" "[I") (by decide +kernel)
  have h := hf
  unfold f_X2_readCorner at h
  obtain ⟨H, eH⟩ : ∃ H, H = s.heap := ⟨_, rfl⟩
  rw [← eH] at hP ⊢
  obtain ⟨locs, el⟩ : ∃ locs : List Loc, locs = [] := ⟨_, rfl⟩
  rw [← el] at hS ⊢
  have hS : va_S A s.heap H locs := by rw [eH]; exact hS
  refine lv_aload_n hx hb dX2_readCorner_0 rfl (lv_at hl 1 rfl) ?_
  refine va_get (C := RX4) (T := TX4) (N := 15) (v := .int m_cornerCount) hx hb hts iw4 hown hK hP 2 rfl rfl 0 (Nat.le_of_ble_eq_true rfl) lk64 (fun _ h9 => h9) rfl dX2_readCorner_1 ?_
  refine lv_istore_n (lv' := [(2, .int m_cornerCount), (0, .ref (q 0)), (1, .ref (qm 0))]) hx hb dX2_readCorner_4 rfl hl (by decide) rfl (fun ls hl => ?_)
  refine lv_iload_n hx hb dX2_readCorner_5 rfl (lv_at hl 0 rfl) ?_
  refine lv_bipush (v := 7) hx hb dX2_readCorner_6 (by decide) ?_
  refine lv_icmp_lt (tgt := 16) hx hb dX2_readCorner_8 (by decide) (fun c1 => ?_) (fun c1 => ?_)
  · have h := (if_pos c1).symm.trans h
    refine lv_aload_n hx hb dX2_readCorner_16 rfl (lv_at hl 2 rfl) ?_
    refine va_get (C := RX4) (T := TX4) (N := 15) (v := .ref (qm 7)) hx hb hts iw4 hown hK hP 2 rfl rfl 6 (Nat.le_of_ble_eq_true rfl) lk67 (fun _ h9 => h9) rfl dX2_readCorner_17 ?_
    refine lv_iload_n hx hb dX2_readCorner_20 rfl (lv_at hl 0 rfl) ?_
    refine lv_aload_n hx hb dX2_readCorner_21 rfl (lv_at hl 1 rfl) ?_
    refine lv_iconst (v := 0) hx hb dX2_readCorner_22 (by decide) ?_
    refine lv_iconst (v := 3) hx hb dX2_readCorner_23 (by decide) ?_
    obtain ⟨r2, hr2, h⟩ := xk_some h
    refine vx_VI (As := [.int (0 : Int32), .int (3 : Int32)]) (rest := [.int m_cornerCount, .ref (qm 7)]) (wr := [oX4 qm m_cornerCount m_streetCount m_guideCount m_bellCount m_hand m_handTold, rA (qm 7) cI 7 m_marks]) (wn := [oX2 q v_length r2.2.1 r2.2.2.1 r2.2.2.2.1 r2.2.2.2.2.1 r2.2.2.2.2.2, rA (q 1) cI 200 v_text, oX4 qm m_cornerCount m_streetCount m_guideCount m_bellCount m_hand m_handTold, rA (qm 7) cI 7 m_marks]) hFx (k_X2_readNumber l D cI cZ cT q H.size v_length v_place v_token v_tokenAt v_value v_fault v_text (0 : Int32) (3 : Int32) r2 fu hr2) (cwV 2 hts gX2_readCorner_X2_readNumber rfl rfl rfl (by decide +kernel) ⟨Nat.le_of_ble_eq_true rfl, Nat.le_of_ble_eq_true rfl⟩) hK hP hD hS hA [0, 1] [2, 3] [2, 3, 0, 1] rfl rfl rfl rfl (by decide) rfl rfl 2 0 rfl rfl rfl hl.1 rfl (Nat.le_of_ble_eq_true rfl) dX2_readCorner_24 ⟨Nat.zero_le _, Nat.zero_le _⟩ (fun H locs hP hD hS => ?_)
    obtain ⟨hi3, h⟩ := xb_some h
    refine va_iast hx hb hK hP hD hS 3 0 rfl rfl hi3 dX2_readCorner_27 (fun H locs hP hD hS => ?_)
    have hP : va_P D vwCl [oX2 q v_length r2.2.1 r2.2.2.1 r2.2.2.2.1 r2.2.2.2.2.1 r2.2.2.2.2.2, rA (q 1) cI 200 v_text, oX4 qm m_cornerCount m_streetCount m_guideCount m_bellCount m_hand m_handTold, rA (qm 7) cI 7 (upd m_marks m_cornerCount.toNatClampNeg r2.1)] H := hP
    have hD : va_D A [oX2 q v_length r2.2.1 r2.2.2.1 r2.2.2.2.1 r2.2.2.2.2.1 r2.2.2.2.2.2, rA (q 1) cI 200 v_text, oX4 qm m_cornerCount m_streetCount m_guideCount m_bellCount m_hand m_handTold, rA (qm 7) cI 7 (upd m_marks m_cornerCount.toNatClampNeg r2.1)] := hD
    refine lv_aload_n hx hb dX2_readCorner_28 rfl (lv_at hl 1 rfl) ?_
    obtain ⟨r4, hr4, h⟩ := xk_some h
    refine vx_VV (As := []) (rest := []) (wr := [oX4 qm m_cornerCount m_streetCount m_guideCount m_bellCount m_hand m_handTold, rA (qm 7) cI 7 (upd m_marks m_cornerCount.toNatClampNeg r2.1)]) (wn := [oX2 q v_length r4.1 r4.2.1 r4.2.2.1 r4.2.2.2.1 r4.2.2.2.2, rA (q 1) cI 200 v_text, oX4 qm m_cornerCount m_streetCount m_guideCount m_bellCount m_hand m_handTold, rA (qm 7) cI 7 (upd m_marks m_cornerCount.toNatClampNeg r2.1)]) hFx (k_X2_readStop l D cI cZ cT q H.size v_length r2.2.1 r2.2.2.1 r2.2.2.2.1 r2.2.2.2.2.1 r2.2.2.2.2.2 v_text r4 fu hr4) (cwV 0 hts gX2_readCorner_X2_readStop rfl rfl rfl (by decide +kernel) ⟨Nat.le_of_ble_eq_true rfl, Nat.le_of_ble_eq_true rfl⟩) hK hP hD hS hA [0, 1] [2, 3] [2, 3, 0, 1] rfl rfl rfl rfl (by decide) rfl rfl 2 0 rfl rfl rfl hl.1 rfl (Nat.le_of_ble_eq_true rfl) dX2_readCorner_29 ⟨Nat.zero_le _, Nat.zero_le _⟩ (fun H locs hP hD hS => ?_)
    refine lv_aload_n hx hb dX2_readCorner_32 rfl (lv_at hl 2 rfl) ?_
    refine lv_iload_n hx hb dX2_readCorner_33 rfl (lv_at hl 0 rfl) ?_
    refine lv_iconst (v := 1) hx hb dX2_readCorner_34 (by decide) ?_
    refine lv_iadd hx hb dX2_readCorner_35 ?_
    refine va_put (C := RX4) (T := TX4) (N := 15) (v := .int (m_cornerCount + (1 : Int32))) (ty := .int) hx hb hts iw4 tyX4 tyX4_ok nmX4 hown hK hP hD hS 2 rfl rfl 0 (Nat.le_of_ble_eq_true rfl) lk64 (fun _ h9 => h9) rfl (by decide +kernel) rfl rfl (Nat.le_of_ble_eq_true rfl) dX2_readCorner_36 (fun H locs hP hD hS => ?_)
    have hP : va_P D vwCl [oX2 q v_length r4.1 r4.2.1 r4.2.2.1 r4.2.2.2.1 r4.2.2.2.2, rA (q 1) cI 200 v_text, oX4 qm (m_cornerCount + (1 : Int32)) m_streetCount m_guideCount m_bellCount m_hand m_handTold, rA (qm 7) cI 7 (upd m_marks m_cornerCount.toNatClampNeg r2.1)] H := hP
    have hD : va_D A [oX2 q v_length r4.1 r4.2.1 r4.2.2.1 r4.2.2.2.1 r4.2.2.2.2, rA (q 1) cI 200 v_text, oX4 qm (m_cornerCount + (1 : Int32)) m_streetCount m_guideCount m_bellCount m_hand m_handTold, rA (qm 7) cI 7 (upd m_marks m_cornerCount.toNatClampNeg r2.1)] := hD
    exact hret ((r4.1, r4.2.1, r4.2.2.1, r4.2.2.2.1, r4.2.2.2.2, m_cornerCount + (1 : Int32), upd m_marks m_cornerCount.toNatClampNeg r2.1)) H locs _ ls (Option.some.inj h) hP hD hS dX2_readCorner_39
  · have h := (if_neg c1).symm.trans h
    refine lv_aload_n hx hb dX2_readCorner_11 rfl (lv_at hl 1 rfl) ?_
    obtain ⟨r5, hr5, h⟩ := xk_some h
    refine vx_VV (As := []) (rest := []) (wr := [rA (q 1) cI 200 v_text, oX4 qm m_cornerCount m_streetCount m_guideCount m_bellCount m_hand m_handTold, rA (qm 7) cI 7 m_marks]) (wn := [oX2 q v_length v_place v_token v_tokenAt v_value r5, rA (q 1) cI 200 v_text, oX4 qm m_cornerCount m_streetCount m_guideCount m_bellCount m_hand m_handTold, rA (qm 7) cI 7 m_marks]) hFx (k_X2_refuseToken l D cI cZ cT q H.size v_length v_place v_token v_tokenAt v_value v_fault r5 hr5) (cwV 0 hts gX2_readCorner_X2_refuseToken rfl rfl rfl (by decide +kernel) ⟨Nat.le_of_ble_eq_true rfl, Nat.le_of_ble_eq_true rfl⟩) hK hP hD hS hA [0] [1, 2, 3] [3, 0, 1, 2] rfl rfl rfl rfl (by decide) rfl rfl 2 0 rfl rfl rfl hl.1 rfl (Nat.le_of_ble_eq_true rfl) dX2_readCorner_12 ⟨Nat.zero_le _, Nat.zero_le _⟩ (fun H locs hP hD hS => ?_)
    exact hret (v_place, v_token, v_tokenAt, v_value, r5, m_cornerCount, m_marks) H locs _ ls (Option.some.inj h) hP hD hS dX2_readCorner_15
abbrev rm_X2_readStreet : Room := { frames := 3, cells := 0, slots := 0, locals := 64 }
set_option maxHeartbeats 4000000 in
set_option maxRecDepth 100000 in
theorem k_X2_readStreet (l : Launch) (D : va_G) (cI cZ cT : ClassId) (q : Nat → Nat) (qm : Nat → Nat) (sz : Nat) (v_length : Int32) (v_place : Int32) (v_token : Int32) (v_tokenAt : Int32) (v_value : Int32) (v_fault : Int32) (m_cornerCount : Int32) (m_streetCount : Int32) (m_guideCount : Int32) (m_bellCount : Int32) (m_hand : Int32) (m_handTold : Int32) (v_text : Nat → Int32) (m_ends : Nat → Int32) (m_farEnds : Nat → Int32) (m_lengths : Nat → Int32) (res : R_X2_readStreet) (fu : Nat) (hf : f_X2_readStreet fu v_text v_length v_place v_token v_tokenAt v_value v_fault m_cornerCount m_streetCount m_ends m_farEnds m_lengths = some res) : Met l yX2_readStreet wsX2_readStreet rm_X2_readStreet (cPre D (tyz cI cZ cT) [.ref (q 0), .ref (qm 0)] sz [oX2 q v_length v_place v_token v_tokenAt v_value v_fault, rA (q 1) cI 200 v_text, oX4 qm m_cornerCount m_streetCount m_guideCount m_bellCount m_hand m_handTold, rA (qm 8) cI 9 m_ends, rA (qm 9) cI 9 m_farEnds, rA (qm 10) cI 9 m_lengths]) (cPv D (tyz cI cZ cT) (fun (u : Int32 × Int32 × Int32 × Int32 × Int32 × Int32 × (Nat → Int32) × (Nat → Int32) × (Nat → Int32)) => u = res) (fun u => [oX2 q v_length u.1 u.2.1 u.2.2.1 u.2.2.2.1 u.2.2.2.2.1, rA (q 1) cI 200 v_text, oX4 qm m_cornerCount u.2.2.2.2.2.1 m_guideCount m_bellCount m_hand m_handTold, rA (qm 8) cI 9 u.2.2.2.2.2.2.1, rA (qm 9) cI 9 u.2.2.2.2.2.2.2.1, rA (qm 10) cI 9 u.2.2.2.2.2.2.2.2]) [oX2 q v_length v_place v_token v_tokenAt v_value v_fault, rA (q 1) cI 200 v_text, oX4 qm m_cornerCount m_streetCount m_guideCount m_bellCount m_hand m_handTold, rA (qm 8) cI 9 m_ends, rA (qm 9) cI 9 m_farEnds, rA (qm 10) cI 9 m_lengths] sz) 0 0 (va_A [oX2 q v_length v_place v_token v_tokenAt v_value v_fault, rA (q 1) cI 200 v_text, oX4 qm m_cornerCount m_streetCount m_guideCount m_bellCount m_hand m_handTold, rA (qm 8) cI 9 m_ends, rA (qm 9) cI 9 m_farEnds, rA (qm 10) cI 9 m_lengths] sz) := by
  refine vx_meth_v (by decide) rfl (Nat.le_of_ble_eq_true rfl) ?_
  intro p e s m args below meth c A Q hx hb hml hown hts hK hP hD hA hS hret ls hl
  have hown : s.vm.findClass RX2 = some m.cls := hown
  have hl : lv_has ls 3 [(0, .ref (q 0)), (1, .ref (qm 0))] := hl
  have hFx : CallFix p m c cX2_readStreet 3 s args wsX2_readStreet RX2 := ⟨hx, hb, hml, hown, hts⟩
  have lk86 := hts (.fieldLink RX2 86 "FogGuides$TownMap" "lengths" "[I") (by decide +kernel)
  have iw4 : ∀ w ∈ u_ws RX4 TX4 15, w ∈ wsX2_readStreet := by decide +kernel
  have lk77 := hts (.fieldLink RX2 77 "FogGuides$TownMap" "streetCount" "I") (by decide +kernel)
  have lk80 := hts (.fieldLink RX2 80 "FogGuides$TownMap" "ends" "[I") (by decide +kernel)
  have lk64 := hts (.fieldLink RX2 64 "FogGuides$TownMap" "cornerCount" "I") (by decide +kernel)
  have lk83 := hts (.fieldLink RX2 83 "FogGuides$TownMap" "farEnds" "[I") (by decide +kernel)
  have hJ69 : ∀ (v_place : Int32) (v_token : Int32) (v_tokenAt : Int32) (v_value : Int32) (v_fault : Int32) (m_streetCount : Int32) (m_ends : (Nat → Int32)) (m_farEnds : (Nat → Int32)) (m_lengths : (Nat → Int32)) (x2 : Int32) (H : Heap) (locs : List Loc) (ls : Array Slot), f_X2_readStreet_J69 fu v_text v_length v_place v_token v_tokenAt v_value v_fault m_cornerCount m_streetCount m_ends m_farEnds m_lengths x2 = some res → va_P D vwCl [oX2 q v_length v_place v_token v_tokenAt v_value v_fault, rA (q 1) cI 200 v_text, oX4 qm m_cornerCount m_streetCount m_guideCount m_bellCount m_hand m_handTold, rA (qm 8) cI 9 m_ends, rA (qm 9) cI 9 m_farEnds, rA (qm 10) cI 9 m_lengths] H → va_D A [oX2 q v_length v_place v_token v_tokenAt v_value v_fault, rA (q 1) cI 200 v_text, oX4 qm m_cornerCount m_streetCount m_guideCount m_bellCount m_hand m_handTold, rA (qm 8) cI 9 m_ends, rA (qm 9) cI 9 m_farEnds, rA (qm 10) cI 9 m_lengths] → va_S A s.heap H locs → lv_has ls 3 [(0, .ref (q 0)), (1, .ref (qm 0)), (2, .int x2)] → W p l e rm_X2_readStreet s m args below meth c H locs 0 0 Q (F0 m 69 ls []) := by
    intro v_place v_token v_tokenAt v_value v_fault m_streetCount m_ends m_farEnds m_lengths x2 H locs ls h hP hD hS hl
    unfold f_X2_readStreet_J69 at h
    refine lv_aload_n hx hb dX2_readStreet_69 rfl (lv_at hl 1 rfl) ?_
    refine va_get (C := RX4) (T := TX4) (N := 15) (v := .ref (qm 10)) hx hb hts iw4 hown hK hP 2 rfl rfl 9 (Nat.le_of_ble_eq_true rfl) lk86 (fun _ h9 => h9) rfl dX2_readStreet_70 ?_
    refine lv_iload_n hx hb dX2_readStreet_73 rfl (lv_at hl 2 rfl) ?_
    refine lv_aload_n hx hb dX2_readStreet_74 rfl (lv_at hl 0 rfl) ?_
    refine lv_iconst (v := 1) hx hb dX2_readStreet_75 (by decide) ?_
    refine lv_bipush (v := 9) hx hb dX2_readStreet_76 (by decide) ?_
    obtain ⟨r1, hr1, h⟩ := xk_some h
    refine vx_VI (As := [.int (1 : Int32), .int (9 : Int32)]) (rest := [.int x2, .ref (qm 10)]) (wr := [oX4 qm m_cornerCount m_streetCount m_guideCount m_bellCount m_hand m_handTold, rA (qm 8) cI 9 m_ends, rA (qm 9) cI 9 m_farEnds, rA (qm 10) cI 9 m_lengths]) (wn := [oX2 q v_length r1.2.1 r1.2.2.1 r1.2.2.2.1 r1.2.2.2.2.1 r1.2.2.2.2.2, rA (q 1) cI 200 v_text, oX4 qm m_cornerCount m_streetCount m_guideCount m_bellCount m_hand m_handTold, rA (qm 8) cI 9 m_ends, rA (qm 9) cI 9 m_farEnds, rA (qm 10) cI 9 m_lengths]) hFx (k_X2_readNumber l D cI cZ cT q H.size v_length v_place v_token v_tokenAt v_value v_fault v_text (1 : Int32) (9 : Int32) r1 fu hr1) (cwV 2 hts gX2_readStreet_X2_readNumber rfl rfl rfl (by decide +kernel) ⟨Nat.le_of_ble_eq_true rfl, Nat.le_of_ble_eq_true rfl⟩) hK hP hD hS hA [0, 1] [2, 3, 4, 5] [4, 5, 0, 1, 2, 3] rfl rfl rfl rfl (by decide) rfl rfl 2 0 rfl rfl rfl hl.1 rfl (Nat.le_of_ble_eq_true rfl) dX2_readStreet_78 ⟨Nat.zero_le _, Nat.zero_le _⟩ (fun H locs hP hD hS => ?_)
    obtain ⟨hi2, h⟩ := xb_some h
    refine va_iast hx hb hK hP hD hS 5 0 rfl rfl hi2 dX2_readStreet_81 (fun H locs hP hD hS => ?_)
    have hP : va_P D vwCl [oX2 q v_length r1.2.1 r1.2.2.1 r1.2.2.2.1 r1.2.2.2.2.1 r1.2.2.2.2.2, rA (q 1) cI 200 v_text, oX4 qm m_cornerCount m_streetCount m_guideCount m_bellCount m_hand m_handTold, rA (qm 8) cI 9 m_ends, rA (qm 9) cI 9 m_farEnds, rA (qm 10) cI 9 (upd m_lengths x2.toNatClampNeg r1.1)] H := hP
    have hD : va_D A [oX2 q v_length r1.2.1 r1.2.2.1 r1.2.2.2.1 r1.2.2.2.2.1 r1.2.2.2.2.2, rA (q 1) cI 200 v_text, oX4 qm m_cornerCount m_streetCount m_guideCount m_bellCount m_hand m_handTold, rA (qm 8) cI 9 m_ends, rA (qm 9) cI 9 m_farEnds, rA (qm 10) cI 9 (upd m_lengths x2.toNatClampNeg r1.1)] := hD
    refine lv_aload_n hx hb dX2_readStreet_82 rfl (lv_at hl 0 rfl) ?_
    obtain ⟨r3, hr3, h⟩ := xk_some h
    refine vx_VV (As := []) (rest := []) (wr := [oX4 qm m_cornerCount m_streetCount m_guideCount m_bellCount m_hand m_handTold, rA (qm 8) cI 9 m_ends, rA (qm 9) cI 9 m_farEnds, rA (qm 10) cI 9 (upd m_lengths x2.toNatClampNeg r1.1)]) (wn := [oX2 q v_length r3.1 r3.2.1 r3.2.2.1 r3.2.2.2.1 r3.2.2.2.2, rA (q 1) cI 200 v_text, oX4 qm m_cornerCount m_streetCount m_guideCount m_bellCount m_hand m_handTold, rA (qm 8) cI 9 m_ends, rA (qm 9) cI 9 m_farEnds, rA (qm 10) cI 9 (upd m_lengths x2.toNatClampNeg r1.1)]) hFx (k_X2_readStop l D cI cZ cT q H.size v_length r1.2.1 r1.2.2.1 r1.2.2.2.1 r1.2.2.2.2.1 r1.2.2.2.2.2 v_text r3 fu hr3) (cwV 0 hts gX2_readStreet_X2_readStop rfl rfl rfl (by decide +kernel) ⟨Nat.le_of_ble_eq_true rfl, Nat.le_of_ble_eq_true rfl⟩) hK hP hD hS hA [0, 1] [2, 3, 4, 5] [4, 5, 0, 1, 2, 3] rfl rfl rfl rfl (by decide) rfl rfl 2 0 rfl rfl rfl hl.1 rfl (Nat.le_of_ble_eq_true rfl) dX2_readStreet_83 ⟨Nat.zero_le _, Nat.zero_le _⟩ (fun H locs hP hD hS => ?_)
    refine lv_aload_n hx hb dX2_readStreet_86 rfl (lv_at hl 1 rfl) ?_
    refine lv_iload_n hx hb dX2_readStreet_87 rfl (lv_at hl 2 rfl) ?_
    refine lv_iconst (v := 1) hx hb dX2_readStreet_88 (by decide) ?_
    refine lv_iadd hx hb dX2_readStreet_89 ?_
    refine va_put (C := RX4) (T := TX4) (N := 15) (v := .int (x2 + (1 : Int32))) (ty := .int) hx hb hts iw4 tyX4 tyX4_ok nmX4 hown hK hP hD hS 2 rfl rfl 1 (Nat.le_of_ble_eq_true rfl) lk77 (fun _ h9 => h9) rfl (by decide +kernel) rfl rfl (Nat.le_of_ble_eq_true rfl) dX2_readStreet_90 (fun H locs hP hD hS => ?_)
    have hP : va_P D vwCl [oX2 q v_length r3.1 r3.2.1 r3.2.2.1 r3.2.2.2.1 r3.2.2.2.2, rA (q 1) cI 200 v_text, oX4 qm m_cornerCount (x2 + (1 : Int32)) m_guideCount m_bellCount m_hand m_handTold, rA (qm 8) cI 9 m_ends, rA (qm 9) cI 9 m_farEnds, rA (qm 10) cI 9 (upd m_lengths x2.toNatClampNeg r1.1)] H := hP
    have hD : va_D A [oX2 q v_length r3.1 r3.2.1 r3.2.2.1 r3.2.2.2.1 r3.2.2.2.2, rA (q 1) cI 200 v_text, oX4 qm m_cornerCount (x2 + (1 : Int32)) m_guideCount m_bellCount m_hand m_handTold, rA (qm 8) cI 9 m_ends, rA (qm 9) cI 9 m_farEnds, rA (qm 10) cI 9 (upd m_lengths x2.toNatClampNeg r1.1)] := hD
    exact hret ((r3.1, r3.2.1, r3.2.2.1, r3.2.2.2.1, r3.2.2.2.2, x2 + (1 : Int32), m_ends, m_farEnds, upd m_lengths x2.toNatClampNeg r1.1)) H locs _ ls (Option.some.inj h) hP hD hS dX2_readStreet_93
  have h := hf
  unfold f_X2_readStreet at h
  obtain ⟨H, eH⟩ : ∃ H, H = s.heap := ⟨_, rfl⟩
  rw [← eH] at hP ⊢
  obtain ⟨locs, el⟩ : ∃ locs : List Loc, locs = [] := ⟨_, rfl⟩
  rw [← el] at hS ⊢
  have hS : va_S A s.heap H locs := by rw [eH]; exact hS
  refine lv_aload_n hx hb dX2_readStreet_0 rfl (lv_at hl 1 rfl) ?_
  refine va_get (C := RX4) (T := TX4) (N := 15) (v := .int m_streetCount) hx hb hts iw4 hown hK hP 2 rfl rfl 1 (Nat.le_of_ble_eq_true rfl) lk77 (fun _ h9 => h9) rfl dX2_readStreet_1 ?_
  refine lv_istore_n (lv' := [(2, .int m_streetCount), (0, .ref (q 0)), (1, .ref (qm 0))]) hx hb dX2_readStreet_4 rfl hl (by decide) rfl (fun ls hl => ?_)
  refine lv_iload_n hx hb dX2_readStreet_5 rfl (lv_at hl 0 rfl) ?_
  refine lv_bipush (v := 9) hx hb dX2_readStreet_6 (by decide) ?_
  refine lv_icmp_lt (tgt := 16) hx hb dX2_readStreet_8 (by decide) (fun c4 => ?_) (fun c4 => ?_)
  · have h := (if_pos c4).symm.trans h
    refine lv_aload_n hx hb dX2_readStreet_16 rfl (lv_at hl 2 rfl) ?_
    refine va_get (C := RX4) (T := TX4) (N := 15) (v := .ref (qm 8)) hx hb hts iw4 hown hK hP 2 rfl rfl 7 (Nat.le_of_ble_eq_true rfl) lk80 (fun _ h9 => h9) rfl dX2_readStreet_17 ?_
    refine lv_iload_n hx hb dX2_readStreet_20 rfl (lv_at hl 0 rfl) ?_
    refine lv_aload_n hx hb dX2_readStreet_21 rfl (lv_at hl 1 rfl) ?_
    refine lv_iconst (v := 0) hx hb dX2_readStreet_22 (by decide) ?_
    refine lv_aload_n hx hb dX2_readStreet_23 rfl (lv_at hl 2 rfl) ?_
    refine va_get (C := RX4) (T := TX4) (N := 15) (v := .int m_cornerCount) hx hb hts iw4 hown hK hP 2 rfl rfl 0 (Nat.le_of_ble_eq_true rfl) lk64 (fun _ h9 => h9) rfl dX2_readStreet_24 ?_
    refine lv_iconst (v := 1) hx hb dX2_readStreet_27 (by decide) ?_
    refine lv_isub hx hb dX2_readStreet_28 ?_
    obtain ⟨r5, hr5, h⟩ := xk_some h
    refine vx_VI (As := [.int (0 : Int32), .int (m_cornerCount - (1 : Int32))]) (rest := [.int m_streetCount, .ref (qm 8)]) (wr := [oX4 qm m_cornerCount m_streetCount m_guideCount m_bellCount m_hand m_handTold, rA (qm 8) cI 9 m_ends, rA (qm 9) cI 9 m_farEnds, rA (qm 10) cI 9 m_lengths]) (wn := [oX2 q v_length r5.2.1 r5.2.2.1 r5.2.2.2.1 r5.2.2.2.2.1 r5.2.2.2.2.2, rA (q 1) cI 200 v_text, oX4 qm m_cornerCount m_streetCount m_guideCount m_bellCount m_hand m_handTold, rA (qm 8) cI 9 m_ends, rA (qm 9) cI 9 m_farEnds, rA (qm 10) cI 9 m_lengths]) hFx (k_X2_readNumber l D cI cZ cT q H.size v_length v_place v_token v_tokenAt v_value v_fault v_text (0 : Int32) (m_cornerCount - (1 : Int32)) r5 fu hr5) (cwV 2 hts gX2_readStreet_X2_readNumber rfl rfl rfl (by decide +kernel) ⟨Nat.le_of_ble_eq_true rfl, Nat.le_of_ble_eq_true rfl⟩) hK hP hD hS hA [0, 1] [2, 3, 4, 5] [4, 5, 0, 1, 2, 3] rfl rfl rfl rfl (by decide) rfl rfl 2 0 rfl rfl rfl hl.1 rfl (Nat.le_of_ble_eq_true rfl) dX2_readStreet_29 ⟨Nat.zero_le _, Nat.zero_le _⟩ (fun H locs hP hD hS => ?_)
    obtain ⟨hi6, h⟩ := xb_some h
    refine va_iast hx hb hK hP hD hS 3 0 rfl rfl hi6 dX2_readStreet_32 (fun H locs hP hD hS => ?_)
    have hP : va_P D vwCl [oX2 q v_length r5.2.1 r5.2.2.1 r5.2.2.2.1 r5.2.2.2.2.1 r5.2.2.2.2.2, rA (q 1) cI 200 v_text, oX4 qm m_cornerCount m_streetCount m_guideCount m_bellCount m_hand m_handTold, rA (qm 8) cI 9 (upd m_ends m_streetCount.toNatClampNeg r5.1), rA (qm 9) cI 9 m_farEnds, rA (qm 10) cI 9 m_lengths] H := hP
    have hD : va_D A [oX2 q v_length r5.2.1 r5.2.2.1 r5.2.2.2.1 r5.2.2.2.2.1 r5.2.2.2.2.2, rA (q 1) cI 200 v_text, oX4 qm m_cornerCount m_streetCount m_guideCount m_bellCount m_hand m_handTold, rA (qm 8) cI 9 (upd m_ends m_streetCount.toNatClampNeg r5.1), rA (qm 9) cI 9 m_farEnds, rA (qm 10) cI 9 m_lengths] := hD
    refine lv_aload_n hx hb dX2_readStreet_33 rfl (lv_at hl 2 rfl) ?_
    refine va_get (C := RX4) (T := TX4) (N := 15) (v := .ref (qm 9)) hx hb hts iw4 hown hK hP 2 rfl rfl 8 (Nat.le_of_ble_eq_true rfl) lk83 (fun _ h9 => h9) rfl dX2_readStreet_34 ?_
    refine lv_iload_n hx hb dX2_readStreet_37 rfl (lv_at hl 0 rfl) ?_
    refine lv_aload_n hx hb dX2_readStreet_38 rfl (lv_at hl 1 rfl) ?_
    refine lv_iconst (v := 0) hx hb dX2_readStreet_39 (by decide) ?_
    refine lv_aload_n hx hb dX2_readStreet_40 rfl (lv_at hl 2 rfl) ?_
    refine va_get (C := RX4) (T := TX4) (N := 15) (v := .int m_cornerCount) hx hb hts iw4 hown hK hP 2 rfl rfl 0 (Nat.le_of_ble_eq_true rfl) lk64 (fun _ h9 => h9) rfl dX2_readStreet_41 ?_
    refine lv_iconst (v := 1) hx hb dX2_readStreet_44 (by decide) ?_
    refine lv_isub hx hb dX2_readStreet_45 ?_
    obtain ⟨r7, hr7, h⟩ := xk_some h
    refine vx_VI (As := [.int (0 : Int32), .int (m_cornerCount - (1 : Int32))]) (rest := [.int m_streetCount, .ref (qm 9)]) (wr := [oX4 qm m_cornerCount m_streetCount m_guideCount m_bellCount m_hand m_handTold, rA (qm 8) cI 9 (upd m_ends m_streetCount.toNatClampNeg r5.1), rA (qm 9) cI 9 m_farEnds, rA (qm 10) cI 9 m_lengths]) (wn := [oX2 q v_length r7.2.1 r7.2.2.1 r7.2.2.2.1 r7.2.2.2.2.1 r7.2.2.2.2.2, rA (q 1) cI 200 v_text, oX4 qm m_cornerCount m_streetCount m_guideCount m_bellCount m_hand m_handTold, rA (qm 8) cI 9 (upd m_ends m_streetCount.toNatClampNeg r5.1), rA (qm 9) cI 9 m_farEnds, rA (qm 10) cI 9 m_lengths]) hFx (k_X2_readNumber l D cI cZ cT q H.size v_length r5.2.1 r5.2.2.1 r5.2.2.2.1 r5.2.2.2.2.1 r5.2.2.2.2.2 v_text (0 : Int32) (m_cornerCount - (1 : Int32)) r7 fu hr7) (cwV 2 hts gX2_readStreet_X2_readNumber rfl rfl rfl (by decide +kernel) ⟨Nat.le_of_ble_eq_true rfl, Nat.le_of_ble_eq_true rfl⟩) hK hP hD hS hA [0, 1] [2, 3, 4, 5] [4, 5, 0, 1, 2, 3] rfl rfl rfl rfl (by decide) rfl rfl 2 0 rfl rfl rfl hl.1 rfl (Nat.le_of_ble_eq_true rfl) dX2_readStreet_46 ⟨Nat.zero_le _, Nat.zero_le _⟩ (fun H locs hP hD hS => ?_)
    obtain ⟨hi8, h⟩ := xb_some h
    refine va_iast hx hb hK hP hD hS 4 0 rfl rfl hi8 dX2_readStreet_49 (fun H locs hP hD hS => ?_)
    have hP : va_P D vwCl [oX2 q v_length r7.2.1 r7.2.2.1 r7.2.2.2.1 r7.2.2.2.2.1 r7.2.2.2.2.2, rA (q 1) cI 200 v_text, oX4 qm m_cornerCount m_streetCount m_guideCount m_bellCount m_hand m_handTold, rA (qm 8) cI 9 (upd m_ends m_streetCount.toNatClampNeg r5.1), rA (qm 9) cI 9 (upd m_farEnds m_streetCount.toNatClampNeg r7.1), rA (qm 10) cI 9 m_lengths] H := hP
    have hD : va_D A [oX2 q v_length r7.2.1 r7.2.2.1 r7.2.2.2.1 r7.2.2.2.2.1 r7.2.2.2.2.2, rA (q 1) cI 200 v_text, oX4 qm m_cornerCount m_streetCount m_guideCount m_bellCount m_hand m_handTold, rA (qm 8) cI 9 (upd m_ends m_streetCount.toNatClampNeg r5.1), rA (qm 9) cI 9 (upd m_farEnds m_streetCount.toNatClampNeg r7.1), rA (qm 10) cI 9 m_lengths] := hD
    refine lv_aload_n hx hb dX2_readStreet_50 rfl (lv_at hl 2 rfl) ?_
    refine va_get (C := RX4) (T := TX4) (N := 15) (v := .ref (qm 9)) hx hb hts iw4 hown hK hP 2 rfl rfl 8 (Nat.le_of_ble_eq_true rfl) lk83 (fun _ h9 => h9) rfl dX2_readStreet_51 ?_
    refine lv_iload_n hx hb dX2_readStreet_54 rfl (lv_at hl 0 rfl) ?_
    obtain ⟨hi9, h⟩ := xb_some h
    refine va_iald hx hb hK hP 4 0 rfl rfl hi9 dX2_readStreet_55 ?_
    refine lv_aload_n hx hb dX2_readStreet_56 rfl (lv_at hl 2 rfl) ?_
    refine va_get (C := RX4) (T := TX4) (N := 15) (v := .ref (qm 8)) hx hb hts iw4 hown hK hP 2 rfl rfl 7 (Nat.le_of_ble_eq_true rfl) lk80 (fun _ h9 => h9) rfl dX2_readStreet_57 ?_
    refine lv_iload_n hx hb dX2_readStreet_60 rfl (lv_at hl 0 rfl) ?_
    obtain ⟨hi10, h⟩ := xb_some h
    refine va_iald hx hb hK hP 3 0 rfl rfl hi10 dX2_readStreet_61 ?_
    refine lv_icmp_ne (tgt := 69) hx hb dX2_readStreet_62 (by decide) (fun c11 => ?_) (fun c11 => ?_)
    · have h := (if_neg c11).symm.trans h
      exact hJ69 r7.2.1 r7.2.2.1 r7.2.2.2.1 r7.2.2.2.2.1 r7.2.2.2.2.2 m_streetCount (upd m_ends m_streetCount.toNatClampNeg r5.1) (upd m_farEnds m_streetCount.toNatClampNeg r7.1) m_lengths m_streetCount H locs ls h hP hD hS (lv_sub hl [1, 2, 0] rfl)
    · have h := (if_pos c11).symm.trans h
      refine lv_aload_n hx hb dX2_readStreet_65 rfl (lv_at hl 1 rfl) ?_
      obtain ⟨r12, hr12, h⟩ := xk_some h
      refine vx_VV (As := []) (rest := []) (wr := [rA (q 1) cI 200 v_text, oX4 qm m_cornerCount m_streetCount m_guideCount m_bellCount m_hand m_handTold, rA (qm 8) cI 9 (upd m_ends m_streetCount.toNatClampNeg r5.1), rA (qm 9) cI 9 (upd m_farEnds m_streetCount.toNatClampNeg r7.1), rA (qm 10) cI 9 m_lengths]) (wn := [oX2 q v_length r7.2.1 r7.2.2.1 r7.2.2.2.1 r7.2.2.2.2.1 r12, rA (q 1) cI 200 v_text, oX4 qm m_cornerCount m_streetCount m_guideCount m_bellCount m_hand m_handTold, rA (qm 8) cI 9 (upd m_ends m_streetCount.toNatClampNeg r5.1), rA (qm 9) cI 9 (upd m_farEnds m_streetCount.toNatClampNeg r7.1), rA (qm 10) cI 9 m_lengths]) hFx (k_X2_refuseToken l D cI cZ cT q H.size v_length r7.2.1 r7.2.2.1 r7.2.2.2.1 r7.2.2.2.2.1 r7.2.2.2.2.2 r12 hr12) (cwV 0 hts gX2_readStreet_X2_refuseToken rfl rfl rfl (by decide +kernel) ⟨Nat.le_of_ble_eq_true rfl, Nat.le_of_ble_eq_true rfl⟩) hK hP hD hS hA [0] [1, 2, 3, 4, 5] [5, 0, 1, 2, 3, 4] rfl rfl rfl rfl (by decide) rfl rfl 2 0 rfl rfl rfl hl.1 rfl (Nat.le_of_ble_eq_true rfl) dX2_readStreet_66 ⟨Nat.zero_le _, Nat.zero_le _⟩ (fun H locs hP hD hS => ?_)
      exact hJ69 r7.2.1 r7.2.2.1 r7.2.2.2.1 r7.2.2.2.2.1 r12 m_streetCount (upd m_ends m_streetCount.toNatClampNeg r5.1) (upd m_farEnds m_streetCount.toNatClampNeg r7.1) m_lengths m_streetCount H locs ls h hP hD hS (lv_sub hl [1, 2, 0] rfl)
  · have h := (if_neg c4).symm.trans h
    refine lv_aload_n hx hb dX2_readStreet_11 rfl (lv_at hl 1 rfl) ?_
    obtain ⟨r13, hr13, h⟩ := xk_some h
    refine vx_VV (As := []) (rest := []) (wr := [rA (q 1) cI 200 v_text, oX4 qm m_cornerCount m_streetCount m_guideCount m_bellCount m_hand m_handTold, rA (qm 8) cI 9 m_ends, rA (qm 9) cI 9 m_farEnds, rA (qm 10) cI 9 m_lengths]) (wn := [oX2 q v_length v_place v_token v_tokenAt v_value r13, rA (q 1) cI 200 v_text, oX4 qm m_cornerCount m_streetCount m_guideCount m_bellCount m_hand m_handTold, rA (qm 8) cI 9 m_ends, rA (qm 9) cI 9 m_farEnds, rA (qm 10) cI 9 m_lengths]) hFx (k_X2_refuseToken l D cI cZ cT q H.size v_length v_place v_token v_tokenAt v_value v_fault r13 hr13) (cwV 0 hts gX2_readStreet_X2_refuseToken rfl rfl rfl (by decide +kernel) ⟨Nat.le_of_ble_eq_true rfl, Nat.le_of_ble_eq_true rfl⟩) hK hP hD hS hA [0] [1, 2, 3, 4, 5] [5, 0, 1, 2, 3, 4] rfl rfl rfl rfl (by decide) rfl rfl 2 0 rfl rfl rfl hl.1 rfl (Nat.le_of_ble_eq_true rfl) dX2_readStreet_12 ⟨Nat.zero_le _, Nat.zero_le _⟩ (fun H locs hP hD hS => ?_)
    exact hret (v_place, v_token, v_tokenAt, v_value, r13, m_streetCount, m_ends, m_farEnds, m_lengths) H locs _ ls (Option.some.inj h) hP hD hS dX2_readStreet_15
abbrev rm_X2_readGuide : Room := { frames := 3, cells := 0, slots := 0, locals := 64 }
set_option maxHeartbeats 4000000 in
set_option maxRecDepth 100000 in
theorem k_X2_readGuide (l : Launch) (D : va_G) (cI cZ cT : ClassId) (q : Nat → Nat) (qm : Nat → Nat) (sz : Nat) (v_length : Int32) (v_place : Int32) (v_token : Int32) (v_tokenAt : Int32) (v_value : Int32) (v_fault : Int32) (m_cornerCount : Int32) (m_streetCount : Int32) (m_guideCount : Int32) (m_bellCount : Int32) (m_hand : Int32) (m_handTold : Int32) (v_text : Nat → Int32) (m_paces : Nat → Int32) (m_fees : Nat → Int32) (m_knows : Nat → Int32) (m_his : Nat → Int32) (res : R_X2_readGuide) (fu : Nat) (hf : f_X2_readGuide fu v_text v_length v_place v_token v_tokenAt v_value v_fault m_guideCount m_paces m_fees m_knows m_his = some res) : Met l yX2_readGuide wsX2_readGuide rm_X2_readGuide (cPre D (tyz cI cZ cT) [.ref (q 0), .ref (qm 0)] sz [oX2 q v_length v_place v_token v_tokenAt v_value v_fault, rA (q 1) cI 200 v_text, oX4 qm m_cornerCount m_streetCount m_guideCount m_bellCount m_hand m_handTold, rA (qm 11) cI 4 m_paces, rA (qm 12) cI 4 m_fees, rA (qm 13) cI 4 m_knows, rA (qm 14) cI 4 m_his]) (cPv D (tyz cI cZ cT) (fun (u : Int32 × Int32 × Int32 × Int32 × Int32 × Int32 × (Nat → Int32) × (Nat → Int32) × (Nat → Int32) × (Nat → Int32)) => u = res) (fun u => [oX2 q v_length u.1 u.2.1 u.2.2.1 u.2.2.2.1 u.2.2.2.2.1, rA (q 1) cI 200 v_text, oX4 qm m_cornerCount m_streetCount u.2.2.2.2.2.1 m_bellCount m_hand m_handTold, rA (qm 11) cI 4 u.2.2.2.2.2.2.1, rA (qm 12) cI 4 u.2.2.2.2.2.2.2.1, rA (qm 13) cI 4 u.2.2.2.2.2.2.2.2.1, rA (qm 14) cI 4 u.2.2.2.2.2.2.2.2.2]) [oX2 q v_length v_place v_token v_tokenAt v_value v_fault, rA (q 1) cI 200 v_text, oX4 qm m_cornerCount m_streetCount m_guideCount m_bellCount m_hand m_handTold, rA (qm 11) cI 4 m_paces, rA (qm 12) cI 4 m_fees, rA (qm 13) cI 4 m_knows, rA (qm 14) cI 4 m_his] sz) 0 0 (va_A [oX2 q v_length v_place v_token v_tokenAt v_value v_fault, rA (q 1) cI 200 v_text, oX4 qm m_cornerCount m_streetCount m_guideCount m_bellCount m_hand m_handTold, rA (qm 11) cI 4 m_paces, rA (qm 12) cI 4 m_fees, rA (qm 13) cI 4 m_knows, rA (qm 14) cI 4 m_his] sz) := by
  refine vx_meth_v (by decide) rfl (Nat.le_of_ble_eq_true rfl) ?_
  intro p e s m args below meth c A Q hx hb hml hown hts hK hP hD hA hS hret ls hl
  have hown : s.vm.findClass RX2 = some m.cls := hown
  have hl : lv_has ls 3 [(0, .ref (q 0)), (1, .ref (qm 0))] := hl
  have hFx : CallFix p m c cX2_readGuide 3 s args wsX2_readGuide RX2 := ⟨hx, hb, hml, hown, hts⟩
  have lk89 := hts (.fieldLink RX2 89 "FogGuides$TownMap" "guideCount" "I") (by decide +kernel)
  have iw4 : ∀ w ∈ u_ws RX4 TX4 15, w ∈ wsX2_readGuide := by decide +kernel
  have lk92 := hts (.fieldLink RX2 92 "FogGuides$TownMap" "paces" "[I") (by decide +kernel)
  have lk95 := hts (.fieldLink RX2 95 "FogGuides$TownMap" "fees" "[I") (by decide +kernel)
  have lk98 := hts (.fieldLink RX2 98 "FogGuides$TownMap" "knows" "[I") (by decide +kernel)
  have lk101 := hts (.fieldLink RX2 101 "FogGuides$TownMap" "his" "[I") (by decide +kernel)
  have h := hf
  unfold f_X2_readGuide at h
  obtain ⟨H, eH⟩ : ∃ H, H = s.heap := ⟨_, rfl⟩
  rw [← eH] at hP ⊢
  obtain ⟨locs, el⟩ : ∃ locs : List Loc, locs = [] := ⟨_, rfl⟩
  rw [← el] at hS ⊢
  have hS : va_S A s.heap H locs := by rw [eH]; exact hS
  refine lv_aload_n hx hb dX2_readGuide_0 rfl (lv_at hl 1 rfl) ?_
  refine va_get (C := RX4) (T := TX4) (N := 15) (v := .int m_guideCount) hx hb hts iw4 hown hK hP 2 rfl rfl 2 (Nat.le_of_ble_eq_true rfl) lk89 (fun _ h9 => h9) rfl dX2_readGuide_1 ?_
  refine lv_istore_n (lv' := [(2, .int m_guideCount), (0, .ref (q 0)), (1, .ref (qm 0))]) hx hb dX2_readGuide_4 rfl hl (by decide) rfl (fun ls hl => ?_)
  refine lv_iload_n hx hb dX2_readGuide_5 rfl (lv_at hl 0 rfl) ?_
  refine lv_iconst (v := 4) hx hb dX2_readGuide_6 (by decide) ?_
  refine lv_icmp_lt (tgt := 15) hx hb dX2_readGuide_7 (by decide) (fun c1 => ?_) (fun c1 => ?_)
  · have h := (if_pos c1).symm.trans h
    refine lv_aload_n hx hb dX2_readGuide_15 rfl (lv_at hl 2 rfl) ?_
    refine va_get (C := RX4) (T := TX4) (N := 15) (v := .ref (qm 11)) hx hb hts iw4 hown hK hP 2 rfl rfl 10 (Nat.le_of_ble_eq_true rfl) lk92 (fun _ h9 => h9) rfl dX2_readGuide_16 ?_
    refine lv_iload_n hx hb dX2_readGuide_19 rfl (lv_at hl 0 rfl) ?_
    refine lv_aload_n hx hb dX2_readGuide_20 rfl (lv_at hl 1 rfl) ?_
    refine lv_iconst (v := 0) hx hb dX2_readGuide_21 (by decide) ?_
    refine lv_iconst (v := 5) hx hb dX2_readGuide_22 (by decide) ?_
    obtain ⟨r2, hr2, h⟩ := xk_some h
    refine vx_VI (As := [.int (0 : Int32), .int (5 : Int32)]) (rest := [.int m_guideCount, .ref (qm 11)]) (wr := [oX4 qm m_cornerCount m_streetCount m_guideCount m_bellCount m_hand m_handTold, rA (qm 11) cI 4 m_paces, rA (qm 12) cI 4 m_fees, rA (qm 13) cI 4 m_knows, rA (qm 14) cI 4 m_his]) (wn := [oX2 q v_length r2.2.1 r2.2.2.1 r2.2.2.2.1 r2.2.2.2.2.1 r2.2.2.2.2.2, rA (q 1) cI 200 v_text, oX4 qm m_cornerCount m_streetCount m_guideCount m_bellCount m_hand m_handTold, rA (qm 11) cI 4 m_paces, rA (qm 12) cI 4 m_fees, rA (qm 13) cI 4 m_knows, rA (qm 14) cI 4 m_his]) hFx (k_X2_readNumber l D cI cZ cT q H.size v_length v_place v_token v_tokenAt v_value v_fault v_text (0 : Int32) (5 : Int32) r2 fu hr2) (cwV 2 hts gX2_readGuide_X2_readNumber rfl rfl rfl (by decide +kernel) ⟨Nat.le_of_ble_eq_true rfl, Nat.le_of_ble_eq_true rfl⟩) hK hP hD hS hA [0, 1] [2, 3, 4, 5, 6] [5, 6, 0, 1, 2, 3, 4] rfl rfl rfl rfl (by decide) rfl rfl 2 0 rfl rfl rfl hl.1 rfl (Nat.le_of_ble_eq_true rfl) dX2_readGuide_23 ⟨Nat.zero_le _, Nat.zero_le _⟩ (fun H locs hP hD hS => ?_)
    obtain ⟨hi3, h⟩ := xb_some h
    refine va_iast hx hb hK hP hD hS 3 0 rfl rfl hi3 dX2_readGuide_26 (fun H locs hP hD hS => ?_)
    have hP : va_P D vwCl [oX2 q v_length r2.2.1 r2.2.2.1 r2.2.2.2.1 r2.2.2.2.2.1 r2.2.2.2.2.2, rA (q 1) cI 200 v_text, oX4 qm m_cornerCount m_streetCount m_guideCount m_bellCount m_hand m_handTold, rA (qm 11) cI 4 (upd m_paces m_guideCount.toNatClampNeg r2.1), rA (qm 12) cI 4 m_fees, rA (qm 13) cI 4 m_knows, rA (qm 14) cI 4 m_his] H := hP
    have hD : va_D A [oX2 q v_length r2.2.1 r2.2.2.1 r2.2.2.2.1 r2.2.2.2.2.1 r2.2.2.2.2.2, rA (q 1) cI 200 v_text, oX4 qm m_cornerCount m_streetCount m_guideCount m_bellCount m_hand m_handTold, rA (qm 11) cI 4 (upd m_paces m_guideCount.toNatClampNeg r2.1), rA (qm 12) cI 4 m_fees, rA (qm 13) cI 4 m_knows, rA (qm 14) cI 4 m_his] := hD
    refine lv_aload_n hx hb dX2_readGuide_27 rfl (lv_at hl 2 rfl) ?_
    refine va_get (C := RX4) (T := TX4) (N := 15) (v := .ref (qm 12)) hx hb hts iw4 hown hK hP 2 rfl rfl 11 (Nat.le_of_ble_eq_true rfl) lk95 (fun _ h9 => h9) rfl dX2_readGuide_28 ?_
    refine lv_iload_n hx hb dX2_readGuide_31 rfl (lv_at hl 0 rfl) ?_
    refine lv_aload_n hx hb dX2_readGuide_32 rfl (lv_at hl 1 rfl) ?_
    refine lv_iconst (v := 0) hx hb dX2_readGuide_33 (by decide) ?_
    refine lv_bipush (v := 9) hx hb dX2_readGuide_34 (by decide) ?_
    obtain ⟨r4, hr4, h⟩ := xk_some h
    refine vx_VI (As := [.int (0 : Int32), .int (9 : Int32)]) (rest := [.int m_guideCount, .ref (qm 12)]) (wr := [oX4 qm m_cornerCount m_streetCount m_guideCount m_bellCount m_hand m_handTold, rA (qm 11) cI 4 (upd m_paces m_guideCount.toNatClampNeg r2.1), rA (qm 12) cI 4 m_fees, rA (qm 13) cI 4 m_knows, rA (qm 14) cI 4 m_his]) (wn := [oX2 q v_length r4.2.1 r4.2.2.1 r4.2.2.2.1 r4.2.2.2.2.1 r4.2.2.2.2.2, rA (q 1) cI 200 v_text, oX4 qm m_cornerCount m_streetCount m_guideCount m_bellCount m_hand m_handTold, rA (qm 11) cI 4 (upd m_paces m_guideCount.toNatClampNeg r2.1), rA (qm 12) cI 4 m_fees, rA (qm 13) cI 4 m_knows, rA (qm 14) cI 4 m_his]) hFx (k_X2_readNumber l D cI cZ cT q H.size v_length r2.2.1 r2.2.2.1 r2.2.2.2.1 r2.2.2.2.2.1 r2.2.2.2.2.2 v_text (0 : Int32) (9 : Int32) r4 fu hr4) (cwV 2 hts gX2_readGuide_X2_readNumber rfl rfl rfl (by decide +kernel) ⟨Nat.le_of_ble_eq_true rfl, Nat.le_of_ble_eq_true rfl⟩) hK hP hD hS hA [0, 1] [2, 3, 4, 5, 6] [5, 6, 0, 1, 2, 3, 4] rfl rfl rfl rfl (by decide) rfl rfl 2 0 rfl rfl rfl hl.1 rfl (Nat.le_of_ble_eq_true rfl) dX2_readGuide_36 ⟨Nat.zero_le _, Nat.zero_le _⟩ (fun H locs hP hD hS => ?_)
    obtain ⟨hi5, h⟩ := xb_some h
    refine va_iast hx hb hK hP hD hS 4 0 rfl rfl hi5 dX2_readGuide_39 (fun H locs hP hD hS => ?_)
    have hP : va_P D vwCl [oX2 q v_length r4.2.1 r4.2.2.1 r4.2.2.2.1 r4.2.2.2.2.1 r4.2.2.2.2.2, rA (q 1) cI 200 v_text, oX4 qm m_cornerCount m_streetCount m_guideCount m_bellCount m_hand m_handTold, rA (qm 11) cI 4 (upd m_paces m_guideCount.toNatClampNeg r2.1), rA (qm 12) cI 4 (upd m_fees m_guideCount.toNatClampNeg r4.1), rA (qm 13) cI 4 m_knows, rA (qm 14) cI 4 m_his] H := hP
    have hD : va_D A [oX2 q v_length r4.2.1 r4.2.2.1 r4.2.2.2.1 r4.2.2.2.2.1 r4.2.2.2.2.2, rA (q 1) cI 200 v_text, oX4 qm m_cornerCount m_streetCount m_guideCount m_bellCount m_hand m_handTold, rA (qm 11) cI 4 (upd m_paces m_guideCount.toNatClampNeg r2.1), rA (qm 12) cI 4 (upd m_fees m_guideCount.toNatClampNeg r4.1), rA (qm 13) cI 4 m_knows, rA (qm 14) cI 4 m_his] := hD
    refine lv_aload_n hx hb dX2_readGuide_40 rfl (lv_at hl 2 rfl) ?_
    refine va_get (C := RX4) (T := TX4) (N := 15) (v := .ref (qm 13)) hx hb hts iw4 hown hK hP 2 rfl rfl 12 (Nat.le_of_ble_eq_true rfl) lk98 (fun _ h9 => h9) rfl dX2_readGuide_41 ?_
    refine lv_iload_n hx hb dX2_readGuide_44 rfl (lv_at hl 0 rfl) ?_
    refine lv_aload_n hx hb dX2_readGuide_45 rfl (lv_at hl 1 rfl) ?_
    refine lv_iconst (v := 0) hx hb dX2_readGuide_46 (by decide) ?_
    refine lv_bipush (v := 31) hx hb dX2_readGuide_47 (by decide) ?_
    obtain ⟨r6, hr6, h⟩ := xk_some h
    refine vx_VI (As := [.int (0 : Int32), .int (31 : Int32)]) (rest := [.int m_guideCount, .ref (qm 13)]) (wr := [oX4 qm m_cornerCount m_streetCount m_guideCount m_bellCount m_hand m_handTold, rA (qm 11) cI 4 (upd m_paces m_guideCount.toNatClampNeg r2.1), rA (qm 12) cI 4 (upd m_fees m_guideCount.toNatClampNeg r4.1), rA (qm 13) cI 4 m_knows, rA (qm 14) cI 4 m_his]) (wn := [oX2 q v_length r6.2.1 r6.2.2.1 r6.2.2.2.1 r6.2.2.2.2.1 r6.2.2.2.2.2, rA (q 1) cI 200 v_text, oX4 qm m_cornerCount m_streetCount m_guideCount m_bellCount m_hand m_handTold, rA (qm 11) cI 4 (upd m_paces m_guideCount.toNatClampNeg r2.1), rA (qm 12) cI 4 (upd m_fees m_guideCount.toNatClampNeg r4.1), rA (qm 13) cI 4 m_knows, rA (qm 14) cI 4 m_his]) hFx (k_X2_readNumber l D cI cZ cT q H.size v_length r4.2.1 r4.2.2.1 r4.2.2.2.1 r4.2.2.2.2.1 r4.2.2.2.2.2 v_text (0 : Int32) (31 : Int32) r6 fu hr6) (cwV 2 hts gX2_readGuide_X2_readNumber rfl rfl rfl (by decide +kernel) ⟨Nat.le_of_ble_eq_true rfl, Nat.le_of_ble_eq_true rfl⟩) hK hP hD hS hA [0, 1] [2, 3, 4, 5, 6] [5, 6, 0, 1, 2, 3, 4] rfl rfl rfl rfl (by decide) rfl rfl 2 0 rfl rfl rfl hl.1 rfl (Nat.le_of_ble_eq_true rfl) dX2_readGuide_49 ⟨Nat.zero_le _, Nat.zero_le _⟩ (fun H locs hP hD hS => ?_)
    obtain ⟨hi7, h⟩ := xb_some h
    refine va_iast hx hb hK hP hD hS 5 0 rfl rfl hi7 dX2_readGuide_52 (fun H locs hP hD hS => ?_)
    have hP : va_P D vwCl [oX2 q v_length r6.2.1 r6.2.2.1 r6.2.2.2.1 r6.2.2.2.2.1 r6.2.2.2.2.2, rA (q 1) cI 200 v_text, oX4 qm m_cornerCount m_streetCount m_guideCount m_bellCount m_hand m_handTold, rA (qm 11) cI 4 (upd m_paces m_guideCount.toNatClampNeg r2.1), rA (qm 12) cI 4 (upd m_fees m_guideCount.toNatClampNeg r4.1), rA (qm 13) cI 4 (upd m_knows m_guideCount.toNatClampNeg r6.1), rA (qm 14) cI 4 m_his] H := hP
    have hD : va_D A [oX2 q v_length r6.2.1 r6.2.2.1 r6.2.2.2.1 r6.2.2.2.2.1 r6.2.2.2.2.2, rA (q 1) cI 200 v_text, oX4 qm m_cornerCount m_streetCount m_guideCount m_bellCount m_hand m_handTold, rA (qm 11) cI 4 (upd m_paces m_guideCount.toNatClampNeg r2.1), rA (qm 12) cI 4 (upd m_fees m_guideCount.toNatClampNeg r4.1), rA (qm 13) cI 4 (upd m_knows m_guideCount.toNatClampNeg r6.1), rA (qm 14) cI 4 m_his] := hD
    refine lv_aload_n hx hb dX2_readGuide_53 rfl (lv_at hl 2 rfl) ?_
    refine va_get (C := RX4) (T := TX4) (N := 15) (v := .ref (qm 13)) hx hb hts iw4 hown hK hP 2 rfl rfl 12 (Nat.le_of_ble_eq_true rfl) lk98 (fun _ h9 => h9) rfl dX2_readGuide_54 ?_
    refine lv_iload_n hx hb dX2_readGuide_57 rfl (lv_at hl 0 rfl) ?_
    refine lv_dup2_11 hx hb dX2_readGuide_58 rfl rfl ?_
    obtain ⟨hi8, h⟩ := xb_some h
    refine va_iald hx hb hK hP 5 0 rfl rfl hi8 dX2_readGuide_59 ?_
    refine lv_aload_n hx hb dX2_readGuide_60 rfl (lv_at hl 1 rfl) ?_
    refine lv_iconst (v := 0) hx hb dX2_readGuide_61 (by decide) ?_
    refine lv_bipush (v := 15) hx hb dX2_readGuide_62 (by decide) ?_
    obtain ⟨r9, hr9, h⟩ := xk_some h
    refine vx_VI (As := [.int (0 : Int32), .int (15 : Int32)]) (rest := [.int ((upd m_knows m_guideCount.toNatClampNeg r6.1) m_guideCount.toNatClampNeg), .int m_guideCount, .ref (qm 13)]) (wr := [oX4 qm m_cornerCount m_streetCount m_guideCount m_bellCount m_hand m_handTold, rA (qm 11) cI 4 (upd m_paces m_guideCount.toNatClampNeg r2.1), rA (qm 12) cI 4 (upd m_fees m_guideCount.toNatClampNeg r4.1), rA (qm 13) cI 4 (upd m_knows m_guideCount.toNatClampNeg r6.1), rA (qm 14) cI 4 m_his]) (wn := [oX2 q v_length r9.2.1 r9.2.2.1 r9.2.2.2.1 r9.2.2.2.2.1 r9.2.2.2.2.2, rA (q 1) cI 200 v_text, oX4 qm m_cornerCount m_streetCount m_guideCount m_bellCount m_hand m_handTold, rA (qm 11) cI 4 (upd m_paces m_guideCount.toNatClampNeg r2.1), rA (qm 12) cI 4 (upd m_fees m_guideCount.toNatClampNeg r4.1), rA (qm 13) cI 4 (upd m_knows m_guideCount.toNatClampNeg r6.1), rA (qm 14) cI 4 m_his]) hFx (k_X2_readNumber l D cI cZ cT q H.size v_length r6.2.1 r6.2.2.1 r6.2.2.2.1 r6.2.2.2.2.1 r6.2.2.2.2.2 v_text (0 : Int32) (15 : Int32) r9 fu hr9) (cwV 2 hts gX2_readGuide_X2_readNumber rfl rfl rfl (by decide +kernel) ⟨Nat.le_of_ble_eq_true rfl, Nat.le_of_ble_eq_true rfl⟩) hK hP hD hS hA [0, 1] [2, 3, 4, 5, 6] [5, 6, 0, 1, 2, 3, 4] rfl rfl rfl rfl (by decide) rfl rfl 2 0 rfl rfl rfl hl.1 rfl (Nat.le_of_ble_eq_true rfl) dX2_readGuide_64 ⟨Nat.zero_le _, Nat.zero_le _⟩ (fun H locs hP hD hS => ?_)
    refine lv_iconst (v := 5) hx hb dX2_readGuide_67 (by decide) ?_
    refine lv_ishl hx hb dX2_readGuide_68 ?_
    refine lv_ior hx hb dX2_readGuide_69 ?_
    obtain ⟨hi10, h⟩ := xb_some h
    refine va_iast hx hb hK hP hD hS 5 0 rfl rfl hi10 dX2_readGuide_70 (fun H locs hP hD hS => ?_)
    have hP : va_P D vwCl [oX2 q v_length r9.2.1 r9.2.2.1 r9.2.2.2.1 r9.2.2.2.2.1 r9.2.2.2.2.2, rA (q 1) cI 200 v_text, oX4 qm m_cornerCount m_streetCount m_guideCount m_bellCount m_hand m_handTold, rA (qm 11) cI 4 (upd m_paces m_guideCount.toNatClampNeg r2.1), rA (qm 12) cI 4 (upd m_fees m_guideCount.toNatClampNeg r4.1), rA (qm 13) cI 4 (upd (upd m_knows m_guideCount.toNatClampNeg r6.1) m_guideCount.toNatClampNeg (((upd m_knows m_guideCount.toNatClampNeg r6.1) m_guideCount.toNatClampNeg) ||| (r9.1 <<< ((5 : Int32) &&& 31)))), rA (qm 14) cI 4 m_his] H := hP
    have hD : va_D A [oX2 q v_length r9.2.1 r9.2.2.1 r9.2.2.2.1 r9.2.2.2.2.1 r9.2.2.2.2.2, rA (q 1) cI 200 v_text, oX4 qm m_cornerCount m_streetCount m_guideCount m_bellCount m_hand m_handTold, rA (qm 11) cI 4 (upd m_paces m_guideCount.toNatClampNeg r2.1), rA (qm 12) cI 4 (upd m_fees m_guideCount.toNatClampNeg r4.1), rA (qm 13) cI 4 (upd (upd m_knows m_guideCount.toNatClampNeg r6.1) m_guideCount.toNatClampNeg (((upd m_knows m_guideCount.toNatClampNeg r6.1) m_guideCount.toNatClampNeg) ||| (r9.1 <<< ((5 : Int32) &&& 31)))), rA (qm 14) cI 4 m_his] := hD
    refine lv_aload_n hx hb dX2_readGuide_71 rfl (lv_at hl 2 rfl) ?_
    refine va_get (C := RX4) (T := TX4) (N := 15) (v := .ref (qm 14)) hx hb hts iw4 hown hK hP 2 rfl rfl 13 (Nat.le_of_ble_eq_true rfl) lk101 (fun _ h9 => h9) rfl dX2_readGuide_72 ?_
    refine lv_iload_n hx hb dX2_readGuide_75 rfl (lv_at hl 0 rfl) ?_
    refine lv_aload_n hx hb dX2_readGuide_76 rfl (lv_at hl 1 rfl) ?_
    refine lv_iconst (v := 0) hx hb dX2_readGuide_77 (by decide) ?_
    refine lv_bipush (v := 31) hx hb dX2_readGuide_78 (by decide) ?_
    obtain ⟨r11, hr11, h⟩ := xk_some h
    refine vx_VI (As := [.int (0 : Int32), .int (31 : Int32)]) (rest := [.int m_guideCount, .ref (qm 14)]) (wr := [oX4 qm m_cornerCount m_streetCount m_guideCount m_bellCount m_hand m_handTold, rA (qm 11) cI 4 (upd m_paces m_guideCount.toNatClampNeg r2.1), rA (qm 12) cI 4 (upd m_fees m_guideCount.toNatClampNeg r4.1), rA (qm 13) cI 4 (upd (upd m_knows m_guideCount.toNatClampNeg r6.1) m_guideCount.toNatClampNeg (((upd m_knows m_guideCount.toNatClampNeg r6.1) m_guideCount.toNatClampNeg) ||| (r9.1 <<< ((5 : Int32) &&& 31)))), rA (qm 14) cI 4 m_his]) (wn := [oX2 q v_length r11.2.1 r11.2.2.1 r11.2.2.2.1 r11.2.2.2.2.1 r11.2.2.2.2.2, rA (q 1) cI 200 v_text, oX4 qm m_cornerCount m_streetCount m_guideCount m_bellCount m_hand m_handTold, rA (qm 11) cI 4 (upd m_paces m_guideCount.toNatClampNeg r2.1), rA (qm 12) cI 4 (upd m_fees m_guideCount.toNatClampNeg r4.1), rA (qm 13) cI 4 (upd (upd m_knows m_guideCount.toNatClampNeg r6.1) m_guideCount.toNatClampNeg (((upd m_knows m_guideCount.toNatClampNeg r6.1) m_guideCount.toNatClampNeg) ||| (r9.1 <<< ((5 : Int32) &&& 31)))), rA (qm 14) cI 4 m_his]) hFx (k_X2_readNumber l D cI cZ cT q H.size v_length r9.2.1 r9.2.2.1 r9.2.2.2.1 r9.2.2.2.2.1 r9.2.2.2.2.2 v_text (0 : Int32) (31 : Int32) r11 fu hr11) (cwV 2 hts gX2_readGuide_X2_readNumber rfl rfl rfl (by decide +kernel) ⟨Nat.le_of_ble_eq_true rfl, Nat.le_of_ble_eq_true rfl⟩) hK hP hD hS hA [0, 1] [2, 3, 4, 5, 6] [5, 6, 0, 1, 2, 3, 4] rfl rfl rfl rfl (by decide) rfl rfl 2 0 rfl rfl rfl hl.1 rfl (Nat.le_of_ble_eq_true rfl) dX2_readGuide_80 ⟨Nat.zero_le _, Nat.zero_le _⟩ (fun H locs hP hD hS => ?_)
    obtain ⟨hi12, h⟩ := xb_some h
    refine va_iast hx hb hK hP hD hS 6 0 rfl rfl hi12 dX2_readGuide_83 (fun H locs hP hD hS => ?_)
    have hP : va_P D vwCl [oX2 q v_length r11.2.1 r11.2.2.1 r11.2.2.2.1 r11.2.2.2.2.1 r11.2.2.2.2.2, rA (q 1) cI 200 v_text, oX4 qm m_cornerCount m_streetCount m_guideCount m_bellCount m_hand m_handTold, rA (qm 11) cI 4 (upd m_paces m_guideCount.toNatClampNeg r2.1), rA (qm 12) cI 4 (upd m_fees m_guideCount.toNatClampNeg r4.1), rA (qm 13) cI 4 (upd (upd m_knows m_guideCount.toNatClampNeg r6.1) m_guideCount.toNatClampNeg (((upd m_knows m_guideCount.toNatClampNeg r6.1) m_guideCount.toNatClampNeg) ||| (r9.1 <<< ((5 : Int32) &&& 31)))), rA (qm 14) cI 4 (upd m_his m_guideCount.toNatClampNeg r11.1)] H := hP
    have hD : va_D A [oX2 q v_length r11.2.1 r11.2.2.1 r11.2.2.2.1 r11.2.2.2.2.1 r11.2.2.2.2.2, rA (q 1) cI 200 v_text, oX4 qm m_cornerCount m_streetCount m_guideCount m_bellCount m_hand m_handTold, rA (qm 11) cI 4 (upd m_paces m_guideCount.toNatClampNeg r2.1), rA (qm 12) cI 4 (upd m_fees m_guideCount.toNatClampNeg r4.1), rA (qm 13) cI 4 (upd (upd m_knows m_guideCount.toNatClampNeg r6.1) m_guideCount.toNatClampNeg (((upd m_knows m_guideCount.toNatClampNeg r6.1) m_guideCount.toNatClampNeg) ||| (r9.1 <<< ((5 : Int32) &&& 31)))), rA (qm 14) cI 4 (upd m_his m_guideCount.toNatClampNeg r11.1)] := hD
    refine lv_aload_n hx hb dX2_readGuide_84 rfl (lv_at hl 2 rfl) ?_
    refine va_get (C := RX4) (T := TX4) (N := 15) (v := .ref (qm 14)) hx hb hts iw4 hown hK hP 2 rfl rfl 13 (Nat.le_of_ble_eq_true rfl) lk101 (fun _ h9 => h9) rfl dX2_readGuide_85 ?_
    refine lv_iload_n hx hb dX2_readGuide_88 rfl (lv_at hl 0 rfl) ?_
    refine lv_dup2_11 hx hb dX2_readGuide_89 rfl rfl ?_
    obtain ⟨hi13, h⟩ := xb_some h
    refine va_iald hx hb hK hP 6 0 rfl rfl hi13 dX2_readGuide_90 ?_
    refine lv_aload_n hx hb dX2_readGuide_91 rfl (lv_at hl 1 rfl) ?_
    refine lv_iconst (v := 0) hx hb dX2_readGuide_92 (by decide) ?_
    refine lv_iconst (v := 3) hx hb dX2_readGuide_93 (by decide) ?_
    obtain ⟨r14, hr14, h⟩ := xk_some h
    refine vx_VI (As := [.int (0 : Int32), .int (3 : Int32)]) (rest := [.int ((upd m_his m_guideCount.toNatClampNeg r11.1) m_guideCount.toNatClampNeg), .int m_guideCount, .ref (qm 14)]) (wr := [oX4 qm m_cornerCount m_streetCount m_guideCount m_bellCount m_hand m_handTold, rA (qm 11) cI 4 (upd m_paces m_guideCount.toNatClampNeg r2.1), rA (qm 12) cI 4 (upd m_fees m_guideCount.toNatClampNeg r4.1), rA (qm 13) cI 4 (upd (upd m_knows m_guideCount.toNatClampNeg r6.1) m_guideCount.toNatClampNeg (((upd m_knows m_guideCount.toNatClampNeg r6.1) m_guideCount.toNatClampNeg) ||| (r9.1 <<< ((5 : Int32) &&& 31)))), rA (qm 14) cI 4 (upd m_his m_guideCount.toNatClampNeg r11.1)]) (wn := [oX2 q v_length r14.2.1 r14.2.2.1 r14.2.2.2.1 r14.2.2.2.2.1 r14.2.2.2.2.2, rA (q 1) cI 200 v_text, oX4 qm m_cornerCount m_streetCount m_guideCount m_bellCount m_hand m_handTold, rA (qm 11) cI 4 (upd m_paces m_guideCount.toNatClampNeg r2.1), rA (qm 12) cI 4 (upd m_fees m_guideCount.toNatClampNeg r4.1), rA (qm 13) cI 4 (upd (upd m_knows m_guideCount.toNatClampNeg r6.1) m_guideCount.toNatClampNeg (((upd m_knows m_guideCount.toNatClampNeg r6.1) m_guideCount.toNatClampNeg) ||| (r9.1 <<< ((5 : Int32) &&& 31)))), rA (qm 14) cI 4 (upd m_his m_guideCount.toNatClampNeg r11.1)]) hFx (k_X2_readNumber l D cI cZ cT q H.size v_length r11.2.1 r11.2.2.1 r11.2.2.2.1 r11.2.2.2.2.1 r11.2.2.2.2.2 v_text (0 : Int32) (3 : Int32) r14 fu hr14) (cwV 2 hts gX2_readGuide_X2_readNumber rfl rfl rfl (by decide +kernel) ⟨Nat.le_of_ble_eq_true rfl, Nat.le_of_ble_eq_true rfl⟩) hK hP hD hS hA [0, 1] [2, 3, 4, 5, 6] [5, 6, 0, 1, 2, 3, 4] rfl rfl rfl rfl (by decide) rfl rfl 2 0 rfl rfl rfl hl.1 rfl (Nat.le_of_ble_eq_true rfl) dX2_readGuide_94 ⟨Nat.zero_le _, Nat.zero_le _⟩ (fun H locs hP hD hS => ?_)
    refine lv_iconst (v := 5) hx hb dX2_readGuide_97 (by decide) ?_
    refine lv_ishl hx hb dX2_readGuide_98 ?_
    refine lv_ior hx hb dX2_readGuide_99 ?_
    obtain ⟨hi15, h⟩ := xb_some h
    refine va_iast hx hb hK hP hD hS 6 0 rfl rfl hi15 dX2_readGuide_100 (fun H locs hP hD hS => ?_)
    have hP : va_P D vwCl [oX2 q v_length r14.2.1 r14.2.2.1 r14.2.2.2.1 r14.2.2.2.2.1 r14.2.2.2.2.2, rA (q 1) cI 200 v_text, oX4 qm m_cornerCount m_streetCount m_guideCount m_bellCount m_hand m_handTold, rA (qm 11) cI 4 (upd m_paces m_guideCount.toNatClampNeg r2.1), rA (qm 12) cI 4 (upd m_fees m_guideCount.toNatClampNeg r4.1), rA (qm 13) cI 4 (upd (upd m_knows m_guideCount.toNatClampNeg r6.1) m_guideCount.toNatClampNeg (((upd m_knows m_guideCount.toNatClampNeg r6.1) m_guideCount.toNatClampNeg) ||| (r9.1 <<< ((5 : Int32) &&& 31)))), rA (qm 14) cI 4 (upd (upd m_his m_guideCount.toNatClampNeg r11.1) m_guideCount.toNatClampNeg (((upd m_his m_guideCount.toNatClampNeg r11.1) m_guideCount.toNatClampNeg) ||| (r14.1 <<< ((5 : Int32) &&& 31))))] H := hP
    have hD : va_D A [oX2 q v_length r14.2.1 r14.2.2.1 r14.2.2.2.1 r14.2.2.2.2.1 r14.2.2.2.2.2, rA (q 1) cI 200 v_text, oX4 qm m_cornerCount m_streetCount m_guideCount m_bellCount m_hand m_handTold, rA (qm 11) cI 4 (upd m_paces m_guideCount.toNatClampNeg r2.1), rA (qm 12) cI 4 (upd m_fees m_guideCount.toNatClampNeg r4.1), rA (qm 13) cI 4 (upd (upd m_knows m_guideCount.toNatClampNeg r6.1) m_guideCount.toNatClampNeg (((upd m_knows m_guideCount.toNatClampNeg r6.1) m_guideCount.toNatClampNeg) ||| (r9.1 <<< ((5 : Int32) &&& 31)))), rA (qm 14) cI 4 (upd (upd m_his m_guideCount.toNatClampNeg r11.1) m_guideCount.toNatClampNeg (((upd m_his m_guideCount.toNatClampNeg r11.1) m_guideCount.toNatClampNeg) ||| (r14.1 <<< ((5 : Int32) &&& 31))))] := hD
    refine lv_aload_n hx hb dX2_readGuide_101 rfl (lv_at hl 1 rfl) ?_
    obtain ⟨r16, hr16, h⟩ := xk_some h
    refine vx_VV (As := []) (rest := []) (wr := [oX4 qm m_cornerCount m_streetCount m_guideCount m_bellCount m_hand m_handTold, rA (qm 11) cI 4 (upd m_paces m_guideCount.toNatClampNeg r2.1), rA (qm 12) cI 4 (upd m_fees m_guideCount.toNatClampNeg r4.1), rA (qm 13) cI 4 (upd (upd m_knows m_guideCount.toNatClampNeg r6.1) m_guideCount.toNatClampNeg (((upd m_knows m_guideCount.toNatClampNeg r6.1) m_guideCount.toNatClampNeg) ||| (r9.1 <<< ((5 : Int32) &&& 31)))), rA (qm 14) cI 4 (upd (upd m_his m_guideCount.toNatClampNeg r11.1) m_guideCount.toNatClampNeg (((upd m_his m_guideCount.toNatClampNeg r11.1) m_guideCount.toNatClampNeg) ||| (r14.1 <<< ((5 : Int32) &&& 31))))]) (wn := [oX2 q v_length r16.1 r16.2.1 r16.2.2.1 r16.2.2.2.1 r16.2.2.2.2, rA (q 1) cI 200 v_text, oX4 qm m_cornerCount m_streetCount m_guideCount m_bellCount m_hand m_handTold, rA (qm 11) cI 4 (upd m_paces m_guideCount.toNatClampNeg r2.1), rA (qm 12) cI 4 (upd m_fees m_guideCount.toNatClampNeg r4.1), rA (qm 13) cI 4 (upd (upd m_knows m_guideCount.toNatClampNeg r6.1) m_guideCount.toNatClampNeg (((upd m_knows m_guideCount.toNatClampNeg r6.1) m_guideCount.toNatClampNeg) ||| (r9.1 <<< ((5 : Int32) &&& 31)))), rA (qm 14) cI 4 (upd (upd m_his m_guideCount.toNatClampNeg r11.1) m_guideCount.toNatClampNeg (((upd m_his m_guideCount.toNatClampNeg r11.1) m_guideCount.toNatClampNeg) ||| (r14.1 <<< ((5 : Int32) &&& 31))))]) hFx (k_X2_readStop l D cI cZ cT q H.size v_length r14.2.1 r14.2.2.1 r14.2.2.2.1 r14.2.2.2.2.1 r14.2.2.2.2.2 v_text r16 fu hr16) (cwV 0 hts gX2_readGuide_X2_readStop rfl rfl rfl (by decide +kernel) ⟨Nat.le_of_ble_eq_true rfl, Nat.le_of_ble_eq_true rfl⟩) hK hP hD hS hA [0, 1] [2, 3, 4, 5, 6] [5, 6, 0, 1, 2, 3, 4] rfl rfl rfl rfl (by decide) rfl rfl 2 0 rfl rfl rfl hl.1 rfl (Nat.le_of_ble_eq_true rfl) dX2_readGuide_102 ⟨Nat.zero_le _, Nat.zero_le _⟩ (fun H locs hP hD hS => ?_)
    refine lv_aload_n hx hb dX2_readGuide_105 rfl (lv_at hl 2 rfl) ?_
    refine lv_iload_n hx hb dX2_readGuide_106 rfl (lv_at hl 0 rfl) ?_
    refine lv_iconst (v := 1) hx hb dX2_readGuide_107 (by decide) ?_
    refine lv_iadd hx hb dX2_readGuide_108 ?_
    refine va_put (C := RX4) (T := TX4) (N := 15) (v := .int (m_guideCount + (1 : Int32))) (ty := .int) hx hb hts iw4 tyX4 tyX4_ok nmX4 hown hK hP hD hS 2 rfl rfl 2 (Nat.le_of_ble_eq_true rfl) lk89 (fun _ h9 => h9) rfl (by decide +kernel) rfl rfl (Nat.le_of_ble_eq_true rfl) dX2_readGuide_109 (fun H locs hP hD hS => ?_)
    have hP : va_P D vwCl [oX2 q v_length r16.1 r16.2.1 r16.2.2.1 r16.2.2.2.1 r16.2.2.2.2, rA (q 1) cI 200 v_text, oX4 qm m_cornerCount m_streetCount (m_guideCount + (1 : Int32)) m_bellCount m_hand m_handTold, rA (qm 11) cI 4 (upd m_paces m_guideCount.toNatClampNeg r2.1), rA (qm 12) cI 4 (upd m_fees m_guideCount.toNatClampNeg r4.1), rA (qm 13) cI 4 (upd (upd m_knows m_guideCount.toNatClampNeg r6.1) m_guideCount.toNatClampNeg (((upd m_knows m_guideCount.toNatClampNeg r6.1) m_guideCount.toNatClampNeg) ||| (r9.1 <<< ((5 : Int32) &&& 31)))), rA (qm 14) cI 4 (upd (upd m_his m_guideCount.toNatClampNeg r11.1) m_guideCount.toNatClampNeg (((upd m_his m_guideCount.toNatClampNeg r11.1) m_guideCount.toNatClampNeg) ||| (r14.1 <<< ((5 : Int32) &&& 31))))] H := hP
    have hD : va_D A [oX2 q v_length r16.1 r16.2.1 r16.2.2.1 r16.2.2.2.1 r16.2.2.2.2, rA (q 1) cI 200 v_text, oX4 qm m_cornerCount m_streetCount (m_guideCount + (1 : Int32)) m_bellCount m_hand m_handTold, rA (qm 11) cI 4 (upd m_paces m_guideCount.toNatClampNeg r2.1), rA (qm 12) cI 4 (upd m_fees m_guideCount.toNatClampNeg r4.1), rA (qm 13) cI 4 (upd (upd m_knows m_guideCount.toNatClampNeg r6.1) m_guideCount.toNatClampNeg (((upd m_knows m_guideCount.toNatClampNeg r6.1) m_guideCount.toNatClampNeg) ||| (r9.1 <<< ((5 : Int32) &&& 31)))), rA (qm 14) cI 4 (upd (upd m_his m_guideCount.toNatClampNeg r11.1) m_guideCount.toNatClampNeg (((upd m_his m_guideCount.toNatClampNeg r11.1) m_guideCount.toNatClampNeg) ||| (r14.1 <<< ((5 : Int32) &&& 31))))] := hD
    exact hret ((r16.1, r16.2.1, r16.2.2.1, r16.2.2.2.1, r16.2.2.2.2, m_guideCount + (1 : Int32), upd m_paces m_guideCount.toNatClampNeg r2.1, upd m_fees m_guideCount.toNatClampNeg r4.1, upd (upd m_knows m_guideCount.toNatClampNeg r6.1) m_guideCount.toNatClampNeg (((upd m_knows m_guideCount.toNatClampNeg r6.1) m_guideCount.toNatClampNeg) ||| (r9.1 <<< ((5 : Int32) &&& 31))), upd (upd m_his m_guideCount.toNatClampNeg r11.1) m_guideCount.toNatClampNeg (((upd m_his m_guideCount.toNatClampNeg r11.1) m_guideCount.toNatClampNeg) ||| (r14.1 <<< ((5 : Int32) &&& 31))))) H locs _ ls (Option.some.inj h) hP hD hS dX2_readGuide_112
  · have h := (if_neg c1).symm.trans h
    refine lv_aload_n hx hb dX2_readGuide_10 rfl (lv_at hl 1 rfl) ?_
    obtain ⟨r17, hr17, h⟩ := xk_some h
    refine vx_VV (As := []) (rest := []) (wr := [rA (q 1) cI 200 v_text, oX4 qm m_cornerCount m_streetCount m_guideCount m_bellCount m_hand m_handTold, rA (qm 11) cI 4 m_paces, rA (qm 12) cI 4 m_fees, rA (qm 13) cI 4 m_knows, rA (qm 14) cI 4 m_his]) (wn := [oX2 q v_length v_place v_token v_tokenAt v_value r17, rA (q 1) cI 200 v_text, oX4 qm m_cornerCount m_streetCount m_guideCount m_bellCount m_hand m_handTold, rA (qm 11) cI 4 m_paces, rA (qm 12) cI 4 m_fees, rA (qm 13) cI 4 m_knows, rA (qm 14) cI 4 m_his]) hFx (k_X2_refuseToken l D cI cZ cT q H.size v_length v_place v_token v_tokenAt v_value v_fault r17 hr17) (cwV 0 hts gX2_readGuide_X2_refuseToken rfl rfl rfl (by decide +kernel) ⟨Nat.le_of_ble_eq_true rfl, Nat.le_of_ble_eq_true rfl⟩) hK hP hD hS hA [0] [1, 2, 3, 4, 5, 6] [6, 0, 1, 2, 3, 4, 5] rfl rfl rfl rfl (by decide) rfl rfl 2 0 rfl rfl rfl hl.1 rfl (Nat.le_of_ble_eq_true rfl) dX2_readGuide_11 ⟨Nat.zero_le _, Nat.zero_le _⟩ (fun H locs hP hD hS => ?_)
    exact hret (v_place, v_token, v_tokenAt, v_value, r17, m_guideCount, m_paces, m_fees, m_knows, m_his) H locs _ ls (Option.some.inj h) hP hD hS dX2_readGuide_14
