abbrev rm_X2_readFog : Room := { frames := 3, cells := 0, slots := 0, locals := 64 }
set_option maxHeartbeats 4000000 in
set_option maxRecDepth 100000 in
theorem k_X2_readFog (l : Launch) (D : va_G) (cI cZ cT : ClassId) (q : Nat → Nat) (qm : Nat → Nat) (sz : Nat) (v_length : Int32) (v_place : Int32) (v_token : Int32) (v_tokenAt : Int32) (v_value : Int32) (v_fault : Int32) (m_cornerCount : Int32) (m_streetCount : Int32) (m_guideCount : Int32) (m_bellCount : Int32) (m_hand : Int32) (m_handTold : Int32) (v_text : Nat → Int32) (m_bells : Nat → Int32) (res : R_X2_readFog) (fu : Nat) (hf : f_X2_readFog fu v_text v_length v_place v_token v_tokenAt v_value v_fault m_bellCount m_bells = some res) : Met l yX2_readFog wsX2_readFog rm_X2_readFog (cPre D (tyz cI cZ cT) [.ref (q 0), .ref (qm 0)] sz [oX2 q v_length v_place v_token v_tokenAt v_value v_fault, rA (q 1) cI 200 v_text, oX4 qm m_cornerCount m_streetCount m_guideCount m_bellCount m_hand m_handTold, rA (qm 15) cI 8 m_bells]) (cPv D (tyz cI cZ cT) (fun (u : Int32 × Int32 × Int32 × Int32 × Int32 × Int32 × (Nat → Int32)) => u = res) (fun u => [oX2 q v_length u.1 u.2.1 u.2.2.1 u.2.2.2.1 u.2.2.2.2.1, rA (q 1) cI 200 v_text, oX4 qm m_cornerCount m_streetCount m_guideCount u.2.2.2.2.2.1 m_hand m_handTold, rA (qm 15) cI 8 u.2.2.2.2.2.2]) [oX2 q v_length v_place v_token v_tokenAt v_value v_fault, rA (q 1) cI 200 v_text, oX4 qm m_cornerCount m_streetCount m_guideCount m_bellCount m_hand m_handTold, rA (qm 15) cI 8 m_bells] sz) 0 0 (va_A [oX2 q v_length v_place v_token v_tokenAt v_value v_fault, rA (q 1) cI 200 v_text, oX4 qm m_cornerCount m_streetCount m_guideCount m_bellCount m_hand m_handTold, rA (qm 15) cI 8 m_bells] sz) := by
  refine vx_meth_v (by decide) rfl (Nat.le_of_ble_eq_true rfl) ?_
  intro p e s m args below meth c A Q hx hb hml hown hts hK hP hD hA hS hret ls hl
  have hown : s.vm.findClass RX2 = some m.cls := hown
  have hl : lv_has ls 3 [(0, .ref (q 0)), (1, .ref (qm 0))] := hl
  have hFx : CallFix p m c cX2_readFog 3 s args wsX2_readFog RX2 := ⟨hx, hb, hml, hown, hts⟩
  have lk104 := hts (.fieldLink RX2 104 "FogGuides$TownMap" "bellCount" "I") (by decide +kernel)
  have iw4 : ∀ w ∈ u_ws RX4 TX4 15, w ∈ wsX2_readFog := by decide +kernel
  have lk27 := hts (.fieldLink RX2 27 "FogGuides$TextReader" "fault" "I") (by decide +kernel)
  have iw2 : ∀ w ∈ u_ws RX2 TX2 7, w ∈ wsX2_readFog := by decide +kernel
  have lk33 := hts (.fieldLink RX2 33 "FogGuides$TextReader" "token" "I") (by decide +kernel)
  have lk43 := hts (.fieldLink RX2 43 "FogGuides$TextReader" "value" "I") (by decide +kernel)
  have lk107 := hts (.fieldLink RX2 107 "FogGuides$TownMap" "bells" "[I") (by decide +kernel)
  have hJ77 : ∀ (v_place : Int32) (v_token : Int32) (v_tokenAt : Int32) (v_value : Int32) (v_fault : Int32) (m_bellCount : Int32) (m_bells : (Nat → Int32)) (x2 : Int32) (H : Heap) (locs : List Loc) (ls : Array Slot), f_X2_readFog_J77 fu v_text v_length v_place v_token v_tokenAt v_value v_fault m_bellCount m_bells x2 = some res → va_P D vwCl [oX2 q v_length v_place v_token v_tokenAt v_value v_fault, rA (q 1) cI 200 v_text, oX4 qm m_cornerCount m_streetCount m_guideCount m_bellCount m_hand m_handTold, rA (qm 15) cI 8 m_bells] H → va_D A [oX2 q v_length v_place v_token v_tokenAt v_value v_fault, rA (q 1) cI 200 v_text, oX4 qm m_cornerCount m_streetCount m_guideCount m_bellCount m_hand m_handTold, rA (qm 15) cI 8 m_bells] → va_S A s.heap H locs → lv_has ls 3 [(0, .ref (q 0)), (1, .ref (qm 0)), (2, .int x2)] → W p l e rm_X2_readFog s m args below meth c H locs 0 0 Q (F0 m 77 ls []) := by
    intro v_place v_token v_tokenAt v_value v_fault m_bellCount m_bells x2 H locs ls h hP hD hS hl
    unfold f_X2_readFog_J77 at h
    refine lv_aload_n hx hb dX2_readFog_77 rfl (lv_at hl 0 rfl) ?_
    obtain ⟨r1, hr1, h⟩ := xk_some h
    refine vx_VV (As := []) (rest := []) (wr := [rA (q 1) cI 200 v_text, oX4 qm m_cornerCount m_streetCount m_guideCount m_bellCount m_hand m_handTold, rA (qm 15) cI 8 m_bells]) (wn := [oX2 q v_length v_place v_token v_tokenAt v_value r1, rA (q 1) cI 200 v_text, oX4 qm m_cornerCount m_streetCount m_guideCount m_bellCount m_hand m_handTold, rA (qm 15) cI 8 m_bells]) hFx (k_X2_refuseToken l D cI cZ cT q H.size v_length v_place v_token v_tokenAt v_value v_fault r1 hr1) (cwV 0 hts gX2_readFog_X2_refuseToken rfl rfl rfl (by decide +kernel) ⟨Nat.le_of_ble_eq_true rfl, Nat.le_of_ble_eq_true rfl⟩) hK hP hD hS hA [0] [1, 2, 3] [3, 0, 1, 2] rfl rfl rfl rfl (by decide) rfl rfl 2 0 rfl rfl rfl hl.1 rfl (Nat.le_of_ble_eq_true rfl) dX2_readFog_78 ⟨Nat.zero_le _, Nat.zero_le _⟩ (fun H locs hP hD hS => ?_)
    refine lv_goto (tgt := 100) hx hb dX2_readFog_81 (by decide) ?_
    refine lv_aload_n hx hb dX2_readFog_100 rfl (lv_at hl 1 rfl) ?_
    refine lv_iload_n hx hb dX2_readFog_101 rfl (lv_at hl 2 rfl) ?_
    refine va_put (C := RX4) (T := TX4) (N := 15) (v := .int x2) (ty := .int) hx hb hts iw4 tyX4 tyX4_ok nmX4 hown hK hP hD hS 2 rfl rfl 3 (Nat.le_of_ble_eq_true rfl) lk104 (fun _ h9 => h9) rfl (by decide +kernel) rfl rfl (Nat.le_of_ble_eq_true rfl) dX2_readFog_102 (fun H locs hP hD hS => ?_)
    have hP : va_P D vwCl [oX2 q v_length v_place v_token v_tokenAt v_value r1, rA (q 1) cI 200 v_text, oX4 qm m_cornerCount m_streetCount m_guideCount x2 m_hand m_handTold, rA (qm 15) cI 8 m_bells] H := hP
    have hD : va_D A [oX2 q v_length v_place v_token v_tokenAt v_value r1, rA (q 1) cI 200 v_text, oX4 qm m_cornerCount m_streetCount m_guideCount x2 m_hand m_handTold, rA (qm 15) cI 8 m_bells] := hD
    exact hret (v_place, v_token, v_tokenAt, v_value, r1, x2, m_bells) H locs _ ls (Option.some.inj h) hP hD hS dX2_readFog_105
  have hL26 : ∀ (n26 : Nat), ∀ (v_place : Int32) (v_token : Int32) (v_tokenAt : Int32) (v_value : Int32) (v_fault : Int32) (m_bellCount : Int32) (m_bells : (Nat → Int32)) (x2 : Int32) (H : Heap) (locs : List Loc) (ls : Array Slot), f_X2_readFog_L26 fu n26 v_text v_length v_place v_token v_tokenAt v_value v_fault m_bellCount m_bells x2 = some res → va_P D vwCl [oX2 q v_length v_place v_token v_tokenAt v_value v_fault, rA (q 1) cI 200 v_text, oX4 qm m_cornerCount m_streetCount m_guideCount m_bellCount m_hand m_handTold, rA (qm 15) cI 8 m_bells] H → va_D A [oX2 q v_length v_place v_token v_tokenAt v_value v_fault, rA (q 1) cI 200 v_text, oX4 qm m_cornerCount m_streetCount m_guideCount m_bellCount m_hand m_handTold, rA (qm 15) cI 8 m_bells] → va_S A s.heap H locs → lv_has ls 3 [(0, .ref (q 0)), (1, .ref (qm 0)), (2, .int x2)] → W p l e rm_X2_readFog s m args below meth c H locs 0 0 Q (F0 m 26 ls []) := by
    intro n26
    induction n26 with
    | zero =>
      intro v_place v_token v_tokenAt v_value v_fault m_bellCount m_bells x2 H locs ls h hP hD hS hl
      cases (show (none : Option R_X2_readFog) = some res from h)
    | succ n26 ih26 =>
      intro v_place v_token v_tokenAt v_value v_fault m_bellCount m_bells x2 H locs ls h hP hD hS hl
      have h : f_X2_readFog_L26b fu (f_X2_readFog_L26 fu n26) v_text v_length v_place v_token v_tokenAt v_value v_fault m_bellCount m_bells x2 = some res := h
      unfold f_X2_readFog_L26b at h
      refine lv_aload_n hx hb dX2_readFog_26 rfl (lv_at hl 0 rfl) ?_
      refine va_get (C := RX2) (T := TX2) (N := 7) (v := .int v_fault) hx hb hts iw2 hown hK hP 0 rfl rfl 6 (Nat.le_of_ble_eq_true rfl) lk27 (fun _ h9 => h9) rfl dX2_readFog_27 ?_
      refine lv_iconst (v := (-1)) hx hb dX2_readFog_30 (by decide) ?_
      refine lv_icmp_ne (tgt := 100) hx hb dX2_readFog_31 (by decide) (fun c2 => ?_) (fun c2 => ?_)
      · have h := (if_neg c2).symm.trans h
        refine lv_aload_n hx hb dX2_readFog_100 rfl (lv_at hl 1 rfl) ?_
        refine lv_iload_n hx hb dX2_readFog_101 rfl (lv_at hl 2 rfl) ?_
        refine va_put (C := RX4) (T := TX4) (N := 15) (v := .int x2) (ty := .int) hx hb hts iw4 tyX4 tyX4_ok nmX4 hown hK hP hD hS 2 rfl rfl 3 (Nat.le_of_ble_eq_true rfl) lk104 (fun _ h9 => h9) rfl (by decide +kernel) rfl rfl (Nat.le_of_ble_eq_true rfl) dX2_readFog_102 (fun H locs hP hD hS => ?_)
        have hP : va_P D vwCl [oX2 q v_length v_place v_token v_tokenAt v_value v_fault, rA (q 1) cI 200 v_text, oX4 qm m_cornerCount m_streetCount m_guideCount x2 m_hand m_handTold, rA (qm 15) cI 8 m_bells] H := hP
        have hD : va_D A [oX2 q v_length v_place v_token v_tokenAt v_value v_fault, rA (q 1) cI 200 v_text, oX4 qm m_cornerCount m_streetCount m_guideCount x2 m_hand m_handTold, rA (qm 15) cI 8 m_bells] := hD
        exact hret (v_place, v_token, v_tokenAt, v_value, v_fault, x2, m_bells) H locs _ ls (Option.some.inj h) hP hD hS dX2_readFog_105
      · have h := (if_pos c2).symm.trans h
        refine lv_iload_n hx hb dX2_readFog_34 rfl (lv_at hl 2 rfl) ?_
        refine lv_bipush (v := 8) hx hb dX2_readFog_35 (by decide) ?_
        refine lv_icmp_gt (tgt := 100) hx hb dX2_readFog_37 (by decide) (fun c3 => ?_) (fun c3 => ?_)
        · have h := (if_pos c3).symm.trans h
          refine lv_aload_n hx hb dX2_readFog_100 rfl (lv_at hl 1 rfl) ?_
          refine lv_iload_n hx hb dX2_readFog_101 rfl (lv_at hl 2 rfl) ?_
          refine va_put (C := RX4) (T := TX4) (N := 15) (v := .int x2) (ty := .int) hx hb hts iw4 tyX4 tyX4_ok nmX4 hown hK hP hD hS 2 rfl rfl 3 (Nat.le_of_ble_eq_true rfl) lk104 (fun _ h9 => h9) rfl (by decide +kernel) rfl rfl (Nat.le_of_ble_eq_true rfl) dX2_readFog_102 (fun H locs hP hD hS => ?_)
          have hP : va_P D vwCl [oX2 q v_length v_place v_token v_tokenAt v_value v_fault, rA (q 1) cI 200 v_text, oX4 qm m_cornerCount m_streetCount m_guideCount x2 m_hand m_handTold, rA (qm 15) cI 8 m_bells] H := hP
          have hD : va_D A [oX2 q v_length v_place v_token v_tokenAt v_value v_fault, rA (q 1) cI 200 v_text, oX4 qm m_cornerCount m_streetCount m_guideCount x2 m_hand m_handTold, rA (qm 15) cI 8 m_bells] := hD
          exact hret (v_place, v_token, v_tokenAt, v_value, v_fault, x2, m_bells) H locs _ ls (Option.some.inj h) hP hD hS dX2_readFog_105
        · have h := (if_neg c3).symm.trans h
          refine lv_aload_n hx hb dX2_readFog_40 rfl (lv_at hl 0 rfl) ?_
          obtain ⟨r4, hr4, h⟩ := xk_some h
          refine vx_VV (As := []) (rest := []) (wr := [oX4 qm m_cornerCount m_streetCount m_guideCount m_bellCount m_hand m_handTold, rA (qm 15) cI 8 m_bells]) (wn := [oX2 q v_length r4.1 r4.2.1 r4.2.2.1 r4.2.2.2 v_fault, rA (q 1) cI 200 v_text, oX4 qm m_cornerCount m_streetCount m_guideCount m_bellCount m_hand m_handTold, rA (qm 15) cI 8 m_bells]) hFx (k_X2_nextToken l D cI cZ cT q H.size v_length v_place v_token v_tokenAt v_value v_fault v_text r4 fu hr4) (cwV 0 hts gX2_readFog_X2_nextToken rfl rfl rfl (by decide +kernel) ⟨Nat.le_of_ble_eq_true rfl, Nat.le_of_ble_eq_true rfl⟩) hK hP hD hS hA [0, 1] [2, 3] [2, 3, 0, 1] rfl rfl rfl rfl (by decide) rfl rfl 2 0 rfl rfl rfl hl.1 rfl (Nat.le_of_ble_eq_true rfl) dX2_readFog_41 ⟨Nat.zero_le _, Nat.zero_le _⟩ (fun H locs hP hD hS => ?_)
          refine lv_aload_n hx hb dX2_readFog_44 rfl (lv_at hl 0 rfl) ?_
          refine va_get (C := RX2) (T := TX2) (N := 7) (v := .int r4.2.1) hx hb hts iw2 hown hK hP 0 rfl rfl 3 (Nat.le_of_ble_eq_true rfl) lk33 (fun _ h9 => h9) rfl dX2_readFog_45 ?_
          refine lv_iconst (v := 3) hx hb dX2_readFog_48 (by decide) ?_
          refine lv_icmp_ne (tgt := 55) hx hb dX2_readFog_49 (by decide) (fun c5 => ?_) (fun c5 => ?_)
          · have h := (if_neg c5).symm.trans h
            refine lv_aload_n hx hb dX2_readFog_55 rfl (lv_at hl 0 rfl) ?_
            refine va_get (C := RX2) (T := TX2) (N := 7) (v := .int r4.2.1) hx hb hts iw2 hown hK hP 0 rfl rfl 3 (Nat.le_of_ble_eq_true rfl) lk33 (fun _ h9 => h9) rfl dX2_readFog_56 ?_
            refine lv_iconst (v := 2) hx hb dX2_readFog_59 (by decide) ?_
            refine lv_icmp_ne (tgt := 77) hx hb dX2_readFog_60 (by decide) (fun c6 => ?_) (fun c6 => ?_)
            · have h := (if_neg c6).symm.trans h
              exact hJ77 r4.1 r4.2.1 r4.2.2.1 r4.2.2.2 v_fault m_bellCount m_bells x2 H locs ls h hP hD hS (lv_sub hl [0, 1, 2] rfl)
            · have h := (if_pos c6).symm.trans h
              refine lv_aload_n hx hb dX2_readFog_63 rfl (lv_at hl 0 rfl) ?_
              refine va_get (C := RX2) (T := TX2) (N := 7) (v := .int r4.2.2.2) hx hb hts iw2 hown hK hP 0 rfl rfl 5 (Nat.le_of_ble_eq_true rfl) lk43 (fun _ h9 => h9) rfl dX2_readFog_64 ?_
              refine lv_iconst (v := 1) hx hb dX2_readFog_67 (by decide) ?_
              refine lv_icmp_gt (tgt := 77) hx hb dX2_readFog_68 (by decide) (fun c7 => ?_) (fun c7 => ?_)
              · have h := (if_pos c7).symm.trans h
                exact hJ77 r4.1 r4.2.1 r4.2.2.1 r4.2.2.2 v_fault m_bellCount m_bells x2 H locs ls h hP hD hS (lv_sub hl [0, 1, 2] rfl)
              · have h := (if_neg c7).symm.trans h
                refine lv_iload_n hx hb dX2_readFog_71 rfl (lv_at hl 2 rfl) ?_
                refine lv_bipush (v := 8) hx hb dX2_readFog_72 (by decide) ?_
                refine lv_icmp_ne (tgt := 84) hx hb dX2_readFog_74 (by decide) (fun c8 => ?_) (fun c8 => ?_)
                · have h := (if_neg c8).symm.trans h
                  refine lv_aload_n hx hb dX2_readFog_84 rfl (lv_at hl 1 rfl) ?_
                  refine va_get (C := RX4) (T := TX4) (N := 15) (v := .ref (qm 15)) hx hb hts iw4 hown hK hP 2 rfl rfl 14 (Nat.le_of_ble_eq_true rfl) lk107 (fun _ h9 => h9) rfl dX2_readFog_85 ?_
                  refine lv_iload_n hx hb dX2_readFog_88 rfl (lv_at hl 2 rfl) ?_
                  refine lv_aload_n hx hb dX2_readFog_89 rfl (lv_at hl 0 rfl) ?_
                  refine va_get (C := RX2) (T := TX2) (N := 7) (v := .int r4.2.2.2) hx hb hts iw2 hown hK hP 0 rfl rfl 5 (Nat.le_of_ble_eq_true rfl) lk43 (fun _ h9 => h9) rfl dX2_readFog_90 ?_
                  obtain ⟨hi9, h⟩ := xb_some h
                  refine va_iast hx hb hK hP hD hS 3 0 rfl rfl hi9 dX2_readFog_93 (fun H locs hP hD hS => ?_)
                  have hP : va_P D vwCl [oX2 q v_length r4.1 r4.2.1 r4.2.2.1 r4.2.2.2 v_fault, rA (q 1) cI 200 v_text, oX4 qm m_cornerCount m_streetCount m_guideCount m_bellCount m_hand m_handTold, rA (qm 15) cI 8 (upd m_bells x2.toNatClampNeg r4.2.2.2)] H := hP
                  have hD : va_D A [oX2 q v_length r4.1 r4.2.1 r4.2.2.1 r4.2.2.2 v_fault, rA (q 1) cI 200 v_text, oX4 qm m_cornerCount m_streetCount m_guideCount m_bellCount m_hand m_handTold, rA (qm 15) cI 8 (upd m_bells x2.toNatClampNeg r4.2.2.2)] := hD
                  refine lv_iinc (v := x2 + 1) (lv' := [(2, .int (x2 + 1)), (0, .ref (q 0)), (1, .ref (qm 0))]) hx hb dX2_readFog_94 hl (k := 2) rfl rfl (by decide) rfl (fun ls hl => ?_)
                  refine lv_goto (tgt := 26) hx hb dX2_readFog_97 (by decide) ?_
                  exact ih26 r4.1 r4.2.1 r4.2.2.1 r4.2.2.2 v_fault m_bellCount (upd m_bells x2.toNatClampNeg r4.2.2.2) (x2 + 1) H locs ls h hP hD hS (lv_sub hl [1, 2, 0] rfl)
                · have h := (if_pos c8).symm.trans h
                  exact hJ77 r4.1 r4.2.1 r4.2.2.1 r4.2.2.2 v_fault m_bellCount m_bells x2 H locs ls h hP hD hS (lv_sub hl [0, 1, 2] rfl)
          · have h := (if_pos c5).symm.trans h
            refine lv_goto (tgt := 100) hx hb dX2_readFog_52 (by decide) ?_
            refine lv_aload_n hx hb dX2_readFog_100 rfl (lv_at hl 1 rfl) ?_
            refine lv_iload_n hx hb dX2_readFog_101 rfl (lv_at hl 2 rfl) ?_
            refine va_put (C := RX4) (T := TX4) (N := 15) (v := .int x2) (ty := .int) hx hb hts iw4 tyX4 tyX4_ok nmX4 hown hK hP hD hS 2 rfl rfl 3 (Nat.le_of_ble_eq_true rfl) lk104 (fun _ h9 => h9) rfl (by decide +kernel) rfl rfl (Nat.le_of_ble_eq_true rfl) dX2_readFog_102 (fun H locs hP hD hS => ?_)
            have hP : va_P D vwCl [oX2 q v_length r4.1 r4.2.1 r4.2.2.1 r4.2.2.2 v_fault, rA (q 1) cI 200 v_text, oX4 qm m_cornerCount m_streetCount m_guideCount x2 m_hand m_handTold, rA (qm 15) cI 8 m_bells] H := hP
            have hD : va_D A [oX2 q v_length r4.1 r4.2.1 r4.2.2.1 r4.2.2.2 v_fault, rA (q 1) cI 200 v_text, oX4 qm m_cornerCount m_streetCount m_guideCount x2 m_hand m_handTold, rA (qm 15) cI 8 m_bells] := hD
            exact hret (r4.1, r4.2.1, r4.2.2.1, r4.2.2.2, v_fault, x2, m_bells) H locs _ ls (Option.some.inj h) hP hD hS dX2_readFog_105
  have h := hf
  unfold f_X2_readFog at h
  obtain ⟨H, eH⟩ : ∃ H, H = s.heap := ⟨_, rfl⟩
  rw [← eH] at hP ⊢
  obtain ⟨locs, el⟩ : ∃ locs : List Loc, locs = [] := ⟨_, rfl⟩
  rw [← el] at hS ⊢
  have hS : va_S A s.heap H locs := by rw [eH]; exact hS
  refine lv_aload_n hx hb dX2_readFog_0 rfl (lv_at hl 1 rfl) ?_
  refine va_get (C := RX4) (T := TX4) (N := 15) (v := .int m_bellCount) hx hb hts iw4 hown hK hP 2 rfl rfl 3 (Nat.le_of_ble_eq_true rfl) lk104 (fun _ h9 => h9) rfl dX2_readFog_1 ?_
  refine lv_if_le (tgt := 12) hx hb dX2_readFog_4 (by decide) (fun c10 => ?_) (fun c10 => ?_)
  · have h := (if_pos c10).symm.trans h
    refine lv_aload_n hx hb dX2_readFog_12 rfl (lv_at hl 1 rfl) ?_
    refine va_get (C := RX4) (T := TX4) (N := 15) (v := .ref (qm 15)) hx hb hts iw4 hown hK hP 2 rfl rfl 14 (Nat.le_of_ble_eq_true rfl) lk107 (fun _ h9 => h9) rfl dX2_readFog_13 ?_
    refine lv_iconst (v := 0) hx hb dX2_readFog_16 (by decide) ?_
    refine lv_aload_n hx hb dX2_readFog_17 rfl (lv_at hl 0 rfl) ?_
    refine lv_iconst (v := 0) hx hb dX2_readFog_18 (by decide) ?_
    refine lv_iconst (v := 1) hx hb dX2_readFog_19 (by decide) ?_
    obtain ⟨r11, hr11, h⟩ := xk_some h
    refine vx_VI (As := [.int (0 : Int32), .int (1 : Int32)]) (rest := [.int (0 : Int32), .ref (qm 15)]) (wr := [oX4 qm m_cornerCount m_streetCount m_guideCount m_bellCount m_hand m_handTold, rA (qm 15) cI 8 m_bells]) (wn := [oX2 q v_length r11.2.1 r11.2.2.1 r11.2.2.2.1 r11.2.2.2.2.1 r11.2.2.2.2.2, rA (q 1) cI 200 v_text, oX4 qm m_cornerCount m_streetCount m_guideCount m_bellCount m_hand m_handTold, rA (qm 15) cI 8 m_bells]) hFx (k_X2_readNumber l D cI cZ cT q H.size v_length v_place v_token v_tokenAt v_value v_fault v_text (0 : Int32) (1 : Int32) r11 fu hr11) (cwV 2 hts gX2_readFog_X2_readNumber rfl rfl rfl (by decide +kernel) ⟨Nat.le_of_ble_eq_true rfl, Nat.le_of_ble_eq_true rfl⟩) hK hP hD hS hA [0, 1] [2, 3] [2, 3, 0, 1] rfl rfl rfl rfl (by decide) rfl rfl 2 0 rfl rfl rfl hl.1 rfl (Nat.le_of_ble_eq_true rfl) dX2_readFog_20 ⟨Nat.zero_le _, Nat.zero_le _⟩ (fun H locs hP hD hS => ?_)
    obtain ⟨hi12, h⟩ := xb_some h
    refine va_iast hx hb hK hP hD hS 3 0 rfl rfl hi12 dX2_readFog_23 (fun H locs hP hD hS => ?_)
    have hP : va_P D vwCl [oX2 q v_length r11.2.1 r11.2.2.1 r11.2.2.2.1 r11.2.2.2.2.1 r11.2.2.2.2.2, rA (q 1) cI 200 v_text, oX4 qm m_cornerCount m_streetCount m_guideCount m_bellCount m_hand m_handTold, rA (qm 15) cI 8 (upd m_bells (0 : Int32).toNatClampNeg r11.1)] H := hP
    have hD : va_D A [oX2 q v_length r11.2.1 r11.2.2.1 r11.2.2.2.1 r11.2.2.2.2.1 r11.2.2.2.2.2, rA (q 1) cI 200 v_text, oX4 qm m_cornerCount m_streetCount m_guideCount m_bellCount m_hand m_handTold, rA (qm 15) cI 8 (upd m_bells (0 : Int32).toNatClampNeg r11.1)] := hD
    refine lv_iconst (v := 1) hx hb dX2_readFog_24 (by decide) ?_
    refine lv_istore_n (lv' := [(2, .int (1 : Int32)), (0, .ref (q 0)), (1, .ref (qm 0))]) hx hb dX2_readFog_25 rfl hl (by decide) rfl (fun ls hl => ?_)
    exact hL26 fu r11.2.1 r11.2.2.1 r11.2.2.2.1 r11.2.2.2.2.1 r11.2.2.2.2.2 m_bellCount (upd m_bells (0 : Int32).toNatClampNeg r11.1) (1 : Int32) H locs ls h hP hD hS (lv_sub hl [1, 2, 0] rfl)
  · have h := (if_neg c10).symm.trans h
    refine lv_aload_n hx hb dX2_readFog_7 rfl (lv_at hl 0 rfl) ?_
    obtain ⟨r13, hr13, h⟩ := xk_some h
    refine vx_VV (As := []) (rest := []) (wr := [rA (q 1) cI 200 v_text, oX4 qm m_cornerCount m_streetCount m_guideCount m_bellCount m_hand m_handTold, rA (qm 15) cI 8 m_bells]) (wn := [oX2 q v_length v_place v_token v_tokenAt v_value r13, rA (q 1) cI 200 v_text, oX4 qm m_cornerCount m_streetCount m_guideCount m_bellCount m_hand m_handTold, rA (qm 15) cI 8 m_bells]) hFx (k_X2_refuseToken l D cI cZ cT q H.size v_length v_place v_token v_tokenAt v_value v_fault r13 hr13) (cwV 0 hts gX2_readFog_X2_refuseToken rfl rfl rfl (by decide +kernel) ⟨Nat.le_of_ble_eq_true rfl, Nat.le_of_ble_eq_true rfl⟩) hK hP hD hS hA [0] [1, 2, 3] [3, 0, 1, 2] rfl rfl rfl rfl (by decide) rfl rfl 2 0 rfl rfl rfl hl.1 rfl (Nat.le_of_ble_eq_true rfl) dX2_readFog_8 ⟨Nat.zero_le _, Nat.zero_le _⟩ (fun H locs hP hD hS => ?_)
    exact hret (v_place, v_token, v_tokenAt, v_value, r13, m_bellCount, m_bells) H locs _ ls (Option.some.inj h) hP hD hS dX2_readFog_11
abbrev rm_X2_readHand : Room := { frames := 3, cells := 0, slots := 0, locals := 64 }
set_option maxHeartbeats 4000000 in
set_option maxRecDepth 100000 in
theorem k_X2_readHand (l : Launch) (D : va_G) (cI cZ cT : ClassId) (q : Nat → Nat) (qm : Nat → Nat) (sz : Nat) (v_length : Int32) (v_place : Int32) (v_token : Int32) (v_tokenAt : Int32) (v_value : Int32) (v_fault : Int32) (m_cornerCount : Int32) (m_streetCount : Int32) (m_guideCount : Int32) (m_bellCount : Int32) (m_hand : Int32) (m_handTold : Int32) (v_text : Nat → Int32) (res : R_X2_readHand) (fu : Nat) (hf : f_X2_readHand fu v_text v_length v_place v_token v_tokenAt v_value v_fault m_hand m_handTold = some res) : Met l yX2_readHand wsX2_readHand rm_X2_readHand (cPre D (tyz cI cZ cT) [.ref (q 0), .ref (qm 0)] sz [oX2 q v_length v_place v_token v_tokenAt v_value v_fault, rA (q 1) cI 200 v_text, oX4 qm m_cornerCount m_streetCount m_guideCount m_bellCount m_hand m_handTold]) (cPv D (tyz cI cZ cT) (fun (u : Int32 × Int32 × Int32 × Int32 × Int32 × Int32 × Int32) => u = res) (fun u => [oX2 q v_length u.1 u.2.1 u.2.2.1 u.2.2.2.1 u.2.2.2.2.1, rA (q 1) cI 200 v_text, oX4 qm m_cornerCount m_streetCount m_guideCount m_bellCount u.2.2.2.2.2.1 u.2.2.2.2.2.2]) [oX2 q v_length v_place v_token v_tokenAt v_value v_fault, rA (q 1) cI 200 v_text, oX4 qm m_cornerCount m_streetCount m_guideCount m_bellCount m_hand m_handTold] sz) 0 0 (va_A [oX2 q v_length v_place v_token v_tokenAt v_value v_fault, rA (q 1) cI 200 v_text, oX4 qm m_cornerCount m_streetCount m_guideCount m_bellCount m_hand m_handTold] sz) := by
  refine vx_meth_v (by decide) rfl (Nat.le_of_ble_eq_true rfl) ?_
  intro p e s m args below meth c A Q hx hb hml hown hts hK hP hD hA hS hret ls hl
  have hown : s.vm.findClass RX2 = some m.cls := hown
  have hl : lv_has ls 2 [(0, .ref (q 0)), (1, .ref (qm 0))] := hl
  have hFx : CallFix p m c cX2_readHand 2 s args wsX2_readHand RX2 := ⟨hx, hb, hml, hown, hts⟩
  have lk110 := hts (.fieldLink RX2 110 "FogGuides$TownMap" "handTold" "Z") (by decide +kernel)
  have iw4 : ∀ w ∈ u_ws RX4 TX4 15, w ∈ wsX2_readHand := by decide +kernel
  have lk114 := hts (.fieldLink RX2 114 "FogGuides$TownMap" "hand" "I") (by decide +kernel)
  have h := hf
  unfold f_X2_readHand at h
  obtain ⟨H, eH⟩ : ∃ H, H = s.heap := ⟨_, rfl⟩
  rw [← eH] at hP ⊢
  obtain ⟨locs, el⟩ : ∃ locs : List Loc, locs = [] := ⟨_, rfl⟩
  rw [← el] at hS ⊢
  have hS : va_S A s.heap H locs := by rw [eH]; exact hS
  refine lv_aload_n hx hb dX2_readHand_0 rfl (lv_at hl 1 rfl) ?_
  refine va_get (C := RX4) (T := TX4) (N := 15) (v := .int m_handTold) hx hb hts iw4 hown hK hP 2 rfl rfl 5 (Nat.le_of_ble_eq_true rfl) lk110 (fun _ h9 => h9) rfl dX2_readHand_1 ?_
  refine lv_if_eq (tgt := 12) hx hb dX2_readHand_4 (by decide) (fun c1 => ?_) (fun c1 => ?_)
  · have h := (if_pos c1).symm.trans h
    refine lv_aload_n hx hb dX2_readHand_12 rfl (lv_at hl 1 rfl) ?_
    refine lv_aload_n hx hb dX2_readHand_13 rfl (lv_at hl 0 rfl) ?_
    refine lv_iconst (v := 0) hx hb dX2_readHand_14 (by decide) ?_
    refine lv_bipush (v := 9) hx hb dX2_readHand_15 (by decide) ?_
    obtain ⟨r2, hr2, h⟩ := xk_some h
    refine vx_VI (As := [.int (0 : Int32), .int (9 : Int32)]) (rest := [.ref (qm 0)]) (wr := [oX4 qm m_cornerCount m_streetCount m_guideCount m_bellCount m_hand m_handTold]) (wn := [oX2 q v_length r2.2.1 r2.2.2.1 r2.2.2.2.1 r2.2.2.2.2.1 r2.2.2.2.2.2, rA (q 1) cI 200 v_text, oX4 qm m_cornerCount m_streetCount m_guideCount m_bellCount m_hand m_handTold]) hFx (k_X2_readNumber l D cI cZ cT q H.size v_length v_place v_token v_tokenAt v_value v_fault v_text (0 : Int32) (9 : Int32) r2 fu hr2) (cwV 2 hts gX2_readHand_X2_readNumber rfl rfl rfl (by decide +kernel) ⟨Nat.le_of_ble_eq_true rfl, Nat.le_of_ble_eq_true rfl⟩) hK hP hD hS hA [0, 1] [2] [1, 2, 0] rfl rfl rfl rfl (by decide) rfl rfl 2 0 rfl rfl rfl hl.1 rfl (Nat.le_of_ble_eq_true rfl) dX2_readHand_17 ⟨Nat.zero_le _, Nat.zero_le _⟩ (fun H locs hP hD hS => ?_)
    refine va_put (C := RX4) (T := TX4) (N := 15) (v := .int r2.1) (ty := .int) hx hb hts iw4 tyX4 tyX4_ok nmX4 hown hK hP hD hS 2 rfl rfl 4 (Nat.le_of_ble_eq_true rfl) lk114 (fun _ h9 => h9) rfl (by decide +kernel) rfl rfl (Nat.le_of_ble_eq_true rfl) dX2_readHand_20 (fun H locs hP hD hS => ?_)
    have hP : va_P D vwCl [oX2 q v_length r2.2.1 r2.2.2.1 r2.2.2.2.1 r2.2.2.2.2.1 r2.2.2.2.2.2, rA (q 1) cI 200 v_text, oX4 qm m_cornerCount m_streetCount m_guideCount m_bellCount r2.1 m_handTold] H := hP
    have hD : va_D A [oX2 q v_length r2.2.1 r2.2.2.1 r2.2.2.2.1 r2.2.2.2.2.1 r2.2.2.2.2.2, rA (q 1) cI 200 v_text, oX4 qm m_cornerCount m_streetCount m_guideCount m_bellCount r2.1 m_handTold] := hD
    refine lv_aload_n hx hb dX2_readHand_23 rfl (lv_at hl 0 rfl) ?_
    obtain ⟨r3, hr3, h⟩ := xk_some h
    refine vx_VV (As := []) (rest := []) (wr := [oX4 qm m_cornerCount m_streetCount m_guideCount m_bellCount r2.1 m_handTold]) (wn := [oX2 q v_length r3.1 r3.2.1 r3.2.2.1 r3.2.2.2.1 r3.2.2.2.2, rA (q 1) cI 200 v_text, oX4 qm m_cornerCount m_streetCount m_guideCount m_bellCount r2.1 m_handTold]) hFx (k_X2_readStop l D cI cZ cT q H.size v_length r2.2.1 r2.2.2.1 r2.2.2.2.1 r2.2.2.2.2.1 r2.2.2.2.2.2 v_text r3 fu hr3) (cwV 0 hts gX2_readHand_X2_readStop rfl rfl rfl (by decide +kernel) ⟨Nat.le_of_ble_eq_true rfl, Nat.le_of_ble_eq_true rfl⟩) hK hP hD hS hA [0, 1] [2] [1, 2, 0] rfl rfl rfl rfl (by decide) rfl rfl 2 0 rfl rfl rfl hl.1 rfl (Nat.le_of_ble_eq_true rfl) dX2_readHand_24 ⟨Nat.zero_le _, Nat.zero_le _⟩ (fun H locs hP hD hS => ?_)
    refine lv_aload_n hx hb dX2_readHand_27 rfl (lv_at hl 1 rfl) ?_
    refine lv_iconst (v := 1) hx hb dX2_readHand_28 (by decide) ?_
    refine va_put (C := RX4) (T := TX4) (N := 15) (v := .int (1 : Int32)) (ty := .boolean) hx hb hts iw4 tyX4 tyX4_ok nmX4 hown hK hP hD hS 2 rfl rfl 5 (Nat.le_of_ble_eq_true rfl) lk110 (fun _ h9 => h9) rfl (by decide +kernel) (by decide +kernel) rfl (Nat.le_of_ble_eq_true rfl) dX2_readHand_29 (fun H locs hP hD hS => ?_)
    have hP : va_P D vwCl [oX2 q v_length r3.1 r3.2.1 r3.2.2.1 r3.2.2.2.1 r3.2.2.2.2, rA (q 1) cI 200 v_text, oX4 qm m_cornerCount m_streetCount m_guideCount m_bellCount r2.1 (1 : Int32)] H := hP
    have hD : va_D A [oX2 q v_length r3.1 r3.2.1 r3.2.2.1 r3.2.2.2.1 r3.2.2.2.2, rA (q 1) cI 200 v_text, oX4 qm m_cornerCount m_streetCount m_guideCount m_bellCount r2.1 (1 : Int32)] := hD
    exact hret ((r3.1, r3.2.1, r3.2.2.1, r3.2.2.2.1, r3.2.2.2.2, r2.1, (1 : Int32))) H locs _ ls (Option.some.inj h) hP hD hS dX2_readHand_32
  · have h := (if_neg c1).symm.trans h
    refine lv_aload_n hx hb dX2_readHand_7 rfl (lv_at hl 0 rfl) ?_
    obtain ⟨r4, hr4, h⟩ := xk_some h
    refine vx_VV (As := []) (rest := []) (wr := [rA (q 1) cI 200 v_text, oX4 qm m_cornerCount m_streetCount m_guideCount m_bellCount m_hand m_handTold]) (wn := [oX2 q v_length v_place v_token v_tokenAt v_value r4, rA (q 1) cI 200 v_text, oX4 qm m_cornerCount m_streetCount m_guideCount m_bellCount m_hand m_handTold]) hFx (k_X2_refuseToken l D cI cZ cT q H.size v_length v_place v_token v_tokenAt v_value v_fault r4 hr4) (cwV 0 hts gX2_readHand_X2_refuseToken rfl rfl rfl (by decide +kernel) ⟨Nat.le_of_ble_eq_true rfl, Nat.le_of_ble_eq_true rfl⟩) hK hP hD hS hA [0] [1, 2] [2, 0, 1] rfl rfl rfl rfl (by decide) rfl rfl 2 0 rfl rfl rfl hl.1 rfl (Nat.le_of_ble_eq_true rfl) dX2_readHand_8 ⟨Nat.zero_le _, Nat.zero_le _⟩ (fun H locs hP hD hS => ?_)
    exact hret (v_place, v_token, v_tokenAt, v_value, r4, m_hand, m_handTold) H locs _ ls (Option.some.inj h) hP hD hS dX2_readHand_11
abbrev rm_X2_readItem : Room := { frames := 4, cells := 0, slots := 0, locals := 86 }
set_option maxHeartbeats 4000000 in
set_option maxRecDepth 100000 in
theorem k_X2_readItem (l : Launch) (D : va_G) (cI cZ cT : ClassId) (q : Nat → Nat) (qm : Nat → Nat) (sz : Nat) (v_length : Int32) (v_place : Int32) (v_token : Int32) (v_tokenAt : Int32) (v_value : Int32) (v_fault : Int32) (m_cornerCount : Int32) (m_streetCount : Int32) (m_guideCount : Int32) (m_bellCount : Int32) (m_hand : Int32) (m_handTold : Int32) (v_text : Nat → Int32) (m_marks : Nat → Int32) (m_ends : Nat → Int32) (m_farEnds : Nat → Int32) (m_lengths : Nat → Int32) (m_paces : Nat → Int32) (m_fees : Nat → Int32) (m_knows : Nat → Int32) (m_his : Nat → Int32) (m_bells : Nat → Int32) (res : R_X2_readItem) (fu : Nat) (hf : f_X2_readItem fu v_text v_length v_place v_token v_tokenAt v_value v_fault m_cornerCount m_streetCount m_guideCount m_bellCount m_hand m_handTold m_marks m_ends m_farEnds m_lengths m_paces m_fees m_knows m_his m_bells = some res) : Met l yX2_readItem wsX2_readItem rm_X2_readItem (cPre D (tyz cI cZ cT) [.ref (q 0), .ref (qm 0)] sz [oX2 q v_length v_place v_token v_tokenAt v_value v_fault, rA (q 1) cI 200 v_text, oX4 qm m_cornerCount m_streetCount m_guideCount m_bellCount m_hand m_handTold, rA (qm 7) cI 7 m_marks, rA (qm 8) cI 9 m_ends, rA (qm 9) cI 9 m_farEnds, rA (qm 10) cI 9 m_lengths, rA (qm 11) cI 4 m_paces, rA (qm 12) cI 4 m_fees, rA (qm 13) cI 4 m_knows, rA (qm 14) cI 4 m_his, rA (qm 15) cI 8 m_bells]) (cPv D (tyz cI cZ cT) (fun (u : Int32 × Int32 × Int32 × Int32 × Int32 × Int32 × Int32 × Int32 × Int32 × Int32 × Int32 × (Nat → Int32) × (Nat → Int32) × (Nat → Int32) × (Nat → Int32) × (Nat → Int32) × (Nat → Int32) × (Nat → Int32) × (Nat → Int32) × (Nat → Int32)) => u = res) (fun u => [oX2 q v_length u.1 u.2.1 u.2.2.1 u.2.2.2.1 u.2.2.2.2.1, rA (q 1) cI 200 v_text, oX4 qm u.2.2.2.2.2.1 u.2.2.2.2.2.2.1 u.2.2.2.2.2.2.2.1 u.2.2.2.2.2.2.2.2.1 u.2.2.2.2.2.2.2.2.2.1 u.2.2.2.2.2.2.2.2.2.2.1, rA (qm 7) cI 7 u.2.2.2.2.2.2.2.2.2.2.2.1, rA (qm 8) cI 9 u.2.2.2.2.2.2.2.2.2.2.2.2.1, rA (qm 9) cI 9 u.2.2.2.2.2.2.2.2.2.2.2.2.2.1, rA (qm 10) cI 9 u.2.2.2.2.2.2.2.2.2.2.2.2.2.2.1, rA (qm 11) cI 4 u.2.2.2.2.2.2.2.2.2.2.2.2.2.2.2.1, rA (qm 12) cI 4 u.2.2.2.2.2.2.2.2.2.2.2.2.2.2.2.2.1, rA (qm 13) cI 4 u.2.2.2.2.2.2.2.2.2.2.2.2.2.2.2.2.2.1, rA (qm 14) cI 4 u.2.2.2.2.2.2.2.2.2.2.2.2.2.2.2.2.2.2.1, rA (qm 15) cI 8 u.2.2.2.2.2.2.2.2.2.2.2.2.2.2.2.2.2.2.2]) [oX2 q v_length v_place v_token v_tokenAt v_value v_fault, rA (q 1) cI 200 v_text, oX4 qm m_cornerCount m_streetCount m_guideCount m_bellCount m_hand m_handTold, rA (qm 7) cI 7 m_marks, rA (qm 8) cI 9 m_ends, rA (qm 9) cI 9 m_farEnds, rA (qm 10) cI 9 m_lengths, rA (qm 11) cI 4 m_paces, rA (qm 12) cI 4 m_fees, rA (qm 13) cI 4 m_knows, rA (qm 14) cI 4 m_his, rA (qm 15) cI 8 m_bells] sz) 0 0 (va_A [oX2 q v_length v_place v_token v_tokenAt v_value v_fault, rA (q 1) cI 200 v_text, oX4 qm m_cornerCount m_streetCount m_guideCount m_bellCount m_hand m_handTold, rA (qm 7) cI 7 m_marks, rA (qm 8) cI 9 m_ends, rA (qm 9) cI 9 m_farEnds, rA (qm 10) cI 9 m_lengths, rA (qm 11) cI 4 m_paces, rA (qm 12) cI 4 m_fees, rA (qm 13) cI 4 m_knows, rA (qm 14) cI 4 m_his, rA (qm 15) cI 8 m_bells] sz) := by
  refine vx_meth_v (by decide) rfl (Nat.le_of_ble_eq_true rfl) ?_
  intro p e s m args below meth c A Q hx hb hml hown hts hK hP hD hA hS hret ls hl
  have hown : s.vm.findClass RX2 = some m.cls := hown
  have hl : lv_has ls 2 [(0, .ref (q 0)), (1, .ref (qm 0))] := hl
  have hFx : CallFix p m c cX2_readItem 2 s args wsX2_readItem RX2 := ⟨hx, hb, hml, hown, hts⟩
  have lk33 := hts (.fieldLink RX2 33 "FogGuides$TextReader" "token" "I") (by decide +kernel)
  have iw2 : ∀ w ∈ u_ws RX2 TX2 7, w ∈ wsX2_readItem := by decide +kernel
  have lk43 := hts (.fieldLink RX2 43 "FogGuides$TextReader" "value" "I") (by decide +kernel)
  have hJ16 : ∀ (v_place : Int32) (v_token : Int32) (v_tokenAt : Int32) (v_value : Int32) (v_fault : Int32) (m_cornerCount : Int32) (m_streetCount : Int32) (m_guideCount : Int32) (m_bellCount : Int32) (m_hand : Int32) (m_handTold : Int32) (m_marks : (Nat → Int32)) (m_ends : (Nat → Int32)) (m_farEnds : (Nat → Int32)) (m_lengths : (Nat → Int32)) (m_paces : (Nat → Int32)) (m_fees : (Nat → Int32)) (m_knows : (Nat → Int32)) (m_his : (Nat → Int32)) (m_bells : (Nat → Int32)) (z0 : Int32) (H : Heap) (locs : List Loc) (ls : Array Slot), f_X2_readItem_J16 fu v_text v_length v_place v_token v_tokenAt v_value v_fault m_cornerCount m_streetCount m_guideCount m_bellCount m_hand m_handTold m_marks m_ends m_farEnds m_lengths m_paces m_fees m_knows m_his m_bells z0 = some res → va_P D vwCl [oX2 q v_length v_place v_token v_tokenAt v_value v_fault, rA (q 1) cI 200 v_text, oX4 qm m_cornerCount m_streetCount m_guideCount m_bellCount m_hand m_handTold, rA (qm 7) cI 7 m_marks, rA (qm 8) cI 9 m_ends, rA (qm 9) cI 9 m_farEnds, rA (qm 10) cI 9 m_lengths, rA (qm 11) cI 4 m_paces, rA (qm 12) cI 4 m_fees, rA (qm 13) cI 4 m_knows, rA (qm 14) cI 4 m_his, rA (qm 15) cI 8 m_bells] H → va_D A [oX2 q v_length v_place v_token v_tokenAt v_value v_fault, rA (q 1) cI 200 v_text, oX4 qm m_cornerCount m_streetCount m_guideCount m_bellCount m_hand m_handTold, rA (qm 7) cI 7 m_marks, rA (qm 8) cI 9 m_ends, rA (qm 9) cI 9 m_farEnds, rA (qm 10) cI 9 m_lengths, rA (qm 11) cI 4 m_paces, rA (qm 12) cI 4 m_fees, rA (qm 13) cI 4 m_knows, rA (qm 14) cI 4 m_his, rA (qm 15) cI 8 m_bells] → va_S A s.heap H locs → lv_has ls 2 [(0, .ref (q 0)), (1, .ref (qm 0))] → W p l e rm_X2_readItem s m args below meth c H locs 0 0 Q (F0 m 16 ls [.int z0]) := by
    intro v_place v_token v_tokenAt v_value v_fault m_cornerCount m_streetCount m_guideCount m_bellCount m_hand m_handTold m_marks m_ends m_farEnds m_lengths m_paces m_fees m_knows m_his m_bells z0 H locs ls h hP hD hS hl
    unfold f_X2_readItem_J16 at h
    by_cases c1 : z0 = (99 : Int32)
    · refine lv_lookup (off := 52) (tgt := 68) hx hb dX2_readItem_16 (by decide) (by rw [c1]; decide) (by decide) ?_
      have h := (if_pos c1).symm.trans h
      refine lv_aload_n hx hb dX2_readItem_68 rfl (lv_at hl 0 rfl) ?_
      refine lv_aload_n hx hb dX2_readItem_69 rfl (lv_at hl 1 rfl) ?_
      obtain ⟨r2, hr2, h⟩ := xk_some h
      refine vx_VV (As := [.ref (qm 0)]) (rest := []) (wr := [rA (qm 8) cI 9 m_ends, rA (qm 9) cI 9 m_farEnds, rA (qm 10) cI 9 m_lengths, rA (qm 11) cI 4 m_paces, rA (qm 12) cI 4 m_fees, rA (qm 13) cI 4 m_knows, rA (qm 14) cI 4 m_his, rA (qm 15) cI 8 m_bells]) (wn := [oX2 q v_length r2.1 r2.2.1 r2.2.2.1 r2.2.2.2.1 r2.2.2.2.2.1, rA (q 1) cI 200 v_text, oX4 qm r2.2.2.2.2.2.1 m_streetCount m_guideCount m_bellCount m_hand m_handTold, rA (qm 7) cI 7 r2.2.2.2.2.2.2, rA (qm 8) cI 9 m_ends, rA (qm 9) cI 9 m_farEnds, rA (qm 10) cI 9 m_lengths, rA (qm 11) cI 4 m_paces, rA (qm 12) cI 4 m_fees, rA (qm 13) cI 4 m_knows, rA (qm 14) cI 4 m_his, rA (qm 15) cI 8 m_bells]) hFx (k_X2_readCorner l D cI cZ cT q qm H.size v_length v_place v_token v_tokenAt v_value v_fault m_cornerCount m_streetCount m_guideCount m_bellCount m_hand m_handTold v_text m_marks r2 fu hr2) (cwV 1 hts gX2_readItem_X2_readCorner rfl rfl rfl (by decide +kernel) ⟨Nat.le_of_ble_eq_true rfl, Nat.le_of_ble_eq_true rfl⟩) hK hP hD hS hA [0, 1, 2, 3] [4, 5, 6, 7, 8, 9, 10, 11] [8, 9, 10, 11, 0, 1, 2, 3, 4, 5, 6, 7] rfl rfl rfl rfl (by decide) rfl rfl 2 0 rfl rfl rfl hl.1 rfl (Nat.le_of_ble_eq_true rfl) dX2_readItem_70 ⟨Nat.zero_le _, Nat.zero_le _⟩ (fun H locs hP hD hS => ?_)
      refine lv_goto (tgt := 112) hx hb dX2_readItem_73 (by decide) ?_
      exact hret (r2.1, r2.2.1, r2.2.2.1, r2.2.2.2.1, r2.2.2.2.2.1, r2.2.2.2.2.2.1, m_streetCount, m_guideCount, m_bellCount, m_hand, m_handTold, r2.2.2.2.2.2.2, m_ends, m_farEnds, m_lengths, m_paces, m_fees, m_knows, m_his, m_bells) H locs _ ls (Option.some.inj h) hP hD hS dX2_readItem_112
    have h := (if_neg c1).symm.trans h
    by_cases c3 : z0 = (102 : Int32)
    · refine lv_lookup (off := 76) (tgt := 92) hx hb dX2_readItem_16 (by decide) (by rw [c3]; decide) (by decide) ?_
      have h := (if_pos c3).symm.trans h
      refine lv_aload_n hx hb dX2_readItem_92 rfl (lv_at hl 0 rfl) ?_
      refine lv_aload_n hx hb dX2_readItem_93 rfl (lv_at hl 1 rfl) ?_
      obtain ⟨r4, hr4, h⟩ := xk_some h
      refine vx_VV (As := [.ref (qm 0)]) (rest := []) (wr := [rA (qm 7) cI 7 m_marks, rA (qm 8) cI 9 m_ends, rA (qm 9) cI 9 m_farEnds, rA (qm 10) cI 9 m_lengths, rA (qm 11) cI 4 m_paces, rA (qm 12) cI 4 m_fees, rA (qm 13) cI 4 m_knows, rA (qm 14) cI 4 m_his]) (wn := [oX2 q v_length r4.1 r4.2.1 r4.2.2.1 r4.2.2.2.1 r4.2.2.2.2.1, rA (q 1) cI 200 v_text, oX4 qm m_cornerCount m_streetCount m_guideCount r4.2.2.2.2.2.1 m_hand m_handTold, rA (qm 7) cI 7 m_marks, rA (qm 8) cI 9 m_ends, rA (qm 9) cI 9 m_farEnds, rA (qm 10) cI 9 m_lengths, rA (qm 11) cI 4 m_paces, rA (qm 12) cI 4 m_fees, rA (qm 13) cI 4 m_knows, rA (qm 14) cI 4 m_his, rA (qm 15) cI 8 r4.2.2.2.2.2.2]) hFx (k_X2_readFog l D cI cZ cT q qm H.size v_length v_place v_token v_tokenAt v_value v_fault m_cornerCount m_streetCount m_guideCount m_bellCount m_hand m_handTold v_text m_bells r4 fu hr4) (cwV 1 hts gX2_readItem_X2_readFog rfl rfl rfl (by decide +kernel) ⟨Nat.le_of_ble_eq_true rfl, Nat.le_of_ble_eq_true rfl⟩) hK hP hD hS hA [0, 1, 2, 11] [3, 4, 5, 6, 7, 8, 9, 10] [8, 9, 10, 0, 1, 2, 3, 4, 5, 6, 7, 11] rfl rfl rfl rfl (by decide) rfl rfl 2 0 rfl rfl rfl hl.1 rfl (Nat.le_of_ble_eq_true rfl) dX2_readItem_94 ⟨Nat.zero_le _, Nat.zero_le _⟩ (fun H locs hP hD hS => ?_)
      refine lv_goto (tgt := 112) hx hb dX2_readItem_97 (by decide) ?_
      exact hret (r4.1, r4.2.1, r4.2.2.1, r4.2.2.2.1, r4.2.2.2.2.1, m_cornerCount, m_streetCount, m_guideCount, r4.2.2.2.2.2.1, m_hand, m_handTold, m_marks, m_ends, m_farEnds, m_lengths, m_paces, m_fees, m_knows, m_his, r4.2.2.2.2.2.2) H locs _ ls (Option.some.inj h) hP hD hS dX2_readItem_112
    have h := (if_neg c3).symm.trans h
    by_cases c5 : z0 = (103 : Int32)
    · refine lv_lookup (off := 68) (tgt := 84) hx hb dX2_readItem_16 (by decide) (by rw [c5]; decide) (by decide) ?_
      have h := (if_pos c5).symm.trans h
      refine lv_aload_n hx hb dX2_readItem_84 rfl (lv_at hl 0 rfl) ?_
      refine lv_aload_n hx hb dX2_readItem_85 rfl (lv_at hl 1 rfl) ?_
      obtain ⟨r6, hr6, h⟩ := xk_some h
      refine vx_VV (As := [.ref (qm 0)]) (rest := []) (wr := [rA (qm 7) cI 7 m_marks, rA (qm 8) cI 9 m_ends, rA (qm 9) cI 9 m_farEnds, rA (qm 10) cI 9 m_lengths, rA (qm 15) cI 8 m_bells]) (wn := [oX2 q v_length r6.1 r6.2.1 r6.2.2.1 r6.2.2.2.1 r6.2.2.2.2.1, rA (q 1) cI 200 v_text, oX4 qm m_cornerCount m_streetCount r6.2.2.2.2.2.1 m_bellCount m_hand m_handTold, rA (qm 7) cI 7 m_marks, rA (qm 8) cI 9 m_ends, rA (qm 9) cI 9 m_farEnds, rA (qm 10) cI 9 m_lengths, rA (qm 11) cI 4 r6.2.2.2.2.2.2.1, rA (qm 12) cI 4 r6.2.2.2.2.2.2.2.1, rA (qm 13) cI 4 r6.2.2.2.2.2.2.2.2.1, rA (qm 14) cI 4 r6.2.2.2.2.2.2.2.2.2, rA (qm 15) cI 8 m_bells]) hFx (k_X2_readGuide l D cI cZ cT q qm H.size v_length v_place v_token v_tokenAt v_value v_fault m_cornerCount m_streetCount m_guideCount m_bellCount m_hand m_handTold v_text m_paces m_fees m_knows m_his r6 fu hr6) (cwV 1 hts gX2_readItem_X2_readGuide rfl rfl rfl (by decide +kernel) ⟨Nat.le_of_ble_eq_true rfl, Nat.le_of_ble_eq_true rfl⟩) hK hP hD hS hA [0, 1, 2, 7, 8, 9, 10] [3, 4, 5, 6, 11] [5, 6, 7, 0, 1, 2, 3, 8, 9, 10, 11, 4] rfl rfl rfl rfl (by decide) rfl rfl 2 0 rfl rfl rfl hl.1 rfl (Nat.le_of_ble_eq_true rfl) dX2_readItem_86 ⟨Nat.zero_le _, Nat.zero_le _⟩ (fun H locs hP hD hS => ?_)
      refine lv_goto (tgt := 112) hx hb dX2_readItem_89 (by decide) ?_
      exact hret (r6.1, r6.2.1, r6.2.2.1, r6.2.2.2.1, r6.2.2.2.2.1, m_cornerCount, m_streetCount, r6.2.2.2.2.2.1, m_bellCount, m_hand, m_handTold, m_marks, m_ends, m_farEnds, m_lengths, r6.2.2.2.2.2.2.1, r6.2.2.2.2.2.2.2.1, r6.2.2.2.2.2.2.2.2.1, r6.2.2.2.2.2.2.2.2.2, m_bells) H locs _ ls (Option.some.inj h) hP hD hS dX2_readItem_112
    have h := (if_neg c5).symm.trans h
    by_cases c7 : z0 = (104 : Int32)
    · refine lv_lookup (off := 84) (tgt := 100) hx hb dX2_readItem_16 (by decide) (by rw [c7]; decide) (by decide) ?_
      have h := (if_pos c7).symm.trans h
      refine lv_aload_n hx hb dX2_readItem_100 rfl (lv_at hl 0 rfl) ?_
      refine lv_aload_n hx hb dX2_readItem_101 rfl (lv_at hl 1 rfl) ?_
      obtain ⟨r8, hr8, h⟩ := xk_some h
      refine vx_VV (As := [.ref (qm 0)]) (rest := []) (wr := [rA (qm 7) cI 7 m_marks, rA (qm 8) cI 9 m_ends, rA (qm 9) cI 9 m_farEnds, rA (qm 10) cI 9 m_lengths, rA (qm 11) cI 4 m_paces, rA (qm 12) cI 4 m_fees, rA (qm 13) cI 4 m_knows, rA (qm 14) cI 4 m_his, rA (qm 15) cI 8 m_bells]) (wn := [oX2 q v_length r8.1 r8.2.1 r8.2.2.1 r8.2.2.2.1 r8.2.2.2.2.1, rA (q 1) cI 200 v_text, oX4 qm m_cornerCount m_streetCount m_guideCount m_bellCount r8.2.2.2.2.2.1 r8.2.2.2.2.2.2, rA (qm 7) cI 7 m_marks, rA (qm 8) cI 9 m_ends, rA (qm 9) cI 9 m_farEnds, rA (qm 10) cI 9 m_lengths, rA (qm 11) cI 4 m_paces, rA (qm 12) cI 4 m_fees, rA (qm 13) cI 4 m_knows, rA (qm 14) cI 4 m_his, rA (qm 15) cI 8 m_bells]) hFx (k_X2_readHand l D cI cZ cT q qm H.size v_length v_place v_token v_tokenAt v_value v_fault m_cornerCount m_streetCount m_guideCount m_bellCount m_hand m_handTold v_text r8 fu hr8) (cwV 1 hts gX2_readItem_X2_readHand rfl rfl rfl (by decide +kernel) ⟨Nat.le_of_ble_eq_true rfl, Nat.le_of_ble_eq_true rfl⟩) hK hP hD hS hA [0, 1, 2] [3, 4, 5, 6, 7, 8, 9, 10, 11] [9, 10, 11, 0, 1, 2, 3, 4, 5, 6, 7, 8] rfl rfl rfl rfl (by decide) rfl rfl 2 0 rfl rfl rfl hl.1 rfl (Nat.le_of_ble_eq_true rfl) dX2_readItem_102 ⟨Nat.zero_le _, Nat.zero_le _⟩ (fun H locs hP hD hS => ?_)
      refine lv_goto (tgt := 112) hx hb dX2_readItem_105 (by decide) ?_
      exact hret (r8.1, r8.2.1, r8.2.2.1, r8.2.2.2.1, r8.2.2.2.2.1, m_cornerCount, m_streetCount, m_guideCount, m_bellCount, r8.2.2.2.2.2.1, r8.2.2.2.2.2.2, m_marks, m_ends, m_farEnds, m_lengths, m_paces, m_fees, m_knows, m_his, m_bells) H locs _ ls (Option.some.inj h) hP hD hS dX2_readItem_112
    have h := (if_neg c7).symm.trans h
    by_cases c9 : z0 = (115 : Int32)
    · refine lv_lookup (off := 60) (tgt := 76) hx hb dX2_readItem_16 (by decide) (by rw [c9]; decide) (by decide) ?_
      have h := (if_pos c9).symm.trans h
      refine lv_aload_n hx hb dX2_readItem_76 rfl (lv_at hl 0 rfl) ?_
      refine lv_aload_n hx hb dX2_readItem_77 rfl (lv_at hl 1 rfl) ?_
      obtain ⟨r10, hr10, h⟩ := xk_some h
      refine vx_VV (As := [.ref (qm 0)]) (rest := []) (wr := [rA (qm 7) cI 7 m_marks, rA (qm 11) cI 4 m_paces, rA (qm 12) cI 4 m_fees, rA (qm 13) cI 4 m_knows, rA (qm 14) cI 4 m_his, rA (qm 15) cI 8 m_bells]) (wn := [oX2 q v_length r10.1 r10.2.1 r10.2.2.1 r10.2.2.2.1 r10.2.2.2.2.1, rA (q 1) cI 200 v_text, oX4 qm m_cornerCount r10.2.2.2.2.2.1 m_guideCount m_bellCount m_hand m_handTold, rA (qm 7) cI 7 m_marks, rA (qm 8) cI 9 r10.2.2.2.2.2.2.1, rA (qm 9) cI 9 r10.2.2.2.2.2.2.2.1, rA (qm 10) cI 9 r10.2.2.2.2.2.2.2.2, rA (qm 11) cI 4 m_paces, rA (qm 12) cI 4 m_fees, rA (qm 13) cI 4 m_knows, rA (qm 14) cI 4 m_his, rA (qm 15) cI 8 m_bells]) hFx (k_X2_readStreet l D cI cZ cT q qm H.size v_length v_place v_token v_tokenAt v_value v_fault m_cornerCount m_streetCount m_guideCount m_bellCount m_hand m_handTold v_text m_ends m_farEnds m_lengths r10 fu hr10) (cwV 1 hts gX2_readItem_X2_readStreet rfl rfl rfl (by decide +kernel) ⟨Nat.le_of_ble_eq_true rfl, Nat.le_of_ble_eq_true rfl⟩) hK hP hD hS hA [0, 1, 2, 4, 5, 6] [3, 7, 8, 9, 10, 11] [6, 7, 8, 0, 9, 10, 11, 1, 2, 3, 4, 5] rfl rfl rfl rfl (by decide) rfl rfl 2 0 rfl rfl rfl hl.1 rfl (Nat.le_of_ble_eq_true rfl) dX2_readItem_78 ⟨Nat.zero_le _, Nat.zero_le _⟩ (fun H locs hP hD hS => ?_)
      refine lv_goto (tgt := 112) hx hb dX2_readItem_81 (by decide) ?_
      exact hret (r10.1, r10.2.1, r10.2.2.1, r10.2.2.2.1, r10.2.2.2.2.1, m_cornerCount, r10.2.2.2.2.2.1, m_guideCount, m_bellCount, m_hand, m_handTold, m_marks, r10.2.2.2.2.2.2.1, r10.2.2.2.2.2.2.2.1, r10.2.2.2.2.2.2.2.2, m_paces, m_fees, m_knows, m_his, m_bells) H locs _ ls (Option.some.inj h) hP hD hS dX2_readItem_112
    have h := (if_neg c9).symm.trans h
    refine lv_lookup (off := 92) (tgt := 108) hx hb dX2_readItem_16 (by decide) (sw_look _ (fun q hq => ?_)) (by decide) ?_
    · have hq : q ∈ ([(99, 52), (102, 76), (103, 68), (104, 84), (115, 60)] : List (Int × Int)) := hq
      simp only [List.mem_cons, List.not_mem_nil, or_false] at hq
      rcases hq with rfl | rfl | rfl | rfl | rfl
      · exact c1
      · exact c3
      · exact c5
      · exact c7
      · exact c9
    · refine lv_aload_n hx hb dX2_readItem_108 rfl (lv_at hl 0 rfl) ?_
      obtain ⟨r11, hr11, h⟩ := xk_some h
      refine vx_VV (As := []) (rest := []) (wr := [rA (q 1) cI 200 v_text, oX4 qm m_cornerCount m_streetCount m_guideCount m_bellCount m_hand m_handTold, rA (qm 7) cI 7 m_marks, rA (qm 8) cI 9 m_ends, rA (qm 9) cI 9 m_farEnds, rA (qm 10) cI 9 m_lengths, rA (qm 11) cI 4 m_paces, rA (qm 12) cI 4 m_fees, rA (qm 13) cI 4 m_knows, rA (qm 14) cI 4 m_his, rA (qm 15) cI 8 m_bells]) (wn := [oX2 q v_length v_place v_token v_tokenAt v_value r11, rA (q 1) cI 200 v_text, oX4 qm m_cornerCount m_streetCount m_guideCount m_bellCount m_hand m_handTold, rA (qm 7) cI 7 m_marks, rA (qm 8) cI 9 m_ends, rA (qm 9) cI 9 m_farEnds, rA (qm 10) cI 9 m_lengths, rA (qm 11) cI 4 m_paces, rA (qm 12) cI 4 m_fees, rA (qm 13) cI 4 m_knows, rA (qm 14) cI 4 m_his, rA (qm 15) cI 8 m_bells]) hFx (k_X2_refuseToken l D cI cZ cT q H.size v_length v_place v_token v_tokenAt v_value v_fault r11 hr11) (cwV 0 hts gX2_readItem_X2_refuseToken rfl rfl rfl (by decide +kernel) ⟨Nat.le_of_ble_eq_true rfl, Nat.le_of_ble_eq_true rfl⟩) hK hP hD hS hA [0] [1, 2, 3, 4, 5, 6, 7, 8, 9, 10, 11] [11, 0, 1, 2, 3, 4, 5, 6, 7, 8, 9, 10] rfl rfl rfl rfl (by decide) rfl rfl 2 0 rfl rfl rfl hl.1 rfl (Nat.le_of_ble_eq_true rfl) dX2_readItem_109 ⟨Nat.zero_le _, Nat.zero_le _⟩ (fun H locs hP hD hS => ?_)
      exact hret (v_place, v_token, v_tokenAt, v_value, r11, m_cornerCount, m_streetCount, m_guideCount, m_bellCount, m_hand, m_handTold, m_marks, m_ends, m_farEnds, m_lengths, m_paces, m_fees, m_knows, m_his, m_bells) H locs _ ls (Option.some.inj h) hP hD hS dX2_readItem_112
  have h := hf
  unfold f_X2_readItem at h
  obtain ⟨H, eH⟩ : ∃ H, H = s.heap := ⟨_, rfl⟩
  rw [← eH] at hP ⊢
  obtain ⟨locs, el⟩ : ∃ locs : List Loc, locs = [] := ⟨_, rfl⟩
  rw [← el] at hS ⊢
  have hS : va_S A s.heap H locs := by rw [eH]; exact hS
  refine lv_aload_n hx hb dX2_readItem_0 rfl (lv_at hl 0 rfl) ?_
  refine va_get (C := RX2) (T := TX2) (N := 7) (v := .int v_token) hx hb hts iw2 hown hK hP 0 rfl rfl 3 (Nat.le_of_ble_eq_true rfl) lk33 (fun _ h9 => h9) rfl dX2_readItem_1 ?_
  refine lv_iconst (v := 1) hx hb dX2_readItem_4 (by decide) ?_
  refine lv_icmp_ne (tgt := 15) hx hb dX2_readItem_5 (by decide) (fun c12 => ?_) (fun c12 => ?_)
  · have h := (if_neg c12).symm.trans h
    refine lv_iconst (v := 0) hx hb dX2_readItem_15 (by decide) ?_
    exact hJ16 v_place v_token v_tokenAt v_value v_fault m_cornerCount m_streetCount m_guideCount m_bellCount m_hand m_handTold m_marks m_ends m_farEnds m_lengths m_paces m_fees m_knows m_his m_bells (0 : Int32) H locs ls h hP hD hS (lv_sub hl [0, 1] rfl)
  · have h := (if_pos c12).symm.trans h
    refine lv_aload_n hx hb dX2_readItem_8 rfl (lv_at hl 0 rfl) ?_
    refine va_get (C := RX2) (T := TX2) (N := 7) (v := .int v_value) hx hb hts iw2 hown hK hP 0 rfl rfl 5 (Nat.le_of_ble_eq_true rfl) lk43 (fun _ h9 => h9) rfl dX2_readItem_9 ?_
    refine lv_goto (tgt := 16) hx hb dX2_readItem_12 (by decide) ?_
    exact hJ16 v_place v_token v_tokenAt v_value v_fault m_cornerCount m_streetCount m_guideCount m_bellCount m_hand m_handTold m_marks m_ends m_farEnds m_lengths m_paces m_fees m_knows m_his m_bells v_value H locs ls h hP hD hS (lv_sub hl [0, 1] rfl)
abbrev rm_X2_readInto : Room := { frames := 5, cells := 0, slots := 0, locals := 107 }
set_option maxHeartbeats 4000000 in
set_option maxRecDepth 100000 in
theorem k_X2_readInto (l : Launch) (D : va_G) (cI cZ cT : ClassId) (q : Nat → Nat) (qm : Nat → Nat) (sz : Nat) (v_length : Int32) (v_place : Int32) (v_token : Int32) (v_tokenAt : Int32) (v_value : Int32) (v_fault : Int32) (m_cornerCount : Int32) (m_streetCount : Int32) (m_guideCount : Int32) (m_bellCount : Int32) (m_hand : Int32) (m_handTold : Int32) (v_text : Nat → Int32) (m_marks : Nat → Int32) (m_ends : Nat → Int32) (m_farEnds : Nat → Int32) (m_lengths : Nat → Int32) (m_paces : Nat → Int32) (m_fees : Nat → Int32) (m_knows : Nat → Int32) (m_his : Nat → Int32) (m_bells : Nat → Int32) (res : R_X2_readInto) (fu : Nat) (hf : f_X2_readInto fu v_text v_length v_place v_token v_tokenAt v_value v_fault m_cornerCount m_streetCount m_guideCount m_bellCount m_hand m_handTold m_marks m_ends m_farEnds m_lengths m_paces m_fees m_knows m_his m_bells = some res) : Met l yX2_readInto wsX2_readInto rm_X2_readInto (cPre D (tyz cI cZ cT) [.ref (q 0), .ref (qm 0)] sz [oX2 q v_length v_place v_token v_tokenAt v_value v_fault, rA (q 1) cI 200 v_text, oX4 qm m_cornerCount m_streetCount m_guideCount m_bellCount m_hand m_handTold, rA (qm 7) cI 7 m_marks, rA (qm 8) cI 9 m_ends, rA (qm 9) cI 9 m_farEnds, rA (qm 10) cI 9 m_lengths, rA (qm 11) cI 4 m_paces, rA (qm 12) cI 4 m_fees, rA (qm 13) cI 4 m_knows, rA (qm 14) cI 4 m_his, rA (qm 15) cI 8 m_bells]) (cPi D (tyz cI cZ cT) (fun (r : Int32) (u : Int32 × Int32 × Int32 × Int32 × Int32 × Int32 × Int32 × Int32 × Int32 × Int32 × Int32 × (Nat → Int32) × (Nat → Int32) × (Nat → Int32) × (Nat → Int32) × (Nat → Int32) × (Nat → Int32) × (Nat → Int32) × (Nat → Int32) × (Nat → Int32)) => (r, u) = res) (fun u => [oX2 q v_length u.1 u.2.1 u.2.2.1 u.2.2.2.1 u.2.2.2.2.1, rA (q 1) cI 200 v_text, oX4 qm u.2.2.2.2.2.1 u.2.2.2.2.2.2.1 u.2.2.2.2.2.2.2.1 u.2.2.2.2.2.2.2.2.1 u.2.2.2.2.2.2.2.2.2.1 u.2.2.2.2.2.2.2.2.2.2.1, rA (qm 7) cI 7 u.2.2.2.2.2.2.2.2.2.2.2.1, rA (qm 8) cI 9 u.2.2.2.2.2.2.2.2.2.2.2.2.1, rA (qm 9) cI 9 u.2.2.2.2.2.2.2.2.2.2.2.2.2.1, rA (qm 10) cI 9 u.2.2.2.2.2.2.2.2.2.2.2.2.2.2.1, rA (qm 11) cI 4 u.2.2.2.2.2.2.2.2.2.2.2.2.2.2.2.1, rA (qm 12) cI 4 u.2.2.2.2.2.2.2.2.2.2.2.2.2.2.2.2.1, rA (qm 13) cI 4 u.2.2.2.2.2.2.2.2.2.2.2.2.2.2.2.2.2.1, rA (qm 14) cI 4 u.2.2.2.2.2.2.2.2.2.2.2.2.2.2.2.2.2.2.1, rA (qm 15) cI 8 u.2.2.2.2.2.2.2.2.2.2.2.2.2.2.2.2.2.2.2]) [oX2 q v_length v_place v_token v_tokenAt v_value v_fault, rA (q 1) cI 200 v_text, oX4 qm m_cornerCount m_streetCount m_guideCount m_bellCount m_hand m_handTold, rA (qm 7) cI 7 m_marks, rA (qm 8) cI 9 m_ends, rA (qm 9) cI 9 m_farEnds, rA (qm 10) cI 9 m_lengths, rA (qm 11) cI 4 m_paces, rA (qm 12) cI 4 m_fees, rA (qm 13) cI 4 m_knows, rA (qm 14) cI 4 m_his, rA (qm 15) cI 8 m_bells] sz) 0 0 (va_A [oX2 q v_length v_place v_token v_tokenAt v_value v_fault, rA (q 1) cI 200 v_text, oX4 qm m_cornerCount m_streetCount m_guideCount m_bellCount m_hand m_handTold, rA (qm 7) cI 7 m_marks, rA (qm 8) cI 9 m_ends, rA (qm 9) cI 9 m_farEnds, rA (qm 10) cI 9 m_lengths, rA (qm 11) cI 4 m_paces, rA (qm 12) cI 4 m_fees, rA (qm 13) cI 4 m_knows, rA (qm 14) cI 4 m_his, rA (qm 15) cI 8 m_bells] sz) := by
  refine vx_meth_i (by decide) rfl (Nat.le_of_ble_eq_true rfl) ?_
  intro p e s m args below meth c A Q hx hb hml hown hts hK hP hD hA hS hret ls hl
  have hown : s.vm.findClass RX2 = some m.cls := hown
  have hl : lv_has ls 4 [(0, .ref (q 0)), (1, .ref (qm 0))] := hl
  have hFx : CallFix p m c cX2_readInto 4 s args wsX2_readInto RX2 := ⟨hx, hb, hml, hown, hts⟩
  have lk33 := hts (.fieldLink RX2 33 "FogGuides$TextReader" "token" "I") (by decide +kernel)
  have iw2 : ∀ w ∈ u_ws RX2 TX2 7, w ∈ wsX2_readInto := by decide +kernel
  have lk27 := hts (.fieldLink RX2 27 "FogGuides$TextReader" "fault" "I") (by decide +kernel)
  have lk24 := hts (.fieldLink RX2 24 "FogGuides$TextReader" "place" "I") (by decide +kernel)
  have hJ69 : ∀ (v_place : Int32) (v_token : Int32) (v_tokenAt : Int32) (v_value : Int32) (v_fault : Int32) (m_cornerCount : Int32) (m_streetCount : Int32) (m_guideCount : Int32) (m_bellCount : Int32) (m_hand : Int32) (m_handTold : Int32) (m_marks : (Nat → Int32)) (m_ends : (Nat → Int32)) (m_farEnds : (Nat → Int32)) (m_lengths : (Nat → Int32)) (m_paces : (Nat → Int32)) (m_fees : (Nat → Int32)) (m_knows : (Nat → Int32)) (m_his : (Nat → Int32)) (m_bells : (Nat → Int32)) (x2 : Int32) (H : Heap) (locs : List Loc) (ls : Array Slot), f_X2_readInto_J69 fu v_text v_length v_place v_token v_tokenAt v_value v_fault m_cornerCount m_streetCount m_guideCount m_bellCount m_hand m_handTold m_marks m_ends m_farEnds m_lengths m_paces m_fees m_knows m_his m_bells x2 = some res → va_P D vwCl [oX2 q v_length v_place v_token v_tokenAt v_value v_fault, rA (q 1) cI 200 v_text, oX4 qm m_cornerCount m_streetCount m_guideCount m_bellCount m_hand m_handTold, rA (qm 7) cI 7 m_marks, rA (qm 8) cI 9 m_ends, rA (qm 9) cI 9 m_farEnds, rA (qm 10) cI 9 m_lengths, rA (qm 11) cI 4 m_paces, rA (qm 12) cI 4 m_fees, rA (qm 13) cI 4 m_knows, rA (qm 14) cI 4 m_his, rA (qm 15) cI 8 m_bells] H → va_D A [oX2 q v_length v_place v_token v_tokenAt v_value v_fault, rA (q 1) cI 200 v_text, oX4 qm m_cornerCount m_streetCount m_guideCount m_bellCount m_hand m_handTold, rA (qm 7) cI 7 m_marks, rA (qm 8) cI 9 m_ends, rA (qm 9) cI 9 m_farEnds, rA (qm 10) cI 9 m_lengths, rA (qm 11) cI 4 m_paces, rA (qm 12) cI 4 m_fees, rA (qm 13) cI 4 m_knows, rA (qm 14) cI 4 m_his, rA (qm 15) cI 8 m_bells] → va_S A s.heap H locs → lv_has ls 4 [(1, .ref (qm 0)), (2, .int x2)] → W p l e rm_X2_readInto s m args below meth c H locs 0 0 Q (F0 m 69 ls []) := by
    intro v_place v_token v_tokenAt v_value v_fault m_cornerCount m_streetCount m_guideCount m_bellCount m_hand m_handTold m_marks m_ends m_farEnds m_lengths m_paces m_fees m_knows m_his m_bells x2 H locs ls h hP hD hS hl
    unfold f_X2_readInto_J69 at h
    refine lv_aload_n hx hb dX2_readInto_69 rfl (lv_at hl 0 rfl) ?_
    obtain ⟨r1, hr1, h⟩ := xk_some h
    refine vx_VV (As := []) (rest := []) (wr := [oX2 q v_length v_place v_token v_tokenAt v_value v_fault, rA (q 1) cI 200 v_text, rA (qm 7) cI 7 m_marks, rA (qm 8) cI 9 m_ends, rA (qm 9) cI 9 m_farEnds, rA (qm 10) cI 9 m_lengths, rA (qm 11) cI 4 m_paces, rA (qm 12) cI 4 m_fees, rA (qm 15) cI 8 m_bells]) (wn := [oX2 q v_length v_place v_token v_tokenAt v_value v_fault, rA (q 1) cI 200 v_text, oX4 qm m_cornerCount m_streetCount m_guideCount m_bellCount m_hand m_handTold, rA (qm 7) cI 7 m_marks, rA (qm 8) cI 9 m_ends, rA (qm 9) cI 9 m_farEnds, rA (qm 10) cI 9 m_lengths, rA (qm 11) cI 4 m_paces, rA (qm 12) cI 4 m_fees, rA (qm 13) cI 4 r1.1, rA (qm 14) cI 4 r1.2, rA (qm 15) cI 8 m_bells]) hFx (k_X4_dropWhatIsNotThere l D cI cZ cT qm H.size m_cornerCount m_streetCount m_guideCount m_bellCount m_hand m_handTold m_knows m_his r1 fu hr1) (cwV 0 hts gX2_readInto_X4_dropWhatIsNotThere rfl rfl rfl (by decide +kernel) ⟨Nat.le_of_ble_eq_true rfl, Nat.le_of_ble_eq_true rfl⟩) hK hP hD hS hA [2, 9, 10] [0, 1, 3, 4, 5, 6, 7, 8, 11] [0, 1, 9, 2, 3, 4, 5, 6, 7, 10, 11, 8] rfl rfl rfl rfl (by decide) rfl rfl 4 0 rfl rfl rfl hl.1 rfl (Nat.le_of_ble_eq_true rfl) dX2_readInto_70 ⟨Nat.zero_le _, Nat.zero_le _⟩ (fun H locs hP hD hS => ?_)
    refine lv_iload_n hx hb dX2_readInto_73 rfl (lv_at hl 1 rfl) ?_
    exact hret x2 (v_place, v_token, v_tokenAt, v_value, v_fault, m_cornerCount, m_streetCount, m_guideCount, m_bellCount, m_hand, m_handTold, m_marks, m_ends, m_farEnds, m_lengths, m_paces, m_fees, r1.1, r1.2, m_bells) H locs _ ls (Option.some.inj h) hP hD hS dX2_readInto_74
  have hL18 : ∀ (n18 : Nat), ∀ (v_place : Int32) (v_token : Int32) (v_tokenAt : Int32) (v_value : Int32) (v_fault : Int32) (m_cornerCount : Int32) (m_streetCount : Int32) (m_guideCount : Int32) (m_bellCount : Int32) (m_hand : Int32) (m_handTold : Int32) (m_marks : (Nat → Int32)) (m_ends : (Nat → Int32)) (m_farEnds : (Nat → Int32)) (m_lengths : (Nat → Int32)) (m_paces : (Nat → Int32)) (m_fees : (Nat → Int32)) (m_knows : (Nat → Int32)) (m_his : (Nat → Int32)) (m_bells : (Nat → Int32)) (x2 : Int32) (x3 : Int32) (H : Heap) (locs : List Loc) (ls : Array Slot), f_X2_readInto_L18 fu n18 v_text v_length v_place v_token v_tokenAt v_value v_fault m_cornerCount m_streetCount m_guideCount m_bellCount m_hand m_handTold m_marks m_ends m_farEnds m_lengths m_paces m_fees m_knows m_his m_bells x2 x3 = some res → va_P D vwCl [oX2 q v_length v_place v_token v_tokenAt v_value v_fault, rA (q 1) cI 200 v_text, oX4 qm m_cornerCount m_streetCount m_guideCount m_bellCount m_hand m_handTold, rA (qm 7) cI 7 m_marks, rA (qm 8) cI 9 m_ends, rA (qm 9) cI 9 m_farEnds, rA (qm 10) cI 9 m_lengths, rA (qm 11) cI 4 m_paces, rA (qm 12) cI 4 m_fees, rA (qm 13) cI 4 m_knows, rA (qm 14) cI 4 m_his, rA (qm 15) cI 8 m_bells] H → va_D A [oX2 q v_length v_place v_token v_tokenAt v_value v_fault, rA (q 1) cI 200 v_text, oX4 qm m_cornerCount m_streetCount m_guideCount m_bellCount m_hand m_handTold, rA (qm 7) cI 7 m_marks, rA (qm 8) cI 9 m_ends, rA (qm 9) cI 9 m_farEnds, rA (qm 10) cI 9 m_lengths, rA (qm 11) cI 4 m_paces, rA (qm 12) cI 4 m_fees, rA (qm 13) cI 4 m_knows, rA (qm 14) cI 4 m_his, rA (qm 15) cI 8 m_bells] → va_S A s.heap H locs → lv_has ls 4 [(0, .ref (q 0)), (1, .ref (qm 0)), (2, .int x2), (3, .int x3)] → W p l e rm_X2_readInto s m args below meth c H locs 0 0 Q (F0 m 18 ls []) := by
    intro n18
    induction n18 with
    | zero =>
      intro v_place v_token v_tokenAt v_value v_fault m_cornerCount m_streetCount m_guideCount m_bellCount m_hand m_handTold m_marks m_ends m_farEnds m_lengths m_paces m_fees m_knows m_his m_bells x2 x3 H locs ls h hP hD hS hl
      cases (show (none : Option R_X2_readInto) = some res from h)
    | succ n18 ih18 =>
      intro v_place v_token v_tokenAt v_value v_fault m_cornerCount m_streetCount m_guideCount m_bellCount m_hand m_handTold m_marks m_ends m_farEnds m_lengths m_paces m_fees m_knows m_his m_bells x2 x3 H locs ls h hP hD hS hl
      have h : f_X2_readInto_L18b fu (f_X2_readInto_L18 fu n18) v_text v_length v_place v_token v_tokenAt v_value v_fault m_cornerCount m_streetCount m_guideCount m_bellCount m_hand m_handTold m_marks m_ends m_farEnds m_lengths m_paces m_fees m_knows m_his m_bells x2 x3 = some res := h
      unfold f_X2_readInto_L18b at h
      refine lv_iload_n hx hb dX2_readInto_18 rfl (lv_at hl 3 rfl) ?_
      refine lv_sipush (v := 200) hx hb dX2_readInto_19 (by decide) ?_
      refine lv_icmp_gt (tgt := 69) hx hb dX2_readInto_22 (by decide) (fun c2 => ?_) (fun c2 => ?_)
      · have h := (if_pos c2).symm.trans h
        exact hJ69 v_place v_token v_tokenAt v_value v_fault m_cornerCount m_streetCount m_guideCount m_bellCount m_hand m_handTold m_marks m_ends m_farEnds m_lengths m_paces m_fees m_knows m_his m_bells x2 H locs ls h hP hD hS (lv_sub hl [1, 2] rfl)
      · have h := (if_neg c2).symm.trans h
        refine lv_aload_n hx hb dX2_readInto_25 rfl (lv_at hl 0 rfl) ?_
        obtain ⟨r3, hr3, h⟩ := xk_some h
        refine vx_VV (As := []) (rest := []) (wr := [oX4 qm m_cornerCount m_streetCount m_guideCount m_bellCount m_hand m_handTold, rA (qm 7) cI 7 m_marks, rA (qm 8) cI 9 m_ends, rA (qm 9) cI 9 m_farEnds, rA (qm 10) cI 9 m_lengths, rA (qm 11) cI 4 m_paces, rA (qm 12) cI 4 m_fees, rA (qm 13) cI 4 m_knows, rA (qm 14) cI 4 m_his, rA (qm 15) cI 8 m_bells]) (wn := [oX2 q v_length r3.1 r3.2.1 r3.2.2.1 r3.2.2.2 v_fault, rA (q 1) cI 200 v_text, oX4 qm m_cornerCount m_streetCount m_guideCount m_bellCount m_hand m_handTold, rA (qm 7) cI 7 m_marks, rA (qm 8) cI 9 m_ends, rA (qm 9) cI 9 m_farEnds, rA (qm 10) cI 9 m_lengths, rA (qm 11) cI 4 m_paces, rA (qm 12) cI 4 m_fees, rA (qm 13) cI 4 m_knows, rA (qm 14) cI 4 m_his, rA (qm 15) cI 8 m_bells]) hFx (k_X2_nextToken l D cI cZ cT q H.size v_length v_place v_token v_tokenAt v_value v_fault v_text r3 fu hr3) (cwV 0 hts gX2_readInto_X2_nextToken rfl rfl rfl (by decide +kernel) ⟨Nat.le_of_ble_eq_true rfl, Nat.le_of_ble_eq_true rfl⟩) hK hP hD hS hA [0, 1] [2, 3, 4, 5, 6, 7, 8, 9, 10, 11] [10, 11, 0, 1, 2, 3, 4, 5, 6, 7, 8, 9] rfl rfl rfl rfl (by decide) rfl rfl 2 0 rfl rfl rfl hl.1 rfl (Nat.le_of_ble_eq_true rfl) dX2_readInto_26 ⟨Nat.zero_le _, Nat.zero_le _⟩ (fun H locs hP hD hS => ?_)
        refine lv_aload_n hx hb dX2_readInto_29 rfl (lv_at hl 0 rfl) ?_
        refine va_get (C := RX2) (T := TX2) (N := 7) (v := .int r3.2.1) hx hb hts iw2 hown hK hP 0 rfl rfl 3 (Nat.le_of_ble_eq_true rfl) lk33 (fun _ h9 => h9) rfl dX2_readInto_30 ?_
        refine lv_if_ne (tgt := 39) hx hb dX2_readInto_33 (by decide) (fun c4 => ?_) (fun c4 => ?_)
        · have h := (if_neg c4).symm.trans h
          refine lv_aload_n hx hb dX2_readInto_39 rfl (lv_at hl 0 rfl) ?_
          refine lv_aload_n hx hb dX2_readInto_40 rfl (lv_at hl 1 rfl) ?_
          obtain ⟨r5, hr5, h⟩ := xk_some h
          refine vx_VV (As := [.ref (qm 0)]) (rest := []) (wr := []) (wn := [oX2 q v_length r5.1 r5.2.1 r5.2.2.1 r5.2.2.2.1 r5.2.2.2.2.1, rA (q 1) cI 200 v_text, oX4 qm r5.2.2.2.2.2.1 r5.2.2.2.2.2.2.1 r5.2.2.2.2.2.2.2.1 r5.2.2.2.2.2.2.2.2.1 r5.2.2.2.2.2.2.2.2.2.1 r5.2.2.2.2.2.2.2.2.2.2.1, rA (qm 7) cI 7 r5.2.2.2.2.2.2.2.2.2.2.2.1, rA (qm 8) cI 9 r5.2.2.2.2.2.2.2.2.2.2.2.2.1, rA (qm 9) cI 9 r5.2.2.2.2.2.2.2.2.2.2.2.2.2.1, rA (qm 10) cI 9 r5.2.2.2.2.2.2.2.2.2.2.2.2.2.2.1, rA (qm 11) cI 4 r5.2.2.2.2.2.2.2.2.2.2.2.2.2.2.2.1, rA (qm 12) cI 4 r5.2.2.2.2.2.2.2.2.2.2.2.2.2.2.2.2.1, rA (qm 13) cI 4 r5.2.2.2.2.2.2.2.2.2.2.2.2.2.2.2.2.2.1, rA (qm 14) cI 4 r5.2.2.2.2.2.2.2.2.2.2.2.2.2.2.2.2.2.2.1, rA (qm 15) cI 8 r5.2.2.2.2.2.2.2.2.2.2.2.2.2.2.2.2.2.2.2]) hFx (k_X2_readItem l D cI cZ cT q qm H.size v_length r3.1 r3.2.1 r3.2.2.1 r3.2.2.2 v_fault m_cornerCount m_streetCount m_guideCount m_bellCount m_hand m_handTold v_text m_marks m_ends m_farEnds m_lengths m_paces m_fees m_knows m_his m_bells r5 fu hr5) (cwV 1 hts gX2_readInto_X2_readItem rfl rfl rfl (by decide +kernel) ⟨Nat.le_of_ble_eq_true rfl, Nat.le_of_ble_eq_true rfl⟩) hK hP hD hS hA [0, 1, 2, 3, 4, 5, 6, 7, 8, 9, 10, 11] [] [0, 1, 2, 3, 4, 5, 6, 7, 8, 9, 10, 11] rfl rfl rfl rfl (by decide) rfl rfl 2 0 rfl rfl rfl hl.1 rfl (Nat.le_of_ble_eq_true rfl) dX2_readInto_41 ⟨Nat.zero_le _, Nat.zero_le _⟩ (fun H locs hP hD hS => ?_)
          refine lv_aload_n hx hb dX2_readInto_44 rfl (lv_at hl 0 rfl) ?_
          refine va_get (C := RX2) (T := TX2) (N := 7) (v := .int r5.2.2.2.2.1) hx hb hts iw2 hown hK hP 0 rfl rfl 6 (Nat.le_of_ble_eq_true rfl) lk27 (fun _ h9 => h9) rfl dX2_readInto_45 ?_
          refine lv_iconst (v := (-1)) hx hb dX2_readInto_48 (by decide) ?_
          refine lv_icmp_eq (tgt := 60) hx hb dX2_readInto_49 (by decide) (fun c6 => ?_) (fun c6 => ?_)
          · have h := (if_pos c6).symm.trans h
            refine lv_iinc (v := x2 + 1) (lv' := [(2, .int (x2 + 1)), (0, .ref (q 0)), (1, .ref (qm 0)), (3, .int x3)]) hx hb dX2_readInto_60 hl (k := 2) rfl rfl (by decide) rfl (fun ls hl => ?_)
            refine lv_iinc (v := x3 + 1) (lv' := [(3, .int (x3 + 1)), (2, .int (x2 + 1)), (0, .ref (q 0)), (1, .ref (qm 0))]) hx hb dX2_readInto_63 hl (k := 3) rfl rfl (by decide) rfl (fun ls hl => ?_)
            refine lv_goto (tgt := 18) hx hb dX2_readInto_66 (by decide) ?_
            exact ih18 r5.1 r5.2.1 r5.2.2.1 r5.2.2.2.1 r5.2.2.2.2.1 r5.2.2.2.2.2.1 r5.2.2.2.2.2.2.1 r5.2.2.2.2.2.2.2.1 r5.2.2.2.2.2.2.2.2.1 r5.2.2.2.2.2.2.2.2.2.1 r5.2.2.2.2.2.2.2.2.2.2.1 r5.2.2.2.2.2.2.2.2.2.2.2.1 r5.2.2.2.2.2.2.2.2.2.2.2.2.1 r5.2.2.2.2.2.2.2.2.2.2.2.2.2.1 r5.2.2.2.2.2.2.2.2.2.2.2.2.2.2.1 r5.2.2.2.2.2.2.2.2.2.2.2.2.2.2.2.1 r5.2.2.2.2.2.2.2.2.2.2.2.2.2.2.2.2.1 r5.2.2.2.2.2.2.2.2.2.2.2.2.2.2.2.2.2.1 r5.2.2.2.2.2.2.2.2.2.2.2.2.2.2.2.2.2.2.1 r5.2.2.2.2.2.2.2.2.2.2.2.2.2.2.2.2.2.2.2 (x2 + 1) (x3 + 1) H locs ls h hP hD hS (lv_sub hl [2, 3, 1, 0] rfl)
          · have h := (if_neg c6).symm.trans h
            refine lv_bipush (v := (-10)) hx hb dX2_readInto_52 (by decide) ?_
            refine lv_aload_n hx hb dX2_readInto_54 rfl (lv_at hl 0 rfl) ?_
            refine va_get (C := RX2) (T := TX2) (N := 7) (v := .int r5.2.2.2.2.1) hx hb hts iw2 hown hK hP 0 rfl rfl 6 (Nat.le_of_ble_eq_true rfl) lk27 (fun _ h9 => h9) rfl dX2_readInto_55 ?_
            refine lv_isub hx hb dX2_readInto_58 ?_
            exact hret ((-10 : Int32) - r5.2.2.2.2.1) (r5.1, r5.2.1, r5.2.2.1, r5.2.2.2.1, r5.2.2.2.2.1, r5.2.2.2.2.2.1, r5.2.2.2.2.2.2.1, r5.2.2.2.2.2.2.2.1, r5.2.2.2.2.2.2.2.2.1, r5.2.2.2.2.2.2.2.2.2.1, r5.2.2.2.2.2.2.2.2.2.2.1, r5.2.2.2.2.2.2.2.2.2.2.2.1, r5.2.2.2.2.2.2.2.2.2.2.2.2.1, r5.2.2.2.2.2.2.2.2.2.2.2.2.2.1, r5.2.2.2.2.2.2.2.2.2.2.2.2.2.2.1, r5.2.2.2.2.2.2.2.2.2.2.2.2.2.2.2.1, r5.2.2.2.2.2.2.2.2.2.2.2.2.2.2.2.2.1, r5.2.2.2.2.2.2.2.2.2.2.2.2.2.2.2.2.2.1, r5.2.2.2.2.2.2.2.2.2.2.2.2.2.2.2.2.2.2.1, r5.2.2.2.2.2.2.2.2.2.2.2.2.2.2.2.2.2.2.2) H locs _ ls (Option.some.inj h) hP hD hS dX2_readInto_59
        · have h := (if_pos c4).symm.trans h
          refine lv_goto (tgt := 69) hx hb dX2_readInto_36 (by decide) ?_
          exact hJ69 r3.1 r3.2.1 r3.2.2.1 r3.2.2.2 v_fault m_cornerCount m_streetCount m_guideCount m_bellCount m_hand m_handTold m_marks m_ends m_farEnds m_lengths m_paces m_fees m_knows m_his m_bells x2 H locs ls h hP hD hS (lv_sub hl [1, 2] rfl)
  have h := hf
  unfold f_X2_readInto at h
  obtain ⟨H, eH⟩ : ∃ H, H = s.heap := ⟨_, rfl⟩
  rw [← eH] at hP ⊢
  obtain ⟨locs, el⟩ : ∃ locs : List Loc, locs = [] := ⟨_, rfl⟩
  rw [← el] at hS ⊢
  have hS : va_S A s.heap H locs := by rw [eH]; exact hS
  refine lv_aload_n hx hb dX2_readInto_0 rfl (lv_at hl 1 rfl) ?_
  obtain ⟨r7, hr7, h⟩ := xk_some h
  refine vx_VV (As := []) (rest := []) (wr := [oX2 q v_length v_place v_token v_tokenAt v_value v_fault, rA (q 1) cI 200 v_text, rA (qm 7) cI 7 m_marks, rA (qm 8) cI 9 m_ends, rA (qm 9) cI 9 m_farEnds, rA (qm 10) cI 9 m_lengths, rA (qm 11) cI 4 m_paces, rA (qm 12) cI 4 m_fees, rA (qm 13) cI 4 m_knows, rA (qm 14) cI 4 m_his, rA (qm 15) cI 8 m_bells]) (wn := [oX2 q v_length v_place v_token v_tokenAt v_value v_fault, rA (q 1) cI 200 v_text, oX4 qm r7.1 r7.2.1 r7.2.2.1 r7.2.2.2.1 r7.2.2.2.2.1 r7.2.2.2.2.2, rA (qm 7) cI 7 m_marks, rA (qm 8) cI 9 m_ends, rA (qm 9) cI 9 m_farEnds, rA (qm 10) cI 9 m_lengths, rA (qm 11) cI 4 m_paces, rA (qm 12) cI 4 m_fees, rA (qm 13) cI 4 m_knows, rA (qm 14) cI 4 m_his, rA (qm 15) cI 8 m_bells]) hFx (k_X4_empty l D cI cZ cT qm H.size m_cornerCount m_streetCount m_guideCount m_bellCount m_hand m_handTold r7 hr7) (cwV 0 hts gX2_readInto_X4_empty rfl rfl rfl (by decide +kernel) ⟨Nat.le_of_ble_eq_true rfl, Nat.le_of_ble_eq_true rfl⟩) hK hP hD hS hA [2] [0, 1, 3, 4, 5, 6, 7, 8, 9, 10, 11] [0, 1, 11, 2, 3, 4, 5, 6, 7, 8, 9, 10] rfl rfl rfl rfl (by decide) rfl rfl 4 0 rfl rfl rfl hl.1 rfl (Nat.le_of_ble_eq_true rfl) dX2_readInto_1 ⟨Nat.zero_le _, Nat.zero_le _⟩ (fun H locs hP hD hS => ?_)
  refine lv_aload_n hx hb dX2_readInto_4 rfl (lv_at hl 0 rfl) ?_
  refine lv_iconst (v := 0) hx hb dX2_readInto_5 (by decide) ?_
  refine va_put (C := RX2) (T := TX2) (N := 7) (v := .int (0 : Int32)) (ty := .int) hx hb hts iw2 tyX2 tyX2_ok nmX2 hown hK hP hD hS 0 rfl rfl 2 (Nat.le_of_ble_eq_true rfl) lk24 (fun _ h9 => h9) rfl (by decide +kernel) rfl rfl (Nat.le_of_ble_eq_true rfl) dX2_readInto_6 (fun H locs hP hD hS => ?_)
  have hP : va_P D vwCl [oX2 q v_length (0 : Int32) v_token v_tokenAt v_value v_fault, rA (q 1) cI 200 v_text, oX4 qm r7.1 r7.2.1 r7.2.2.1 r7.2.2.2.1 r7.2.2.2.2.1 r7.2.2.2.2.2, rA (qm 7) cI 7 m_marks, rA (qm 8) cI 9 m_ends, rA (qm 9) cI 9 m_farEnds, rA (qm 10) cI 9 m_lengths, rA (qm 11) cI 4 m_paces, rA (qm 12) cI 4 m_fees, rA (qm 13) cI 4 m_knows, rA (qm 14) cI 4 m_his, rA (qm 15) cI 8 m_bells] H := hP
  have hD : va_D A [oX2 q v_length (0 : Int32) v_token v_tokenAt v_value v_fault, rA (q 1) cI 200 v_text, oX4 qm r7.1 r7.2.1 r7.2.2.1 r7.2.2.2.1 r7.2.2.2.2.1 r7.2.2.2.2.2, rA (qm 7) cI 7 m_marks, rA (qm 8) cI 9 m_ends, rA (qm 9) cI 9 m_farEnds, rA (qm 10) cI 9 m_lengths, rA (qm 11) cI 4 m_paces, rA (qm 12) cI 4 m_fees, rA (qm 13) cI 4 m_knows, rA (qm 14) cI 4 m_his, rA (qm 15) cI 8 m_bells] := hD
  refine lv_aload_n hx hb dX2_readInto_9 rfl (lv_at hl 0 rfl) ?_
  refine lv_iconst (v := (-1)) hx hb dX2_readInto_10 (by decide) ?_
  refine va_put (C := RX2) (T := TX2) (N := 7) (v := .int (-1 : Int32)) (ty := .int) hx hb hts iw2 tyX2 tyX2_ok nmX2 hown hK hP hD hS 0 rfl rfl 6 (Nat.le_of_ble_eq_true rfl) lk27 (fun _ h9 => h9) rfl (by decide +kernel) rfl rfl (Nat.le_of_ble_eq_true rfl) dX2_readInto_11 (fun H locs hP hD hS => ?_)
  have hP : va_P D vwCl [oX2 q v_length (0 : Int32) v_token v_tokenAt v_value (-1 : Int32), rA (q 1) cI 200 v_text, oX4 qm r7.1 r7.2.1 r7.2.2.1 r7.2.2.2.1 r7.2.2.2.2.1 r7.2.2.2.2.2, rA (qm 7) cI 7 m_marks, rA (qm 8) cI 9 m_ends, rA (qm 9) cI 9 m_farEnds, rA (qm 10) cI 9 m_lengths, rA (qm 11) cI 4 m_paces, rA (qm 12) cI 4 m_fees, rA (qm 13) cI 4 m_knows, rA (qm 14) cI 4 m_his, rA (qm 15) cI 8 m_bells] H := hP
  have hD : va_D A [oX2 q v_length (0 : Int32) v_token v_tokenAt v_value (-1 : Int32), rA (q 1) cI 200 v_text, oX4 qm r7.1 r7.2.1 r7.2.2.1 r7.2.2.2.1 r7.2.2.2.2.1 r7.2.2.2.2.2, rA (qm 7) cI 7 m_marks, rA (qm 8) cI 9 m_ends, rA (qm 9) cI 9 m_farEnds, rA (qm 10) cI 9 m_lengths, rA (qm 11) cI 4 m_paces, rA (qm 12) cI 4 m_fees, rA (qm 13) cI 4 m_knows, rA (qm 14) cI 4 m_his, rA (qm 15) cI 8 m_bells] := hD
  refine lv_iconst (v := 0) hx hb dX2_readInto_14 (by decide) ?_
  refine lv_istore_n (lv' := [(2, .int (0 : Int32)), (0, .ref (q 0)), (1, .ref (qm 0))]) hx hb dX2_readInto_15 rfl hl (by decide) rfl (fun ls hl => ?_)
  refine lv_iconst (v := 0) hx hb dX2_readInto_16 (by decide) ?_
  refine lv_istore_n (lv' := [(3, .int (0 : Int32)), (2, .int (0 : Int32)), (0, .ref (q 0)), (1, .ref (qm 0))]) hx hb dX2_readInto_17 rfl hl (by decide) rfl (fun ls hl => ?_)
  exact hL18 fu (0 : Int32) v_token v_tokenAt v_value (-1 : Int32) r7.1 r7.2.1 r7.2.2.1 r7.2.2.2.1 r7.2.2.2.2.1 r7.2.2.2.2.2 m_marks m_ends m_farEnds m_lengths m_paces m_fees m_knows m_his m_bells (0 : Int32) (0 : Int32) H locs ls h hP hD hS (lv_sub hl [2, 3, 1, 0] rfl)
