abbrev rm_X6_byOne : Room := { frames := 2, cells := 0, slots := 0, locals := 43 }
set_option maxHeartbeats 4000000 in
set_option maxRecDepth 100000 in
theorem k_X6_byOne (l : Launch) (D : va_G) (cI cZ cT : ClassId) (q : Nat → Nat) (qr : Nat → Nat) (qm : Nat → Nat) (qs : Nat → Nat) (qt : Nat → Nat) (qro : Nat → Nat) (qto : Nat → Nat) (qw : Nat → Nat) (qi0 : Nat → Nat) (qi1 : Nat → Nat) (sz : Nat) (v_asked : Int64) (m_cornerCount : Int32) (m_streetCount : Int32) (m_guideCount : Int32) (m_bellCount : Int32) (m_hand : Int32) (m_handTold : Int32) (m_ends : Nat → Int32) (m_farEnds : Nat → Int32) (m_knows : Nat → Int32) (m_his : Nat → Int32) (x1 : Int32) (x2 : Int32) (res : R_X6_byOne) (fu : Nat) (hf : f_X6_byOne fu m_cornerCount m_streetCount m_guideCount m_ends m_farEnds m_knows m_his x1 x2 = some res) : Met l yX6_byOne wsX6_byOne rm_X6_byOne (cPre D (tyz cI cZ cT) [.ref (q 0), .int x1, .int x2] sz [oX6 q (qr 0) (qm 0) (qs 0) (qt 0) (qro 0) (qto 0) (qw 0) v_asked, oX4 qm m_cornerCount m_streetCount m_guideCount m_bellCount m_hand m_handTold, rA (qm 8) cI 9 m_ends, rA (qm 9) cI 9 m_farEnds, rA (qm 13) cI 4 m_knows, rA (qm 14) cI 4 m_his]) (cPi D (tyz cI cZ cT) (fun (r : Int32) (_ : Unit) => r = res) (fun _ => [oX6 q (qr 0) (qm 0) (qs 0) (qt 0) (qro 0) (qto 0) (qw 0) v_asked, oX4 qm m_cornerCount m_streetCount m_guideCount m_bellCount m_hand m_handTold, rA (qm 8) cI 9 m_ends, rA (qm 9) cI 9 m_farEnds, rA (qm 13) cI 4 m_knows, rA (qm 14) cI 4 m_his]) [oX6 q (qr 0) (qm 0) (qs 0) (qt 0) (qro 0) (qto 0) (qw 0) v_asked, oX4 qm m_cornerCount m_streetCount m_guideCount m_bellCount m_hand m_handTold, rA (qm 8) cI 9 m_ends, rA (qm 9) cI 9 m_farEnds, rA (qm 13) cI 4 m_knows, rA (qm 14) cI 4 m_his] sz) 0 0 (va_A [oX6 q (qr 0) (qm 0) (qs 0) (qt 0) (qro 0) (qto 0) (qw 0) v_asked, oX4 qm m_cornerCount m_streetCount m_guideCount m_bellCount m_hand m_handTold, rA (qm 8) cI 9 m_ends, rA (qm 9) cI 9 m_farEnds, rA (qm 13) cI 4 m_knows, rA (qm 14) cI 4 m_his] sz) := by
  refine vx_meth_i (by decide) rfl (Nat.le_of_ble_eq_true rfl) ?_
  intro p e s m args below meth c A Q hx hb hml hown hts hK hP hD hA hS hret ls hl
  have hown : s.vm.findClass RX6 = some m.cls := hown
  have hl : lv_has ls 6 [(0, .ref (q 0)), (1, .int x1), (2, .int x2)] := hl
  have hFx : CallFix p m c cX6_byOne 6 s args wsX6_byOne RX6 := ⟨hx, hb, hml, hown, hts⟩
  have lk19 := hts (.fieldLink RX6 19 "FogGuides" "map" "LFogGuides$TownMap;") (by decide +kernel)
  have iw6 : ∀ w ∈ u_ws RX6 TX6 10, w ∈ wsX6_byOne := by decide +kernel
  have lk194 := hts (.fieldLink RX6 194 "FogGuides$TownMap" "guideCount" "I") (by decide +kernel)
  have iw4 : ∀ w ∈ u_ws RX4 TX4 15, w ∈ wsX6_byOne := by decide +kernel
  have lk115 := hts (.fieldLink RX6 115 "FogGuides$TownMap" "knows" "[I") (by decide +kernel)
  have hL29 : ∀ (n29 : Nat), ∀ (x1 : Int32) (x2 : Int32) (x3 : Int32) (x4 : Int32) (H : Heap) (locs : List Loc) (ls : Array Slot), f_X6_byOne_L29 fu n29 m_cornerCount m_streetCount m_guideCount m_ends m_farEnds m_knows m_his x1 x2 x3 x4 = some res → va_P D vwCl [oX6 q (qr 0) (qm 0) (qs 0) (qt 0) (qro 0) (qto 0) (qw 0) v_asked, oX4 qm m_cornerCount m_streetCount m_guideCount m_bellCount m_hand m_handTold, rA (qm 8) cI 9 m_ends, rA (qm 9) cI 9 m_farEnds, rA (qm 13) cI 4 m_knows, rA (qm 14) cI 4 m_his] H → va_D A [oX6 q (qr 0) (qm 0) (qs 0) (qt 0) (qro 0) (qto 0) (qw 0) v_asked, oX4 qm m_cornerCount m_streetCount m_guideCount m_bellCount m_hand m_handTold, rA (qm 8) cI 9 m_ends, rA (qm 9) cI 9 m_farEnds, rA (qm 13) cI 4 m_knows, rA (qm 14) cI 4 m_his] → va_S A s.heap H locs → lv_has ls 6 [(0, .ref (q 0)), (1, .int x1), (2, .int x2), (3, .int x3), (4, .int x4)] → W p l e rm_X6_byOne s m args below meth c H locs 0 0 Q (F0 m 29 ls []) := by
    intro n29
    induction n29 with
    | zero =>
      intro x1 x2 x3 x4 H locs ls h hP hD hS hl
      cases (show (none : Option R_X6_byOne) = some res from h)
    | succ n29 ih29 =>
      intro x1 x2 x3 x4 H locs ls h hP hD hS hl
      have h : f_X6_byOne_L29b fu (f_X6_byOne_L29 fu n29) m_cornerCount m_streetCount m_guideCount m_ends m_farEnds m_knows m_his x1 x2 x3 x4 = some res := h
      unfold f_X6_byOne_L29b at h
      refine lv_iload hx hb dX6_byOne_29 (lv_at hl 4 rfl) ?_
      refine lv_aload_n hx hb dX6_byOne_31 rfl (lv_at hl 0 rfl) ?_
      refine va_get (C := RX6) (T := TX6) (N := 10) (v := .ref (qm 0)) hx hb hts iw6 hown hK hP 0 rfl rfl 1 (Nat.le_of_ble_eq_true rfl) lk19 (fun _ h9 => h9) rfl dX6_byOne_32 ?_
      refine va_get (C := RX4) (T := TX4) (N := 15) (v := .int m_guideCount) hx hb hts iw4 hown hK hP 1 rfl rfl 2 (Nat.le_of_ble_eq_true rfl) lk194 (fun _ h9 => h9) rfl dX6_byOne_35 ?_
      refine lv_icmp_ge (tgt := 102) hx hb dX6_byOne_38 (by decide) (fun c1 => ?_) (fun c1 => ?_)
      · have h := (if_pos c1).symm.trans h
        refine lv_iload_n hx hb dX6_byOne_102 rfl (lv_at hl 3 rfl) ?_
        exact hret x3 () H locs _ ls (Option.some.inj h) hP hD hS dX6_byOne_103
      · have h := (if_neg c1).symm.trans h
        refine lv_aload_n hx hb dX6_byOne_41 rfl (lv_at hl 0 rfl) ?_
        refine va_get (C := RX6) (T := TX6) (N := 10) (v := .ref (qm 0)) hx hb hts iw6 hown hK hP 0 rfl rfl 1 (Nat.le_of_ble_eq_true rfl) lk19 (fun _ h9 => h9) rfl dX6_byOne_42 ?_
        refine lv_iload hx hb dX6_byOne_45 (lv_at hl 4 rfl) ?_
        refine lv_iload_n hx hb dX6_byOne_47 rfl (lv_at hl 1 rfl) ?_
        obtain ⟨r2, hr2, h⟩ := xk_some h
        refine vx_VJ (As := [.int x4, .int x1]) (rest := []) hFx (k_X4_isHis l D cI cZ cT qm H.size m_cornerCount m_streetCount m_guideCount m_bellCount m_hand m_handTold m_his x4 x1 r2 hr2) (cwV 2 hts gX6_byOne_X4_isHis rfl rfl rfl (by decide +kernel) ⟨Nat.le_of_ble_eq_true rfl, Nat.le_of_ble_eq_true rfl⟩) hK hP hD hS hA [1, 5] rfl rfl 4 0 rfl rfl rfl hl.1 rfl (Nat.le_of_ble_eq_true rfl) dX6_byOne_48 ⟨Nat.zero_le _, Nat.zero_le _⟩ (fun H locs hP hS => ?_)
        refine lv_if_ne (tgt := 57) hx hb dX6_byOne_51 (by decide) (fun c3 => ?_) (fun c3 => ?_)
        · have h := (if_neg c3).symm.trans h
          refine lv_aload_n hx hb dX6_byOne_57 rfl (lv_at hl 0 rfl) ?_
          refine va_get (C := RX6) (T := TX6) (N := 10) (v := .ref (qm 0)) hx hb hts iw6 hown hK hP 0 rfl rfl 1 (Nat.le_of_ble_eq_true rfl) lk19 (fun _ h9 => h9) rfl dX6_byOne_58 ?_
          refine lv_aload_n hx hb dX6_byOne_61 rfl (lv_at hl 0 rfl) ?_
          refine va_get (C := RX6) (T := TX6) (N := 10) (v := .ref (qm 0)) hx hb hts iw6 hown hK hP 0 rfl rfl 1 (Nat.le_of_ble_eq_true rfl) lk19 (fun _ h9 => h9) rfl dX6_byOne_62 ?_
          refine va_get (C := RX4) (T := TX4) (N := 15) (v := .ref (qm 13)) hx hb hts iw4 hown hK hP 1 rfl rfl 12 (Nat.le_of_ble_eq_true rfl) lk115 (fun _ h9 => h9) rfl dX6_byOne_65 ?_
          refine lv_iload hx hb dX6_byOne_68 (lv_at hl 4 rfl) ?_
          obtain ⟨hi4, h⟩ := xb_some h
          refine va_iald hx hb hK hP 4 0 rfl rfl hi4 dX6_byOne_70 ?_
          refine lv_iconst (v := 1) hx hb dX6_byOne_71 (by decide) ?_
          refine lv_iload_n hx hb dX6_byOne_72 rfl (lv_at hl 1 rfl) ?_
          refine lv_ishl hx hb dX6_byOne_73 ?_
          obtain ⟨r5, hr5, h⟩ := xk_some h
          refine vx_VJ (As := [.int (m_knows x4.toNatClampNeg), .int ((1 : Int32) <<< (x1 &&& 31))]) (rest := []) hFx (k_X4_reachedBy l D cI cZ cT qm H.size m_cornerCount m_streetCount m_guideCount m_bellCount m_hand m_handTold m_ends m_farEnds (m_knows x4.toNatClampNeg) ((1 : Int32) <<< (x1 &&& 31)) r5 fu hr5) (cwV 2 hts gX6_byOne_X4_reachedBy rfl rfl rfl (by decide +kernel) ⟨Nat.le_of_ble_eq_true rfl, Nat.le_of_ble_eq_true rfl⟩) hK hP hD hS hA [1, 2, 3] rfl rfl 4 0 rfl rfl rfl hl.1 rfl (Nat.le_of_ble_eq_true rfl) dX6_byOne_74 ⟨Nat.zero_le _, Nat.zero_le _⟩ (fun H locs hP hS => ?_)
          refine lv_istore (lv' := [(5, .int r5), (0, .ref (q 0)), (1, .int x1), (2, .int x2), (3, .int x3), (4, .int x4)]) hx hb dX6_byOne_77 hl (by decide) rfl (fun ls hl => ?_)
          refine lv_iload hx hb dX6_byOne_79 (lv_at hl 0 rfl) ?_
          refine lv_iload_n hx hb dX6_byOne_81 rfl (lv_at hl 3 rfl) ?_
          refine lv_ishr hx hb dX6_byOne_82 ?_
          refine lv_iconst (v := 1) hx hb dX6_byOne_83 (by decide) ?_
          refine lv_iand hx hb dX6_byOne_84 ?_
          refine lv_iconst (v := 1) hx hb dX6_byOne_85 (by decide) ?_
          refine lv_icmp_ne (tgt := 96) hx hb dX6_byOne_86 (by decide) (fun c6 => ?_) (fun c6 => ?_)
          · have h := (if_neg c6).symm.trans h
            refine lv_iinc (v := x4 + 1) (lv' := [(4, .int (x4 + 1)), (5, .int r5), (0, .ref (q 0)), (1, .int x1), (2, .int x2), (3, .int x3)]) hx hb dX6_byOne_96 hl (k := 5) rfl rfl (by decide) rfl (fun ls hl => ?_)
            refine lv_goto (tgt := 29) hx hb dX6_byOne_99 (by decide) ?_
            exact ih29 x1 x2 x3 (x4 + 1) H locs ls h hP hD hS (lv_sub hl [2, 3, 4, 5, 0] rfl)
          · have h := (if_pos c6).symm.trans h
            refine lv_iload_n hx hb dX6_byOne_89 rfl (lv_at hl 4 rfl) ?_
            refine lv_iconst (v := 1) hx hb dX6_byOne_90 (by decide) ?_
            refine lv_iload hx hb dX6_byOne_91 (lv_at hl 5 rfl) ?_
            refine lv_ishl hx hb dX6_byOne_93 ?_
            refine lv_ior hx hb dX6_byOne_94 ?_
            refine lv_istore_n (lv' := [(3, .int (x3 ||| ((1 : Int32) <<< (x4 &&& 31)))), (5, .int r5), (0, .ref (q 0)), (1, .int x1), (2, .int x2), (4, .int x4)]) hx hb dX6_byOne_95 rfl hl (by decide) rfl (fun ls hl => ?_)
            refine lv_iinc (v := x4 + 1) (lv' := [(4, .int (x4 + 1)), (3, .int (x3 ||| ((1 : Int32) <<< (x4 &&& 31)))), (5, .int r5), (0, .ref (q 0)), (1, .int x1), (2, .int x2)]) hx hb dX6_byOne_96 hl (k := 5) rfl rfl (by decide) rfl (fun ls hl => ?_)
            refine lv_goto (tgt := 29) hx hb dX6_byOne_99 (by decide) ?_
            exact ih29 x1 x2 (x3 ||| ((1 : Int32) <<< (x4 &&& 31))) (x4 + 1) H locs ls h hP hD hS (lv_sub hl [3, 4, 5, 1, 0] rfl)
        · have h := (if_pos c3).symm.trans h
          refine lv_goto (tgt := 96) hx hb dX6_byOne_54 (by decide) ?_
          refine lv_iinc (v := x4 + 1) (lv' := [(4, .int (x4 + 1)), (0, .ref (q 0)), (1, .int x1), (2, .int x2), (3, .int x3)]) hx hb dX6_byOne_96 hl (k := 4) rfl rfl (by decide) rfl (fun ls hl => ?_)
          refine lv_goto (tgt := 29) hx hb dX6_byOne_99 (by decide) ?_
          exact ih29 x1 x2 x3 (x4 + 1) H locs ls h hP hD hS (lv_sub hl [1, 2, 3, 4, 0] rfl)
  have h := hf
  unfold f_X6_byOne at h
  obtain ⟨H, eH⟩ : ∃ H, H = s.heap := ⟨_, rfl⟩
  rw [← eH] at hP ⊢
  obtain ⟨locs, el⟩ : ∃ locs : List Loc, locs = [] := ⟨_, rfl⟩
  rw [← el] at hS ⊢
  have hS : va_S A s.heap H locs := by rw [eH]; exact hS
  refine lv_aload_n hx hb dX6_byOne_0 rfl (lv_at hl 0 rfl) ?_
  refine va_get (C := RX6) (T := TX6) (N := 10) (v := .ref (qm 0)) hx hb hts iw6 hown hK hP 0 rfl rfl 1 (Nat.le_of_ble_eq_true rfl) lk19 (fun _ h9 => h9) rfl dX6_byOne_1 ?_
  refine lv_iload_n hx hb dX6_byOne_4 rfl (lv_at hl 1 rfl) ?_
  obtain ⟨r7, hr7, h⟩ := xk_some h
  refine vx_VJ (As := [.int x1]) (rest := []) hFx (k_X4_hasCorner l D cI cZ cT qm H.size m_cornerCount m_streetCount m_guideCount m_bellCount m_hand m_handTold x1 r7 hr7) (cwV 1 hts gX6_byOne_X4_hasCorner rfl rfl rfl (by decide +kernel) ⟨Nat.le_of_ble_eq_true rfl, Nat.le_of_ble_eq_true rfl⟩) hK hP hD hS hA [1] rfl rfl 4 0 rfl rfl rfl hl.1 rfl (Nat.le_of_ble_eq_true rfl) dX6_byOne_5 ⟨Nat.zero_le _, Nat.zero_le _⟩ (fun H locs hP hS => ?_)
  refine lv_if_eq (tgt := 22) hx hb dX6_byOne_8 (by decide) (fun c8 => ?_) (fun c8 => ?_)
  · have h := (if_pos c8).symm.trans h
    refine lv_iconst (v := (-1)) hx hb dX6_byOne_22 (by decide) ?_
    exact hret (-1 : Int32) () H locs _ ls (Option.some.inj h) hP hD hS dX6_byOne_23
  · have h := (if_neg c8).symm.trans h
    refine lv_aload_n hx hb dX6_byOne_11 rfl (lv_at hl 0 rfl) ?_
    refine va_get (C := RX6) (T := TX6) (N := 10) (v := .ref (qm 0)) hx hb hts iw6 hown hK hP 0 rfl rfl 1 (Nat.le_of_ble_eq_true rfl) lk19 (fun _ h9 => h9) rfl dX6_byOne_12 ?_
    refine lv_iload_n hx hb dX6_byOne_15 rfl (lv_at hl 2 rfl) ?_
    obtain ⟨r9, hr9, h⟩ := xk_some h
    refine vx_VJ (As := [.int x2]) (rest := []) hFx (k_X4_hasCorner l D cI cZ cT qm H.size m_cornerCount m_streetCount m_guideCount m_bellCount m_hand m_handTold x2 r9 hr9) (cwV 1 hts gX6_byOne_X4_hasCorner rfl rfl rfl (by decide +kernel) ⟨Nat.le_of_ble_eq_true rfl, Nat.le_of_ble_eq_true rfl⟩) hK hP hD hS hA [1] rfl rfl 4 0 rfl rfl rfl hl.1 rfl (Nat.le_of_ble_eq_true rfl) dX6_byOne_16 ⟨Nat.zero_le _, Nat.zero_le _⟩ (fun H locs hP hS => ?_)
    refine lv_if_ne (tgt := 24) hx hb dX6_byOne_19 (by decide) (fun c10 => ?_) (fun c10 => ?_)
    · have h := (if_neg c10).symm.trans h
      refine lv_iconst (v := 0) hx hb dX6_byOne_24 (by decide) ?_
      refine lv_istore_n (lv' := [(3, .int (0 : Int32)), (0, .ref (q 0)), (1, .int x1), (2, .int x2)]) hx hb dX6_byOne_25 rfl hl (by decide) rfl (fun ls hl => ?_)
      refine lv_iconst (v := 0) hx hb dX6_byOne_26 (by decide) ?_
      refine lv_istore (lv' := [(4, .int (0 : Int32)), (3, .int (0 : Int32)), (0, .ref (q 0)), (1, .int x1), (2, .int x2)]) hx hb dX6_byOne_27 hl (by decide) rfl (fun ls hl => ?_)
      exact hL29 fu x1 x2 (0 : Int32) (0 : Int32) H locs ls h hP hD hS (lv_sub hl [2, 3, 4, 1, 0] rfl)
    · have h := (if_pos c10).symm.trans h
      refine lv_iconst (v := (-1)) hx hb dX6_byOne_22 (by decide) ?_
      exact hret (-1 : Int32) () H locs _ ls (Option.some.inj h) hP hD hS dX6_byOne_23
abbrev rm_X6_forFee : Room := { frames := 13, cells := 0, slots := 0, locals := 357 }
set_option maxHeartbeats 4000000 in
set_option maxRecDepth 100000 in
theorem k_X6_forFee (l : Launch) (D : va_G) (cI cZ cT : ClassId) (q : Nat → Nat) (qr : Nat → Nat) (qm : Nat → Nat) (qs : Nat → Nat) (qt : Nat → Nat) (qro : Nat → Nat) (qto : Nat → Nat) (qw : Nat → Nat) (qi0 : Nat → Nat) (qi1 : Nat → Nat) (sz : Nat) (v_asked : Int64) (m_cornerCount : Int32) (m_streetCount : Int32) (m_guideCount : Int32) (m_bellCount : Int32) (m_hand : Int32) (m_handTold : Int32) (m_ends : Nat → Int32) (m_farEnds : Nat → Int32) (m_lengths : Nat → Int32) (m_paces : Nat → Int32) (m_fees : Nat → Int32) (m_knows : Nat → Int32) (m_his : Nat → Int32) (x1 : Int32) (x2 : Int32) (x3 : Int32) (res : R_X6_forFee) (fu : Nat) (hf : f_X6_forFee fu m_cornerCount m_streetCount m_guideCount m_ends m_farEnds m_lengths m_paces m_fees m_knows m_his x1 x2 x3 = some res) : Met l yX6_forFee wsX6_forFee rm_X6_forFee (cPre D (tyz cI cZ cT) [.ref (q 0), .int x1, .int x2, .int x3] sz [oX6 q (qr 0) (qm 0) (qs 0) (qt 0) (qro 0) (qto 0) (qw 0) v_asked, oX4 qm m_cornerCount m_streetCount m_guideCount m_bellCount m_hand m_handTold, rA (qm 8) cI 9 m_ends, rA (qm 9) cI 9 m_farEnds, rA (qm 10) cI 9 m_lengths, rA (qm 11) cI 4 m_paces, rA (qm 12) cI 4 m_fees, rA (qm 13) cI 4 m_knows, rA (qm 14) cI 4 m_his]) (cPi D (tyz cI cZ cT) (fun (r : Int32) (_ : Unit) => r = res) (fun _ => [oX6 q (qr 0) (qm 0) (qs 0) (qt 0) (qro 0) (qto 0) (qw 0) v_asked, oX4 qm m_cornerCount m_streetCount m_guideCount m_bellCount m_hand m_handTold, rA (qm 8) cI 9 m_ends, rA (qm 9) cI 9 m_farEnds, rA (qm 10) cI 9 m_lengths, rA (qm 11) cI 4 m_paces, rA (qm 12) cI 4 m_fees, rA (qm 13) cI 4 m_knows, rA (qm 14) cI 4 m_his]) [oX6 q (qr 0) (qm 0) (qs 0) (qt 0) (qro 0) (qto 0) (qw 0) v_asked, oX4 qm m_cornerCount m_streetCount m_guideCount m_bellCount m_hand m_handTold, rA (qm 8) cI 9 m_ends, rA (qm 9) cI 9 m_farEnds, rA (qm 10) cI 9 m_lengths, rA (qm 11) cI 4 m_paces, rA (qm 12) cI 4 m_fees, rA (qm 13) cI 4 m_knows, rA (qm 14) cI 4 m_his] sz) 0 0 (va_A [oX6 q (qr 0) (qm 0) (qs 0) (qt 0) (qro 0) (qto 0) (qw 0) v_asked, oX4 qm m_cornerCount m_streetCount m_guideCount m_bellCount m_hand m_handTold, rA (qm 8) cI 9 m_ends, rA (qm 9) cI 9 m_farEnds, rA (qm 10) cI 9 m_lengths, rA (qm 11) cI 4 m_paces, rA (qm 12) cI 4 m_fees, rA (qm 13) cI 4 m_knows, rA (qm 14) cI 4 m_his] sz) := by
  refine vx_meth_i (by decide) rfl (Nat.le_of_ble_eq_true rfl) ?_
  intro p e s m args below meth c A Q hx hb hml hown hts hK hP hD hA hS hret ls hl
  have hown : s.vm.findClass RX6 = some m.cls := hown
  have hl : lv_has ls 6 [(0, .ref (q 0)), (1, .int x1), (2, .int x2), (3, .int x3)] := hl
  have hFx : CallFix p m c cX6_forFee 6 s args wsX6_forFee RX6 := ⟨hx, hb, hml, hown, hts⟩
  have lk19 := hts (.fieldLink RX6 19 "FogGuides" "map" "LFogGuides$TownMap;") (by decide +kernel)
  have iw6 : ∀ w ∈ u_ws RX6 TX6 10, w ∈ wsX6_forFee := by decide +kernel
  have lk194 := hts (.fieldLink RX6 194 "FogGuides$TownMap" "guideCount" "I") (by decide +kernel)
  have iw4 : ∀ w ∈ u_ws RX4 TX4 15, w ∈ wsX6_forFee := by decide +kernel
  have hL41 : ∀ (n41 : Nat), ∀ (x1 : Int32) (x2 : Int32) (x3 : Int32) (x4 : Int32) (x5 : Int32) (H : Heap) (locs : List Loc) (ls : Array Slot), f_X6_forFee_L41 fu n41 m_cornerCount m_streetCount m_guideCount m_ends m_farEnds m_lengths m_paces m_fees m_knows m_his x1 x2 x3 x4 x5 = some res → va_P D vwCl [oX6 q (qr 0) (qm 0) (qs 0) (qt 0) (qro 0) (qto 0) (qw 0) v_asked, oX4 qm m_cornerCount m_streetCount m_guideCount m_bellCount m_hand m_handTold, rA (qm 8) cI 9 m_ends, rA (qm 9) cI 9 m_farEnds, rA (qm 10) cI 9 m_lengths, rA (qm 11) cI 4 m_paces, rA (qm 12) cI 4 m_fees, rA (qm 13) cI 4 m_knows, rA (qm 14) cI 4 m_his] H → va_D A [oX6 q (qr 0) (qm 0) (qs 0) (qt 0) (qro 0) (qto 0) (qw 0) v_asked, oX4 qm m_cornerCount m_streetCount m_guideCount m_bellCount m_hand m_handTold, rA (qm 8) cI 9 m_ends, rA (qm 9) cI 9 m_farEnds, rA (qm 10) cI 9 m_lengths, rA (qm 11) cI 4 m_paces, rA (qm 12) cI 4 m_fees, rA (qm 13) cI 4 m_knows, rA (qm 14) cI 4 m_his] → va_S A s.heap H locs → lv_has ls 6 [(0, .ref (q 0)), (1, .int x1), (2, .int x2), (3, .int x3), (4, .int x4), (5, .int x5)] → W p l e rm_X6_forFee s m args below meth c H locs 0 0 Q (F0 m 41 ls []) := by
    intro n41
    induction n41 with
    | zero =>
      intro x1 x2 x3 x4 x5 H locs ls h hP hD hS hl
      cases (show (none : Option R_X6_forFee) = some res from h)
    | succ n41 ih41 =>
      intro x1 x2 x3 x4 x5 H locs ls h hP hD hS hl
      have h : f_X6_forFee_L41b fu (f_X6_forFee_L41 fu n41) m_cornerCount m_streetCount m_guideCount m_ends m_farEnds m_lengths m_paces m_fees m_knows m_his x1 x2 x3 x4 x5 = some res := h
      unfold f_X6_forFee_L41b at h
      refine lv_iload hx hb dX6_forFee_41 (lv_at hl 5 rfl) ?_
      refine lv_aload_n hx hb dX6_forFee_43 rfl (lv_at hl 0 rfl) ?_
      refine va_get (C := RX6) (T := TX6) (N := 10) (v := .ref (qm 0)) hx hb hts iw6 hown hK hP 0 rfl rfl 1 (Nat.le_of_ble_eq_true rfl) lk19 (fun _ h9 => h9) rfl dX6_forFee_44 ?_
      refine va_get (C := RX4) (T := TX4) (N := 15) (v := .int m_guideCount) hx hb hts iw4 hown hK hP 1 rfl rfl 2 (Nat.le_of_ble_eq_true rfl) lk194 (fun _ h9 => h9) rfl dX6_forFee_47 ?_
      refine lv_icmp_ge (tgt := 96) hx hb dX6_forFee_50 (by decide) (fun c1 => ?_) (fun c1 => ?_)
      · have h := (if_pos c1).symm.trans h
        refine lv_iload hx hb dX6_forFee_96 (lv_at hl 4 rfl) ?_
        exact hret x4 () H locs _ ls (Option.some.inj h) hP hD hS dX6_forFee_98
      · have h := (if_neg c1).symm.trans h
        refine lv_aload_n hx hb dX6_forFee_53 rfl (lv_at hl 0 rfl) ?_
        refine va_get (C := RX6) (T := TX6) (N := 10) (v := .ref (qm 0)) hx hb hts iw6 hown hK hP 0 rfl rfl 1 (Nat.le_of_ble_eq_true rfl) lk19 (fun _ h9 => h9) rfl dX6_forFee_54 ?_
        refine lv_iload hx hb dX6_forFee_57 (lv_at hl 5 rfl) ?_
        refine lv_iload_n hx hb dX6_forFee_59 rfl (lv_at hl 1 rfl) ?_
        obtain ⟨r2, hr2, h⟩ := xk_some h
        refine vx_VJ (As := [.int x5, .int x1]) (rest := []) hFx (k_X4_isHis l D cI cZ cT qm H.size m_cornerCount m_streetCount m_guideCount m_bellCount m_hand m_handTold m_his x5 x1 r2 hr2) (cwV 2 hts gX6_forFee_X4_isHis rfl rfl rfl (by decide +kernel) ⟨Nat.le_of_ble_eq_true rfl, Nat.le_of_ble_eq_true rfl⟩) hK hP hD hS hA [1, 8] rfl rfl 4 0 rfl rfl rfl hl.1 rfl (Nat.le_of_ble_eq_true rfl) dX6_forFee_60 ⟨Nat.zero_le _, Nat.zero_le _⟩ (fun H locs hP hS => ?_)
        refine lv_if_eq (tgt := 90) hx hb dX6_forFee_63 (by decide) (fun c3 => ?_) (fun c3 => ?_)
        · have h := (if_pos c3).symm.trans h
          refine lv_iinc (v := x5 + 1) (lv' := [(5, .int (x5 + 1)), (0, .ref (q 0)), (1, .int x1), (2, .int x2), (3, .int x3), (4, .int x4)]) hx hb dX6_forFee_90 hl (k := 5) rfl rfl (by decide) rfl (fun ls hl => ?_)
          refine lv_goto (tgt := 41) hx hb dX6_forFee_93 (by decide) ?_
          exact ih41 x1 x2 x3 x4 (x5 + 1) H locs ls h hP hD hS (lv_sub hl [1, 2, 3, 4, 5, 0] rfl)
        · have h := (if_neg c3).symm.trans h
          refine lv_aload_n hx hb dX6_forFee_66 rfl (lv_at hl 0 rfl) ?_
          refine va_get (C := RX6) (T := TX6) (N := 10) (v := .ref (qm 0)) hx hb hts iw6 hown hK hP 0 rfl rfl 1 (Nat.le_of_ble_eq_true rfl) lk19 (fun _ h9 => h9) rfl dX6_forFee_67 ?_
          refine lv_iload hx hb dX6_forFee_70 (lv_at hl 5 rfl) ?_
          refine lv_iload_n hx hb dX6_forFee_72 rfl (lv_at hl 1 rfl) ?_
          refine lv_iload_n hx hb dX6_forFee_73 rfl (lv_at hl 2 rfl) ?_
          refine lv_iload_n hx hb dX6_forFee_74 rfl (lv_at hl 3 rfl) ?_
          obtain ⟨r4, hr4, h⟩ := xk_some h
          refine vx_VJ (As := [.int x5, .int x1, .int x2, .int x3]) (rest := []) hFx (k_X4_canLeadFor l D cI cZ cT qm H.size m_cornerCount m_streetCount m_guideCount m_bellCount m_hand m_handTold m_ends m_farEnds m_lengths m_paces m_fees m_knows x5 x1 x2 x3 r4 fu hr4) (cwV 4 hts gX6_forFee_X4_canLeadFor rfl rfl rfl (by decide +kernel) ⟨Nat.le_of_ble_eq_true rfl, Nat.le_of_ble_eq_true rfl⟩) hK hP hD hS hA [1, 2, 3, 4, 5, 6, 7] rfl rfl 4 0 rfl rfl rfl hl.1 rfl (Nat.le_of_ble_eq_true rfl) dX6_forFee_75 ⟨Nat.zero_le _, Nat.zero_le _⟩ (fun H locs hP hS => ?_)
          refine lv_if_eq (tgt := 90) hx hb dX6_forFee_78 (by decide) (fun c5 => ?_) (fun c5 => ?_)
          · have h := (if_pos c5).symm.trans h
            refine lv_iinc (v := x5 + 1) (lv' := [(5, .int (x5 + 1)), (0, .ref (q 0)), (1, .int x1), (2, .int x2), (3, .int x3), (4, .int x4)]) hx hb dX6_forFee_90 hl (k := 5) rfl rfl (by decide) rfl (fun ls hl => ?_)
            refine lv_goto (tgt := 41) hx hb dX6_forFee_93 (by decide) ?_
            exact ih41 x1 x2 x3 x4 (x5 + 1) H locs ls h hP hD hS (lv_sub hl [1, 2, 3, 4, 5, 0] rfl)
          · have h := (if_neg c5).symm.trans h
            refine lv_iload hx hb dX6_forFee_81 (lv_at hl 4 rfl) ?_
            refine lv_iconst (v := 1) hx hb dX6_forFee_83 (by decide) ?_
            refine lv_iload hx hb dX6_forFee_84 (lv_at hl 5 rfl) ?_
            refine lv_ishl hx hb dX6_forFee_86 ?_
            refine lv_ior hx hb dX6_forFee_87 ?_
            refine lv_istore (lv' := [(4, .int (x4 ||| ((1 : Int32) <<< (x5 &&& 31)))), (0, .ref (q 0)), (1, .int x1), (2, .int x2), (3, .int x3), (5, .int x5)]) hx hb dX6_forFee_88 hl (by decide) rfl (fun ls hl => ?_)
            refine lv_iinc (v := x5 + 1) (lv' := [(5, .int (x5 + 1)), (4, .int (x4 ||| ((1 : Int32) <<< (x5 &&& 31)))), (0, .ref (q 0)), (1, .int x1), (2, .int x2), (3, .int x3)]) hx hb dX6_forFee_90 hl (k := 5) rfl rfl (by decide) rfl (fun ls hl => ?_)
            refine lv_goto (tgt := 41) hx hb dX6_forFee_93 (by decide) ?_
            exact ih41 x1 x2 x3 (x4 ||| ((1 : Int32) <<< (x5 &&& 31))) (x5 + 1) H locs ls h hP hD hS (lv_sub hl [2, 3, 4, 5, 1, 0] rfl)
  have h := hf
  unfold f_X6_forFee at h
  obtain ⟨H, eH⟩ : ∃ H, H = s.heap := ⟨_, rfl⟩
  rw [← eH] at hP ⊢
  obtain ⟨locs, el⟩ : ∃ locs : List Loc, locs = [] := ⟨_, rfl⟩
  rw [← el] at hS ⊢
  have hS : va_S A s.heap H locs := by rw [eH]; exact hS
  refine lv_aload_n hx hb dX6_forFee_0 rfl (lv_at hl 0 rfl) ?_
  refine va_get (C := RX6) (T := TX6) (N := 10) (v := .ref (qm 0)) hx hb hts iw6 hown hK hP 0 rfl rfl 1 (Nat.le_of_ble_eq_true rfl) lk19 (fun _ h9 => h9) rfl dX6_forFee_1 ?_
  refine lv_iload_n hx hb dX6_forFee_4 rfl (lv_at hl 1 rfl) ?_
  obtain ⟨r6, hr6, h⟩ := xk_some h
  refine vx_VJ (As := [.int x1]) (rest := []) hFx (k_X4_hasCorner l D cI cZ cT qm H.size m_cornerCount m_streetCount m_guideCount m_bellCount m_hand m_handTold x1 r6 hr6) (cwV 1 hts gX6_forFee_X4_hasCorner rfl rfl rfl (by decide +kernel) ⟨Nat.le_of_ble_eq_true rfl, Nat.le_of_ble_eq_true rfl⟩) hK hP hD hS hA [1] rfl rfl 4 0 rfl rfl rfl hl.1 rfl (Nat.le_of_ble_eq_true rfl) dX6_forFee_5 ⟨Nat.zero_le _, Nat.zero_le _⟩ (fun H locs hP hS => ?_)
  refine lv_if_eq (tgt := 33) hx hb dX6_forFee_8 (by decide) (fun c7 => ?_) (fun c7 => ?_)
  · have h := (if_pos c7).symm.trans h
    refine lv_iconst (v := (-1)) hx hb dX6_forFee_33 (by decide) ?_
    exact hret (-1 : Int32) () H locs _ ls (Option.some.inj h) hP hD hS dX6_forFee_34
  · have h := (if_neg c7).symm.trans h
    refine lv_aload_n hx hb dX6_forFee_11 rfl (lv_at hl 0 rfl) ?_
    refine va_get (C := RX6) (T := TX6) (N := 10) (v := .ref (qm 0)) hx hb hts iw6 hown hK hP 0 rfl rfl 1 (Nat.le_of_ble_eq_true rfl) lk19 (fun _ h9 => h9) rfl dX6_forFee_12 ?_
    refine lv_iload_n hx hb dX6_forFee_15 rfl (lv_at hl 2 rfl) ?_
    obtain ⟨r8, hr8, h⟩ := xk_some h
    refine vx_VJ (As := [.int x2]) (rest := []) hFx (k_X4_hasCorner l D cI cZ cT qm H.size m_cornerCount m_streetCount m_guideCount m_bellCount m_hand m_handTold x2 r8 hr8) (cwV 1 hts gX6_forFee_X4_hasCorner rfl rfl rfl (by decide +kernel) ⟨Nat.le_of_ble_eq_true rfl, Nat.le_of_ble_eq_true rfl⟩) hK hP hD hS hA [1] rfl rfl 4 0 rfl rfl rfl hl.1 rfl (Nat.le_of_ble_eq_true rfl) dX6_forFee_16 ⟨Nat.zero_le _, Nat.zero_le _⟩ (fun H locs hP hS => ?_)
    refine lv_if_eq (tgt := 33) hx hb dX6_forFee_19 (by decide) (fun c9 => ?_) (fun c9 => ?_)
    · have h := (if_pos c9).symm.trans h
      refine lv_iconst (v := (-1)) hx hb dX6_forFee_33 (by decide) ?_
      exact hret (-1 : Int32) () H locs _ ls (Option.some.inj h) hP hD hS dX6_forFee_34
    · have h := (if_neg c9).symm.trans h
      refine lv_iload_n hx hb dX6_forFee_22 rfl (lv_at hl 3 rfl) ?_
      refine lv_if_lt (tgt := 33) hx hb dX6_forFee_23 (by decide) (fun c10 => ?_) (fun c10 => ?_)
      · have h := (if_pos c10).symm.trans h
        refine lv_iconst (v := (-1)) hx hb dX6_forFee_33 (by decide) ?_
        exact hret (-1 : Int32) () H locs _ ls (Option.some.inj h) hP hD hS dX6_forFee_34
      · have h := (if_neg c10).symm.trans h
        refine lv_iload_n hx hb dX6_forFee_26 rfl (lv_at hl 3 rfl) ?_
        refine lv_sipush (v := 999) hx hb dX6_forFee_27 (by decide) ?_
        refine lv_icmp_le (tgt := 35) hx hb dX6_forFee_30 (by decide) (fun c11 => ?_) (fun c11 => ?_)
        · have h := (if_pos c11).symm.trans h
          refine lv_iconst (v := 0) hx hb dX6_forFee_35 (by decide) ?_
          refine lv_istore (lv' := [(4, .int (0 : Int32)), (0, .ref (q 0)), (1, .int x1), (2, .int x2), (3, .int x3)]) hx hb dX6_forFee_36 hl (by decide) rfl (fun ls hl => ?_)
          refine lv_iconst (v := 0) hx hb dX6_forFee_38 (by decide) ?_
          refine lv_istore (lv' := [(5, .int (0 : Int32)), (4, .int (0 : Int32)), (0, .ref (q 0)), (1, .int x1), (2, .int x2), (3, .int x3)]) hx hb dX6_forFee_39 hl (by decide) rfl (fun ls hl => ?_)
          exact hL41 fu x1 x2 x3 (0 : Int32) (0 : Int32) H locs ls h hP hD hS (lv_sub hl [2, 3, 4, 5, 1, 0] rfl)
        · have h := (if_neg c11).symm.trans h
          refine lv_iconst (v := (-1)) hx hb dX6_forFee_33 (by decide) ?_
          exact hret (-1 : Int32) () H locs _ ls (Option.some.inj h) hP hD hS dX6_forFee_34
abbrev rm_X6_byBells : Room := { frames := 3, cells := 0, slots := 0, locals := 68 }
set_option maxHeartbeats 4000000 in
set_option maxRecDepth 100000 in
theorem k_X6_byBells (l : Launch) (D : va_G) (cI cZ cT : ClassId) (q : Nat → Nat) (qr : Nat → Nat) (qm : Nat → Nat) (qs : Nat → Nat) (qt : Nat → Nat) (qro : Nat → Nat) (qto : Nat → Nat) (qw : Nat → Nat) (qi0 : Nat → Nat) (qi1 : Nat → Nat) (sz : Nat) (v_asked : Int64) (m_cornerCount : Int32) (m_streetCount : Int32) (m_guideCount : Int32) (m_bellCount : Int32) (m_hand : Int32) (m_handTold : Int32) (ro_minutes : Int32) (ro_paid : Int32) (ro_first : Int32) (m_ends : Nat → Int32) (m_farEnds : Nat → Int32) (m_lengths : Nat → Int32) (m_bells : Nat → Int32) (ro_reached : Nat → Int32) (x1 : Int32) (x2 : Int32) (x3 : Int32) (res : R_X6_byBells) (fu : Nat) (hf : f_X6_byBells fu m_cornerCount m_streetCount m_bellCount m_ends m_farEnds m_lengths m_bells ro_reached x1 x2 x3 = some res) : Met l yX6_byBells wsX6_byBells rm_X6_byBells (cPre D (tyz cI cZ cT) [.ref (q 0), .int x1, .int x2, .int x3] sz [oX6 q (qr 0) (qm 0) (qs 0) (qt 0) (qro 0) (qto 0) (qw 0) v_asked, oX4 qm m_cornerCount m_streetCount m_guideCount m_bellCount m_hand m_handTold, rA (qm 8) cI 9 m_ends, rA (qm 9) cI 9 m_farEnds, rA (qm 10) cI 9 m_lengths, rA (qm 15) cI 8 m_bells, oX0 qro ro_minutes ro_paid ro_first, rA (qro 2) cI 501 ro_reached]) (cPi D (tyz cI cZ cT) (fun (r : Int32) (u : (Nat → Int32)) => (r, u) = res) (fun u => [oX6 q (qr 0) (qm 0) (qs 0) (qt 0) (qro 0) (qto 0) (qw 0) v_asked, oX4 qm m_cornerCount m_streetCount m_guideCount m_bellCount m_hand m_handTold, rA (qm 8) cI 9 m_ends, rA (qm 9) cI 9 m_farEnds, rA (qm 10) cI 9 m_lengths, rA (qm 15) cI 8 m_bells, oX0 qro ro_minutes ro_paid ro_first, rA (qro 2) cI 501 u]) [oX6 q (qr 0) (qm 0) (qs 0) (qt 0) (qro 0) (qto 0) (qw 0) v_asked, oX4 qm m_cornerCount m_streetCount m_guideCount m_bellCount m_hand m_handTold, rA (qm 8) cI 9 m_ends, rA (qm 9) cI 9 m_farEnds, rA (qm 10) cI 9 m_lengths, rA (qm 15) cI 8 m_bells, oX0 qro ro_minutes ro_paid ro_first, rA (qro 2) cI 501 ro_reached] sz) 0 0 (va_A [oX6 q (qr 0) (qm 0) (qs 0) (qt 0) (qro 0) (qto 0) (qw 0) v_asked, oX4 qm m_cornerCount m_streetCount m_guideCount m_bellCount m_hand m_handTold, rA (qm 8) cI 9 m_ends, rA (qm 9) cI 9 m_farEnds, rA (qm 10) cI 9 m_lengths, rA (qm 15) cI 8 m_bells, oX0 qro ro_minutes ro_paid ro_first, rA (qro 2) cI 501 ro_reached] sz) := by
  refine vx_meth_i (by decide) rfl (Nat.le_of_ble_eq_true rfl) ?_
  intro p e s m args below meth c A Q hx hb hml hown hts hK hP hD hA hS hret ls hl
  have hown : s.vm.findClass RX6 = some m.cls := hown
  have hl : lv_has ls 4 [(0, .ref (q 0)), (1, .int x1), (2, .int x2), (3, .int x3)] := hl
  have hFx : CallFix p m c cX6_byBells 4 s args wsX6_byBells RX6 := ⟨hx, hb, hml, hown, hts⟩
  have lk19 := hts (.fieldLink RX6 19 "FogGuides" "map" "LFogGuides$TownMap;") (by decide +kernel)
  have iw6 : ∀ w ∈ u_ws RX6 TX6 10, w ∈ wsX6_byBells := by decide +kernel
  have lk44 := hts (.fieldLink RX6 44 "FogGuides" "routes" "LFogGuides$Routes;") (by decide +kernel)
  have h := hf
  unfold f_X6_byBells at h
  obtain ⟨H, eH⟩ : ∃ H, H = s.heap := ⟨_, rfl⟩
  rw [← eH] at hP ⊢
  obtain ⟨locs, el⟩ : ∃ locs : List Loc, locs = [] := ⟨_, rfl⟩
  rw [← el] at hS ⊢
  have hS : va_S A s.heap H locs := by rw [eH]; exact hS
  refine lv_aload_n hx hb dX6_byBells_0 rfl (lv_at hl 0 rfl) ?_
  refine va_get (C := RX6) (T := TX6) (N := 10) (v := .ref (qm 0)) hx hb hts iw6 hown hK hP 0 rfl rfl 1 (Nat.le_of_ble_eq_true rfl) lk19 (fun _ h9 => h9) rfl dX6_byBells_1 ?_
  refine lv_iload_n hx hb dX6_byBells_4 rfl (lv_at hl 1 rfl) ?_
  obtain ⟨r1, hr1, h⟩ := xk_some h
  refine vx_VJ (As := [.int x1]) (rest := []) hFx (k_X4_hasCorner l D cI cZ cT qm H.size m_cornerCount m_streetCount m_guideCount m_bellCount m_hand m_handTold x1 r1 hr1) (cwV 1 hts gX6_byBells_X4_hasCorner rfl rfl rfl (by decide +kernel) ⟨Nat.le_of_ble_eq_true rfl, Nat.le_of_ble_eq_true rfl⟩) hK hP hD hS hA [1] rfl rfl 4 0 rfl rfl rfl hl.1 rfl (Nat.le_of_ble_eq_true rfl) dX6_byBells_5 ⟨Nat.zero_le _, Nat.zero_le _⟩ (fun H locs hP hS => ?_)
  refine lv_if_eq (tgt := 22) hx hb dX6_byBells_8 (by decide) (fun c2 => ?_) (fun c2 => ?_)
  · have h := (if_pos c2).symm.trans h
    refine lv_iconst (v := (-1)) hx hb dX6_byBells_22 (by decide) ?_
    exact hret (-1 : Int32) ro_reached H locs _ ls (Option.some.inj h) hP hD hS dX6_byBells_23
  · have h := (if_neg c2).symm.trans h
    refine lv_aload_n hx hb dX6_byBells_11 rfl (lv_at hl 0 rfl) ?_
    refine va_get (C := RX6) (T := TX6) (N := 10) (v := .ref (qm 0)) hx hb hts iw6 hown hK hP 0 rfl rfl 1 (Nat.le_of_ble_eq_true rfl) lk19 (fun _ h9 => h9) rfl dX6_byBells_12 ?_
    refine lv_iload_n hx hb dX6_byBells_15 rfl (lv_at hl 3 rfl) ?_
    obtain ⟨r3, hr3, h⟩ := xk_some h
    refine vx_VJ (As := [.int x3]) (rest := []) hFx (k_X4_hasCorner l D cI cZ cT qm H.size m_cornerCount m_streetCount m_guideCount m_bellCount m_hand m_handTold x3 r3 hr3) (cwV 1 hts gX6_byBells_X4_hasCorner rfl rfl rfl (by decide +kernel) ⟨Nat.le_of_ble_eq_true rfl, Nat.le_of_ble_eq_true rfl⟩) hK hP hD hS hA [1] rfl rfl 4 0 rfl rfl rfl hl.1 rfl (Nat.le_of_ble_eq_true rfl) dX6_byBells_16 ⟨Nat.zero_le _, Nat.zero_le _⟩ (fun H locs hP hS => ?_)
    refine lv_if_ne (tgt := 24) hx hb dX6_byBells_19 (by decide) (fun c4 => ?_) (fun c4 => ?_)
    · have h := (if_neg c4).symm.trans h
      refine lv_iload_n hx hb dX6_byBells_24 rfl (lv_at hl 2 rfl) ?_
      refine lv_if_lt (tgt := 35) hx hb dX6_byBells_25 (by decide) (fun c5 => ?_) (fun c5 => ?_)
      · have h := (if_pos c5).symm.trans h
        refine lv_iconst (v := (-1)) hx hb dX6_byBells_35 (by decide) ?_
        exact hret (-1 : Int32) ro_reached H locs _ ls (Option.some.inj h) hP hD hS dX6_byBells_36
      · have h := (if_neg c5).symm.trans h
        refine lv_iload_n hx hb dX6_byBells_28 rfl (lv_at hl 2 rfl) ?_
        refine lv_sipush (v := 9999) hx hb dX6_byBells_29 (by decide) ?_
        refine lv_icmp_le (tgt := 37) hx hb dX6_byBells_32 (by decide) (fun c6 => ?_) (fun c6 => ?_)
        · have h := (if_pos c6).symm.trans h
          refine lv_aload_n hx hb dX6_byBells_37 rfl (lv_at hl 0 rfl) ?_
          refine va_get (C := RX6) (T := TX6) (N := 10) (v := .ref (qro 0)) hx hb hts iw6 hown hK hP 0 rfl rfl 6 (Nat.le_of_ble_eq_true rfl) lk44 (fun _ h9 => h9) rfl dX6_byBells_38 ?_
          refine lv_aload_n hx hb dX6_byBells_41 rfl (lv_at hl 0 rfl) ?_
          refine va_get (C := RX6) (T := TX6) (N := 10) (v := .ref (qm 0)) hx hb hts iw6 hown hK hP 0 rfl rfl 1 (Nat.le_of_ble_eq_true rfl) lk19 (fun _ h9 => h9) rfl dX6_byBells_42 ?_
          refine lv_iload_n hx hb dX6_byBells_45 rfl (lv_at hl 1 rfl) ?_
          refine lv_iload_n hx hb dX6_byBells_46 rfl (lv_at hl 2 rfl) ?_
          refine lv_iload_n hx hb dX6_byBells_47 rfl (lv_at hl 3 rfl) ?_
          obtain ⟨r7, hr7, h⟩ := xk_some h
          refine vx_VI (As := [.ref (qm 0), .int x1, .int x2, .int x3]) (rest := []) (wr := [oX6 q (qr 0) (qm 0) (qs 0) (qt 0) (qro 0) (qto 0) (qw 0) v_asked]) (wn := [oX6 q (qr 0) (qm 0) (qs 0) (qt 0) (qro 0) (qto 0) (qw 0) v_asked, oX4 qm m_cornerCount m_streetCount m_guideCount m_bellCount m_hand m_handTold, rA (qm 8) cI 9 m_ends, rA (qm 9) cI 9 m_farEnds, rA (qm 10) cI 9 m_lengths, rA (qm 15) cI 8 m_bells, oX0 qro ro_minutes ro_paid ro_first, rA (qro 2) cI 501 r7.2]) hFx (k_X0_minutesAlone l D cI cZ cT qro qm H.size ro_minutes ro_paid ro_first m_cornerCount m_streetCount m_guideCount m_bellCount m_hand m_handTold ro_reached m_ends m_farEnds m_lengths m_bells x1 x2 x3 r7 fu hr7) (cwV 4 hts gX6_byBells_X0_minutesAlone rfl rfl rfl (by decide +kernel) ⟨Nat.le_of_ble_eq_true rfl, Nat.le_of_ble_eq_true rfl⟩) hK hP hD hS hA [6, 7, 1, 2, 3, 4, 5] [0] [0, 3, 4, 5, 6, 7, 1, 2] rfl rfl rfl rfl (by decide) rfl rfl 0 0 rfl rfl rfl hl.1 rfl (Nat.le_of_ble_eq_true rfl) dX6_byBells_48 ⟨Nat.zero_le _, Nat.zero_le _⟩ (fun H locs hP hD hS => ?_)
          exact hret r7.1 r7.2 H locs _ ls (Option.some.inj h) hP hD hS dX6_byBells_51
        · have h := (if_neg c6).symm.trans h
          refine lv_iconst (v := (-1)) hx hb dX6_byBells_35 (by decide) ?_
          exact hret (-1 : Int32) ro_reached H locs _ ls (Option.some.inj h) hP hD hS dX6_byBells_36
    · have h := (if_pos c4).symm.trans h
      refine lv_iconst (v := (-1)) hx hb dX6_byBells_22 (by decide) ?_
      exact hret (-1 : Int32) ro_reached H locs _ ls (Option.some.inj h) hP hD hS dX6_byBells_23
abbrev rm_X6_taught : Room := { frames := 2, cells := 0, slots := 0, locals := 43 }
set_option maxHeartbeats 4000000 in
set_option maxRecDepth 100000 in
theorem k_X6_taught (l : Launch) (D : va_G) (cI cZ cT : ClassId) (q : Nat → Nat) (qr : Nat → Nat) (qm : Nat → Nat) (qs : Nat → Nat) (qt : Nat → Nat) (qro : Nat → Nat) (qto : Nat → Nat) (qw : Nat → Nat) (qi0 : Nat → Nat) (qi1 : Nat → Nat) (sz : Nat) (v_asked : Int64) (m_cornerCount : Int32) (m_streetCount : Int32) (m_guideCount : Int32) (m_bellCount : Int32) (m_hand : Int32) (m_handTold : Int32) (m_ends : Nat → Int32) (m_farEnds : Nat → Int32) (m_knows : Nat → Int32) (m_his : Nat → Int32) (x1 : Int32) (x2 : Int32) (res : R_X6_taught) (fu : Nat) (hf : f_X6_taught fu m_streetCount m_guideCount m_ends m_farEnds m_knows m_his x1 x2 = some res) : Met l yX6_taught wsX6_taught rm_X6_taught (cPre D (tyz cI cZ cT) [.ref (q 0), .int x1, .int x2] sz [oX6 q (qr 0) (qm 0) (qs 0) (qt 0) (qro 0) (qto 0) (qw 0) v_asked, oX4 qm m_cornerCount m_streetCount m_guideCount m_bellCount m_hand m_handTold, rA (qm 8) cI 9 m_ends, rA (qm 9) cI 9 m_farEnds, rA (qm 13) cI 4 m_knows, rA (qm 14) cI 4 m_his]) (cPi D (tyz cI cZ cT) (fun (r : Int32) (_ : Unit) => r = res) (fun _ => [oX6 q (qr 0) (qm 0) (qs 0) (qt 0) (qro 0) (qto 0) (qw 0) v_asked, oX4 qm m_cornerCount m_streetCount m_guideCount m_bellCount m_hand m_handTold, rA (qm 8) cI 9 m_ends, rA (qm 9) cI 9 m_farEnds, rA (qm 13) cI 4 m_knows, rA (qm 14) cI 4 m_his]) [oX6 q (qr 0) (qm 0) (qs 0) (qt 0) (qro 0) (qto 0) (qw 0) v_asked, oX4 qm m_cornerCount m_streetCount m_guideCount m_bellCount m_hand m_handTold, rA (qm 8) cI 9 m_ends, rA (qm 9) cI 9 m_farEnds, rA (qm 13) cI 4 m_knows, rA (qm 14) cI 4 m_his] sz) 0 0 (va_A [oX6 q (qr 0) (qm 0) (qs 0) (qt 0) (qro 0) (qto 0) (qw 0) v_asked, oX4 qm m_cornerCount m_streetCount m_guideCount m_bellCount m_hand m_handTold, rA (qm 8) cI 9 m_ends, rA (qm 9) cI 9 m_farEnds, rA (qm 13) cI 4 m_knows, rA (qm 14) cI 4 m_his] sz) := by
  refine vx_meth_i (by decide) rfl (Nat.le_of_ble_eq_true rfl) ?_
  intro p e s m args below meth c A Q hx hb hml hown hts hK hP hD hA hS hret ls hl
  have hown : s.vm.findClass RX6 = some m.cls := hown
  have hl : lv_has ls 7 [(0, .ref (q 0)), (1, .int x1), (2, .int x2)] := hl
  have hFx : CallFix p m c cX6_taught 7 s args wsX6_taught RX6 := ⟨hx, hb, hml, hown, hts⟩
  have lk19 := hts (.fieldLink RX6 19 "FogGuides" "map" "LFogGuides$TownMap;") (by decide +kernel)
  have iw6 : ∀ w ∈ u_ws RX6 TX6 10, w ∈ wsX6_taught := by decide +kernel
  have lk191 := hts (.fieldLink RX6 191 "FogGuides$TownMap" "streetCount" "I") (by decide +kernel)
  have iw4 : ∀ w ∈ u_ws RX4 TX4 15, w ∈ wsX6_taught := by decide +kernel
  have lk115 := hts (.fieldLink RX6 115 "FogGuides$TownMap" "knows" "[I") (by decide +kernel)
  have lk118 := hts (.fieldLink RX6 118 "FogGuides$TownMap" "his" "[I") (by decide +kernel)
  have hL32 : ∀ (n32 : Nat), ∀ (x1 : Int32) (x2 : Int32) (x3 : Int32) (x4 : Int32) (x5 : Int32) (H : Heap) (locs : List Loc) (ls : Array Slot), f_X6_taught_L32 fu n32 m_streetCount m_guideCount m_ends m_farEnds m_knows m_his x1 x2 x3 x4 x5 = some res → va_P D vwCl [oX6 q (qr 0) (qm 0) (qs 0) (qt 0) (qro 0) (qto 0) (qw 0) v_asked, oX4 qm m_cornerCount m_streetCount m_guideCount m_bellCount m_hand m_handTold, rA (qm 8) cI 9 m_ends, rA (qm 9) cI 9 m_farEnds, rA (qm 13) cI 4 m_knows, rA (qm 14) cI 4 m_his] H → va_D A [oX6 q (qr 0) (qm 0) (qs 0) (qt 0) (qro 0) (qto 0) (qw 0) v_asked, oX4 qm m_cornerCount m_streetCount m_guideCount m_bellCount m_hand m_handTold, rA (qm 8) cI 9 m_ends, rA (qm 9) cI 9 m_farEnds, rA (qm 13) cI 4 m_knows, rA (qm 14) cI 4 m_his] → va_S A s.heap H locs → lv_has ls 7 [(0, .ref (q 0)), (1, .int x1), (2, .int x2), (3, .int x3), (4, .int x4), (5, .int x5)] → W p l e rm_X6_taught s m args below meth c H locs 0 0 Q (F0 m 32 ls []) := by
    intro n32
    induction n32 with
    | zero =>
      intro x1 x2 x3 x4 x5 H locs ls h hP hD hS hl
      cases (show (none : Option R_X6_taught) = some res from h)
    | succ n32 ih32 =>
      intro x1 x2 x3 x4 x5 H locs ls h hP hD hS hl
      have h : f_X6_taught_L32b fu (f_X6_taught_L32 fu n32) m_streetCount m_guideCount m_ends m_farEnds m_knows m_his x1 x2 x3 x4 x5 = some res := h
      unfold f_X6_taught_L32b at h
      refine lv_iload hx hb dX6_taught_32 (lv_at hl 5 rfl) ?_
      refine lv_aload_n hx hb dX6_taught_34 rfl (lv_at hl 0 rfl) ?_
      refine va_get (C := RX6) (T := TX6) (N := 10) (v := .ref (qm 0)) hx hb hts iw6 hown hK hP 0 rfl rfl 1 (Nat.le_of_ble_eq_true rfl) lk19 (fun _ h9 => h9) rfl dX6_taught_35 ?_
      refine va_get (C := RX4) (T := TX4) (N := 15) (v := .int m_streetCount) hx hb hts iw4 hown hK hP 1 rfl rfl 1 (Nat.le_of_ble_eq_true rfl) lk191 (fun _ h9 => h9) rfl dX6_taught_38 ?_
      refine lv_icmp_ge (tgt := 115) hx hb dX6_taught_41 (by decide) (fun c1 => ?_) (fun c1 => ?_)
      · have h := (if_pos c1).symm.trans h
        refine lv_iload_n hx hb dX6_taught_115 rfl (lv_at hl 2 rfl) ?_
        refine lv_if_ne (tgt := 123) hx hb dX6_taught_116 (by decide) (fun c2 => ?_) (fun c2 => ?_)
        · have h := (if_neg c2).symm.trans h
          refine lv_iload hx hb dX6_taught_123 (lv_at hl 4 rfl) ?_
          exact hret x4 () H locs _ ls (Option.some.inj h) hP hD hS dX6_taught_125
        · have h := (if_pos c2).symm.trans h
          refine lv_iload_n hx hb dX6_taught_119 rfl (lv_at hl 3 rfl) ?_
          refine lv_goto (tgt := 125) hx hb dX6_taught_120 (by decide) ?_
          exact hret x3 () H locs _ ls (Option.some.inj h) hP hD hS dX6_taught_125
      · have h := (if_neg c1).symm.trans h
        refine lv_aload_n hx hb dX6_taught_44 rfl (lv_at hl 0 rfl) ?_
        refine va_get (C := RX6) (T := TX6) (N := 10) (v := .ref (qm 0)) hx hb hts iw6 hown hK hP 0 rfl rfl 1 (Nat.le_of_ble_eq_true rfl) lk19 (fun _ h9 => h9) rfl dX6_taught_45 ?_
        refine lv_iload_n hx hb dX6_taught_48 rfl (lv_at hl 1 rfl) ?_
        refine lv_iload hx hb dX6_taught_49 (lv_at hl 5 rfl) ?_
        obtain ⟨r3, hr3, h⟩ := xk_some h
        refine vx_VJ (As := [.int x1, .int x5]) (rest := []) hFx (k_X4_knowsStreet l D cI cZ cT qm H.size m_cornerCount m_streetCount m_guideCount m_bellCount m_hand m_handTold m_knows x1 x5 r3 hr3) (cwV 2 hts gX6_taught_X4_knowsStreet rfl rfl rfl (by decide +kernel) ⟨Nat.le_of_ble_eq_true rfl, Nat.le_of_ble_eq_true rfl⟩) hK hP hD hS hA [1, 4] rfl rfl 4 0 rfl rfl rfl hl.1 rfl (Nat.le_of_ble_eq_true rfl) dX6_taught_51 ⟨Nat.zero_le _, Nat.zero_le _⟩ (fun H locs hP hS => ?_)
        refine lv_if_eq (tgt := 60) hx hb dX6_taught_54 (by decide) (fun c4 => ?_) (fun c4 => ?_)
        · have h := (if_pos c4).symm.trans h
          refine lv_aload_n hx hb dX6_taught_60 rfl (lv_at hl 0 rfl) ?_
          refine va_get (C := RX6) (T := TX6) (N := 10) (v := .ref (qm 0)) hx hb hts iw6 hown hK hP 0 rfl rfl 1 (Nat.le_of_ble_eq_true rfl) lk19 (fun _ h9 => h9) rfl dX6_taught_61 ?_
          refine lv_aload_n hx hb dX6_taught_64 rfl (lv_at hl 0 rfl) ?_
          refine va_get (C := RX6) (T := TX6) (N := 10) (v := .ref (qm 0)) hx hb hts iw6 hown hK hP 0 rfl rfl 1 (Nat.le_of_ble_eq_true rfl) lk19 (fun _ h9 => h9) rfl dX6_taught_65 ?_
          refine va_get (C := RX4) (T := TX4) (N := 15) (v := .ref (qm 13)) hx hb hts iw4 hown hK hP 1 rfl rfl 12 (Nat.le_of_ble_eq_true rfl) lk115 (fun _ h9 => h9) rfl dX6_taught_68 ?_
          refine lv_iload_n hx hb dX6_taught_71 rfl (lv_at hl 1 rfl) ?_
          obtain ⟨hi5, h⟩ := xb_some h
          refine va_iald hx hb hK hP 4 0 rfl rfl hi5 dX6_taught_72 ?_
          refine lv_iconst (v := 1) hx hb dX6_taught_73 (by decide) ?_
          refine lv_iload hx hb dX6_taught_74 (lv_at hl 5 rfl) ?_
          refine lv_ishl hx hb dX6_taught_76 ?_
          refine lv_ior hx hb dX6_taught_77 ?_
          refine lv_aload_n hx hb dX6_taught_78 rfl (lv_at hl 0 rfl) ?_
          refine va_get (C := RX6) (T := TX6) (N := 10) (v := .ref (qm 0)) hx hb hts iw6 hown hK hP 0 rfl rfl 1 (Nat.le_of_ble_eq_true rfl) lk19 (fun _ h9 => h9) rfl dX6_taught_79 ?_
          refine va_get (C := RX4) (T := TX4) (N := 15) (v := .ref (qm 14)) hx hb hts iw4 hown hK hP 1 rfl rfl 13 (Nat.le_of_ble_eq_true rfl) lk118 (fun _ h9 => h9) rfl dX6_taught_82 ?_
          refine lv_iload_n hx hb dX6_taught_85 rfl (lv_at hl 1 rfl) ?_
          obtain ⟨hi6, h⟩ := xb_some h
          refine va_iald hx hb hK hP 5 0 rfl rfl hi6 dX6_taught_86 ?_
          obtain ⟨r7, hr7, h⟩ := xk_some h
          refine vx_VJ (As := [.int ((m_knows x1.toNatClampNeg) ||| ((1 : Int32) <<< (x5 &&& 31))), .int (m_his x1.toNatClampNeg)]) (rest := []) hFx (k_X4_reachedBy l D cI cZ cT qm H.size m_cornerCount m_streetCount m_guideCount m_bellCount m_hand m_handTold m_ends m_farEnds ((m_knows x1.toNatClampNeg) ||| ((1 : Int32) <<< (x5 &&& 31))) (m_his x1.toNatClampNeg) r7 fu hr7) (cwV 2 hts gX6_taught_X4_reachedBy rfl rfl rfl (by decide +kernel) ⟨Nat.le_of_ble_eq_true rfl, Nat.le_of_ble_eq_true rfl⟩) hK hP hD hS hA [1, 2, 3] rfl rfl 4 0 rfl rfl rfl hl.1 rfl (Nat.le_of_ble_eq_true rfl) dX6_taught_87 ⟨Nat.zero_le _, Nat.zero_le _⟩ (fun H locs hP hS => ?_)
          obtain ⟨r8, hr8, h⟩ := xk_some h
          refine vx_SJ (As := [.int r7]) (rest := []) hFx (k_J6_bitCount_0f7a4 l D cI cZ cT H.size r7 r8 hr8) (vx_cwS 1 hts gX6_taught_J6_bitCount_0f7a4 rfl rfl rfl (by decide +kernel) ⟨Nat.le_of_ble_eq_true rfl, Nat.le_of_ble_eq_true rfl⟩) hK hP hD hS hA rfl hl.1 rfl (Nat.le_of_ble_eq_true rfl) dX6_taught_90 ⟨Nat.zero_le _, Nat.zero_le _⟩ (fun H locs hP hS => ?_)
          refine lv_istore (lv' := [(6, .int r8), (0, .ref (q 0)), (1, .int x1), (2, .int x2), (3, .int x3), (4, .int x4), (5, .int x5)]) hx hb dX6_taught_93 hl (by decide) rfl (fun ls hl => ?_)
          refine lv_iload hx hb dX6_taught_95 (lv_at hl 0 rfl) ?_
          refine lv_iload hx hb dX6_taught_97 (lv_at hl 5 rfl) ?_
          refine lv_icmp_le (tgt := 109) hx hb dX6_taught_99 (by decide) (fun c9 => ?_) (fun c9 => ?_)
          · have h := (if_pos c9).symm.trans h
            refine lv_iinc (v := x5 + 1) (lv' := [(5, .int (x5 + 1)), (6, .int r8), (0, .ref (q 0)), (1, .int x1), (2, .int x2), (3, .int x3), (4, .int x4)]) hx hb dX6_taught_109 hl (k := 6) rfl rfl (by decide) rfl (fun ls hl => ?_)
            refine lv_goto (tgt := 32) hx hb dX6_taught_112 (by decide) ?_
            exact ih32 x1 x2 x3 x4 (x5 + 1) H locs ls h hP hD hS (lv_sub hl [2, 3, 4, 5, 6, 0] rfl)
          · have h := (if_neg c9).symm.trans h
            refine lv_iload hx hb dX6_taught_102 (lv_at hl 0 rfl) ?_
            refine lv_istore (lv' := [(4, .int r8), (6, .int r8), (0, .ref (q 0)), (1, .int x1), (2, .int x2), (3, .int x3), (5, .int x5)]) hx hb dX6_taught_104 hl (by decide) rfl (fun ls hl => ?_)
            refine lv_iload hx hb dX6_taught_106 (lv_at hl 6 rfl) ?_
            refine lv_istore_n (lv' := [(3, .int x5), (4, .int r8), (6, .int r8), (0, .ref (q 0)), (1, .int x1), (2, .int x2), (5, .int x5)]) hx hb dX6_taught_108 rfl hl (by decide) rfl (fun ls hl => ?_)
            refine lv_iinc (v := x5 + 1) (lv' := [(5, .int (x5 + 1)), (3, .int x5), (4, .int r8), (6, .int r8), (0, .ref (q 0)), (1, .int x1), (2, .int x2)]) hx hb dX6_taught_109 hl (k := 6) rfl rfl (by decide) rfl (fun ls hl => ?_)
            refine lv_goto (tgt := 32) hx hb dX6_taught_112 (by decide) ?_
            exact ih32 x1 x2 x5 r8 (x5 + 1) H locs ls h hP hD hS (lv_sub hl [4, 5, 6, 1, 2, 0] rfl)
        · have h := (if_neg c4).symm.trans h
          refine lv_goto (tgt := 109) hx hb dX6_taught_57 (by decide) ?_
          refine lv_iinc (v := x5 + 1) (lv' := [(5, .int (x5 + 1)), (0, .ref (q 0)), (1, .int x1), (2, .int x2), (3, .int x3), (4, .int x4)]) hx hb dX6_taught_109 hl (k := 5) rfl rfl (by decide) rfl (fun ls hl => ?_)
          refine lv_goto (tgt := 32) hx hb dX6_taught_112 (by decide) ?_
          exact ih32 x1 x2 x3 x4 (x5 + 1) H locs ls h hP hD hS (lv_sub hl [1, 2, 3, 4, 5, 0] rfl)
  have h := hf
  unfold f_X6_taught at h
  obtain ⟨H, eH⟩ : ∃ H, H = s.heap := ⟨_, rfl⟩
  rw [← eH] at hP ⊢
  obtain ⟨locs, el⟩ : ∃ locs : List Loc, locs = [] := ⟨_, rfl⟩
  rw [← el] at hS ⊢
  have hS : va_S A s.heap H locs := by rw [eH]; exact hS
  refine lv_aload_n hx hb dX6_taught_0 rfl (lv_at hl 0 rfl) ?_
  refine va_get (C := RX6) (T := TX6) (N := 10) (v := .ref (qm 0)) hx hb hts iw6 hown hK hP 0 rfl rfl 1 (Nat.le_of_ble_eq_true rfl) lk19 (fun _ h9 => h9) rfl dX6_taught_1 ?_
  refine lv_iload_n hx hb dX6_taught_4 rfl (lv_at hl 1 rfl) ?_
  obtain ⟨r10, hr10, h⟩ := xk_some h
  refine vx_VJ (As := [.int x1]) (rest := []) hFx (k_X4_hasGuide l D cI cZ cT qm H.size m_cornerCount m_streetCount m_guideCount m_bellCount m_hand m_handTold x1 r10 hr10) (cwV 1 hts gX6_taught_X4_hasGuide rfl rfl rfl (by decide +kernel) ⟨Nat.le_of_ble_eq_true rfl, Nat.le_of_ble_eq_true rfl⟩) hK hP hD hS hA [1] rfl rfl 4 0 rfl rfl rfl hl.1 rfl (Nat.le_of_ble_eq_true rfl) dX6_taught_5 ⟨Nat.zero_le _, Nat.zero_le _⟩ (fun H locs hP hS => ?_)
  refine lv_if_eq (tgt := 20) hx hb dX6_taught_8 (by decide) (fun c11 => ?_) (fun c11 => ?_)
  · have h := (if_pos c11).symm.trans h
    refine lv_iconst (v := (-1)) hx hb dX6_taught_20 (by decide) ?_
    exact hret (-1 : Int32) () H locs _ ls (Option.some.inj h) hP hD hS dX6_taught_21
  · have h := (if_neg c11).symm.trans h
    refine lv_iload_n hx hb dX6_taught_11 rfl (lv_at hl 2 rfl) ?_
    refine lv_if_lt (tgt := 20) hx hb dX6_taught_12 (by decide) (fun c12 => ?_) (fun c12 => ?_)
    · have h := (if_pos c12).symm.trans h
      refine lv_iconst (v := (-1)) hx hb dX6_taught_20 (by decide) ?_
      exact hret (-1 : Int32) () H locs _ ls (Option.some.inj h) hP hD hS dX6_taught_21
    · have h := (if_neg c12).symm.trans h
      refine lv_iload_n hx hb dX6_taught_15 rfl (lv_at hl 2 rfl) ?_
      refine lv_iconst (v := 1) hx hb dX6_taught_16 (by decide) ?_
      refine lv_icmp_le (tgt := 22) hx hb dX6_taught_17 (by decide) (fun c13 => ?_) (fun c13 => ?_)
      · have h := (if_pos c13).symm.trans h
        refine lv_bipush (v := (-9)) hx hb dX6_taught_22 (by decide) ?_
        refine lv_istore_n (lv' := [(3, .int (-9 : Int32)), (0, .ref (q 0)), (1, .int x1), (2, .int x2)]) hx hb dX6_taught_24 rfl hl (by decide) rfl (fun ls hl => ?_)
        refine lv_bipush (v := (-9)) hx hb dX6_taught_25 (by decide) ?_
        refine lv_istore (lv' := [(4, .int (-9 : Int32)), (3, .int (-9 : Int32)), (0, .ref (q 0)), (1, .int x1), (2, .int x2)]) hx hb dX6_taught_27 hl (by decide) rfl (fun ls hl => ?_)
        refine lv_iconst (v := 0) hx hb dX6_taught_29 (by decide) ?_
        refine lv_istore (lv' := [(5, .int (0 : Int32)), (4, .int (-9 : Int32)), (3, .int (-9 : Int32)), (0, .ref (q 0)), (1, .int x1), (2, .int x2)]) hx hb dX6_taught_30 hl (by decide) rfl (fun ls hl => ?_)
        exact hL32 fu x1 x2 (-9 : Int32) (-9 : Int32) (0 : Int32) H locs ls h hP hD hS (lv_sub hl [3, 4, 5, 2, 1, 0] rfl)
      · have h := (if_neg c13).symm.trans h
        refine lv_iconst (v := (-1)) hx hb dX6_taught_20 (by decide) ?_
        exact hret (-1 : Int32) () H locs _ ls (Option.some.inj h) hP hD hS dX6_taught_21
abbrev rm_X6_feels : Room := { frames := 1, cells := 0, slots := 0, locals := 21 }
set_option maxHeartbeats 4000000 in
set_option maxRecDepth 100000 in
theorem k_X6_feels (l : Launch) (D : va_G) (cI cZ cT : ClassId) (q : Nat → Nat) (qr : Nat → Nat) (qm : Nat → Nat) (qs : Nat → Nat) (qt : Nat → Nat) (qro : Nat → Nat) (qto : Nat → Nat) (qw : Nat → Nat) (qi0 : Nat → Nat) (qi1 : Nat → Nat) (sz : Nat) (v_asked : Int64) (to_felt : Int32) (to_walked : Int32) (to_feltMarks : Nat → Int32) (x1 : Int32) (res : R_X6_feels) (hf : f_X6_feels to_felt to_feltMarks x1 = some res) : Met l yX6_feels wsX6_feels rm_X6_feels (cPre D (tyz cI cZ cT) [.ref (q 0), .int x1] sz [oX6 q (qr 0) (qm 0) (qs 0) (qt 0) (qro 0) (qto 0) (qw 0) v_asked, oX3 qto to_felt to_walked, rA (qto 3) cI 6 to_feltMarks]) (cPi D (tyz cI cZ cT) (fun (r : Int32) (u : Int32 × (Nat → Int32)) => (r, u) = res) (fun u => [oX6 q (qr 0) (qm 0) (qs 0) (qt 0) (qro 0) (qto 0) (qw 0) v_asked, oX3 qto u.1 to_walked, rA (qto 3) cI 6 u.2]) [oX6 q (qr 0) (qm 0) (qs 0) (qt 0) (qro 0) (qto 0) (qw 0) v_asked, oX3 qto to_felt to_walked, rA (qto 3) cI 6 to_feltMarks] sz) 0 0 (va_A [oX6 q (qr 0) (qm 0) (qs 0) (qt 0) (qro 0) (qto 0) (qw 0) v_asked, oX3 qto to_felt to_walked, rA (qto 3) cI 6 to_feltMarks] sz) := by
  refine vx_meth_i (by decide) rfl (Nat.le_of_ble_eq_true rfl) ?_
  intro p e s m args below meth c A Q hx hb hml hown hts hK hP hD hA hS hret ls hl
  have hown : s.vm.findClass RX6 = some m.cls := hown
  have hl : lv_has ls 2 [(0, .ref (q 0)), (1, .int x1)] := hl
  have hFx : CallFix p m c cX6_feels 2 s args wsX6_feels RX6 := ⟨hx, hb, hml, hown, hts⟩
  have lk51 := hts (.fieldLink RX6 51 "FogGuides" "touches" "LFogGuides$Touches;") (by decide +kernel)
  have iw6 : ∀ w ∈ u_ws RX6 TX6 10, w ∈ wsX6_feels := by decide +kernel
  have lk231 := hts (.fieldLink RX6 231 "FogGuides$Touches" "felt" "I") (by decide +kernel)
  have iw3 : ∀ w ∈ u_ws RX3 TX3 6, w ∈ wsX6_feels := by decide +kernel
  have h := hf
  unfold f_X6_feels at h
  obtain ⟨H, eH⟩ : ∃ H, H = s.heap := ⟨_, rfl⟩
  rw [← eH] at hP ⊢
  obtain ⟨locs, el⟩ : ∃ locs : List Loc, locs = [] := ⟨_, rfl⟩
  rw [← el] at hS ⊢
  have hS : va_S A s.heap H locs := by rw [eH]; exact hS
  refine lv_iload_n hx hb dX6_feels_0 rfl (lv_at hl 1 rfl) ?_
  refine lv_if_lt (tgt := 9) hx hb dX6_feels_1 (by decide) (fun c1 => ?_) (fun c1 => ?_)
  · have h := (if_pos c1).symm.trans h
    refine lv_iconst (v := (-1)) hx hb dX6_feels_9 (by decide) ?_
    exact hret (-1 : Int32) (to_felt, to_feltMarks) H locs _ ls (Option.some.inj h) hP hD hS dX6_feels_10
  · have h := (if_neg c1).symm.trans h
    refine lv_iload_n hx hb dX6_feels_4 rfl (lv_at hl 1 rfl) ?_
    refine lv_iconst (v := 3) hx hb dX6_feels_5 (by decide) ?_
    refine lv_icmp_le (tgt := 11) hx hb dX6_feels_6 (by decide) (fun c2 => ?_) (fun c2 => ?_)
    · have h := (if_pos c2).symm.trans h
      refine lv_aload_n hx hb dX6_feels_11 rfl (lv_at hl 0 rfl) ?_
      refine va_get (C := RX6) (T := TX6) (N := 10) (v := .ref (qto 0)) hx hb hts iw6 hown hK hP 0 rfl rfl 7 (Nat.le_of_ble_eq_true rfl) lk51 (fun _ h9 => h9) rfl dX6_feels_12 ?_
      refine lv_iload_n hx hb dX6_feels_15 rfl (lv_at hl 1 rfl) ?_
      obtain ⟨r3, hr3, h⟩ := xk_some h
      refine vx_VI (As := [.int x1]) (rest := []) (wr := [oX6 q (qr 0) (qm 0) (qs 0) (qt 0) (qro 0) (qto 0) (qw 0) v_asked]) (wn := [oX6 q (qr 0) (qm 0) (qs 0) (qt 0) (qro 0) (qto 0) (qw 0) v_asked, oX3 qto r3.2.1 to_walked, rA (qto 3) cI 6 r3.2.2]) hFx (k_X3_addMark l D cI cZ cT qto H.size to_felt to_walked to_feltMarks x1 r3 hr3) (cwV 1 hts gX6_feels_X3_addMark rfl rfl rfl (by decide +kernel) ⟨Nat.le_of_ble_eq_true rfl, Nat.le_of_ble_eq_true rfl⟩) hK hP hD hS hA [1, 2] [0] [0, 1, 2] rfl rfl rfl rfl (by decide) rfl rfl 3 0 rfl rfl rfl hl.1 rfl (Nat.le_of_ble_eq_true rfl) dX6_feels_16 ⟨Nat.zero_le _, Nat.zero_le _⟩ (fun H locs hP hD hS => ?_)
      refine lv_if_eq (tgt := 32) hx hb dX6_feels_19 (by decide) (fun c4 => ?_) (fun c4 => ?_)
      · have h := (if_pos c4).symm.trans h
        refine lv_bipush (v := (-3)) hx hb dX6_feels_32 (by decide) ?_
        exact hret (-3 : Int32) (r3.2.1, r3.2.2) H locs _ ls (Option.some.inj h) hP hD hS dX6_feels_34
      · have h := (if_neg c4).symm.trans h
        refine lv_aload_n hx hb dX6_feels_22 rfl (lv_at hl 0 rfl) ?_
        refine va_get (C := RX6) (T := TX6) (N := 10) (v := .ref (qto 0)) hx hb hts iw6 hown hK hP 0 rfl rfl 7 (Nat.le_of_ble_eq_true rfl) lk51 (fun _ h9 => h9) rfl dX6_feels_23 ?_
        refine va_get (C := RX3) (T := TX3) (N := 6) (v := .int r3.2.1) hx hb hts iw3 hown hK hP 1 rfl rfl 0 (Nat.le_of_ble_eq_true rfl) lk231 (fun _ h9 => h9) rfl dX6_feels_26 ?_
        refine lv_goto (tgt := 34) hx hb dX6_feels_29 (by decide) ?_
        exact hret r3.2.1 (r3.2.1, r3.2.2) H locs _ ls (Option.some.inj h) hP hD hS dX6_feels_34
    · have h := (if_neg c2).symm.trans h
      refine lv_iconst (v := (-1)) hx hb dX6_feels_9 (by decide) ?_
      exact hret (-1 : Int32) (to_felt, to_feltMarks) H locs _ ls (Option.some.inj h) hP hD hS dX6_feels_10
abbrev rm_X6_went : Room := { frames := 2, cells := 0, slots := 0, locals := 45 }
set_option maxHeartbeats 4000000 in
set_option maxRecDepth 100000 in
theorem k_X6_went (l : Launch) (D : va_G) (cI cZ cT : ClassId) (q : Nat → Nat) (qr : Nat → Nat) (qm : Nat → Nat) (qs : Nat → Nat) (qt : Nat → Nat) (qro : Nat → Nat) (qto : Nat → Nat) (qw : Nat → Nat) (qi0 : Nat → Nat) (qi1 : Nat → Nat) (sz : Nat) (v_asked : Int64) (m_cornerCount : Int32) (m_streetCount : Int32) (m_guideCount : Int32) (m_bellCount : Int32) (m_hand : Int32) (m_handTold : Int32) (to_felt : Int32) (to_walked : Int32) (m_ends : Nat → Int32) (m_farEnds : Nat → Int32) (to_walkedCorners : Nat → Int32) (x1 : Int32) (res : R_X6_went) (fu : Nat) (hf : f_X6_went fu m_cornerCount m_streetCount m_ends m_farEnds to_walked to_walkedCorners x1 = some res) : Met l yX6_went wsX6_went rm_X6_went (cPre D (tyz cI cZ cT) [.ref (q 0), .int x1] sz [oX6 q (qr 0) (qm 0) (qs 0) (qt 0) (qro 0) (qto 0) (qw 0) v_asked, oX4 qm m_cornerCount m_streetCount m_guideCount m_bellCount m_hand m_handTold, rA (qm 8) cI 9 m_ends, rA (qm 9) cI 9 m_farEnds, oX3 qto to_felt to_walked, rA (qto 4) cI 6 to_walkedCorners]) (cPi D (tyz cI cZ cT) (fun (r : Int32) (u : Int32 × (Nat → Int32)) => (r, u) = res) (fun u => [oX6 q (qr 0) (qm 0) (qs 0) (qt 0) (qro 0) (qto 0) (qw 0) v_asked, oX4 qm m_cornerCount m_streetCount m_guideCount m_bellCount m_hand m_handTold, rA (qm 8) cI 9 m_ends, rA (qm 9) cI 9 m_farEnds, oX3 qto to_felt u.1, rA (qto 4) cI 6 u.2]) [oX6 q (qr 0) (qm 0) (qs 0) (qt 0) (qro 0) (qto 0) (qw 0) v_asked, oX4 qm m_cornerCount m_streetCount m_guideCount m_bellCount m_hand m_handTold, rA (qm 8) cI 9 m_ends, rA (qm 9) cI 9 m_farEnds, oX3 qto to_felt to_walked, rA (qto 4) cI 6 to_walkedCorners] sz) 0 0 (va_A [oX6 q (qr 0) (qm 0) (qs 0) (qt 0) (qro 0) (qto 0) (qw 0) v_asked, oX4 qm m_cornerCount m_streetCount m_guideCount m_bellCount m_hand m_handTold, rA (qm 8) cI 9 m_ends, rA (qm 9) cI 9 m_farEnds, oX3 qto to_felt to_walked, rA (qto 4) cI 6 to_walkedCorners] sz) := by
  refine vx_meth_i (by decide) rfl (Nat.le_of_ble_eq_true rfl) ?_
  intro p e s m args below meth c A Q hx hb hml hown hts hK hP hD hA hS hret ls hl
  have hown : s.vm.findClass RX6 = some m.cls := hown
  have hl : lv_has ls 2 [(0, .ref (q 0)), (1, .int x1)] := hl
  have hFx : CallFix p m c cX6_went 2 s args wsX6_went RX6 := ⟨hx, hb, hml, hown, hts⟩
  have lk51 := hts (.fieldLink RX6 51 "FogGuides" "touches" "LFogGuides$Touches;") (by decide +kernel)
  have iw6 : ∀ w ∈ u_ws RX6 TX6 10, w ∈ wsX6_went := by decide +kernel
  have lk234 := hts (.fieldLink RX6 234 "FogGuides$Touches" "walked" "I") (by decide +kernel)
  have iw3 : ∀ w ∈ u_ws RX3 TX3 6, w ∈ wsX6_went := by decide +kernel
  have lk19 := hts (.fieldLink RX6 19 "FogGuides" "map" "LFogGuides$TownMap;") (by decide +kernel)
  have hJ47 : ∀ (to_walked : Int32) (to_walkedCorners : (Nat → Int32)) (x1 : Int32) (H : Heap) (locs : List Loc) (ls : Array Slot), f_X6_went_J47 fu m_cornerCount m_streetCount m_ends m_farEnds to_walked to_walkedCorners x1 = some res → va_P D vwCl [oX6 q (qr 0) (qm 0) (qs 0) (qt 0) (qro 0) (qto 0) (qw 0) v_asked, oX4 qm m_cornerCount m_streetCount m_guideCount m_bellCount m_hand m_handTold, rA (qm 8) cI 9 m_ends, rA (qm 9) cI 9 m_farEnds, oX3 qto to_felt to_walked, rA (qto 4) cI 6 to_walkedCorners] H → va_D A [oX6 q (qr 0) (qm 0) (qs 0) (qt 0) (qro 0) (qto 0) (qw 0) v_asked, oX4 qm m_cornerCount m_streetCount m_guideCount m_bellCount m_hand m_handTold, rA (qm 8) cI 9 m_ends, rA (qm 9) cI 9 m_farEnds, oX3 qto to_felt to_walked, rA (qto 4) cI 6 to_walkedCorners] → va_S A s.heap H locs → lv_has ls 2 [(0, .ref (q 0)), (1, .int x1)] → W p l e rm_X6_went s m args below meth c H locs 0 0 Q (F0 m 47 ls []) := by
    intro to_walked to_walkedCorners x1 H locs ls h hP hD hS hl
    unfold f_X6_went_J47 at h
    refine lv_aload_n hx hb dX6_went_47 rfl (lv_at hl 0 rfl) ?_
    refine va_get (C := RX6) (T := TX6) (N := 10) (v := .ref (qto 0)) hx hb hts iw6 hown hK hP 0 rfl rfl 7 (Nat.le_of_ble_eq_true rfl) lk51 (fun _ h9 => h9) rfl dX6_went_48 ?_
    refine lv_iload_n hx hb dX6_went_51 rfl (lv_at hl 1 rfl) ?_
    obtain ⟨r1, hr1, h⟩ := xk_some h
    refine vx_VI (As := [.int x1]) (rest := []) (wr := [oX6 q (qr 0) (qm 0) (qs 0) (qt 0) (qro 0) (qto 0) (qw 0) v_asked, oX4 qm m_cornerCount m_streetCount m_guideCount m_bellCount m_hand m_handTold, rA (qm 8) cI 9 m_ends, rA (qm 9) cI 9 m_farEnds]) (wn := [oX6 q (qr 0) (qm 0) (qs 0) (qt 0) (qro 0) (qto 0) (qw 0) v_asked, oX4 qm m_cornerCount m_streetCount m_guideCount m_bellCount m_hand m_handTold, rA (qm 8) cI 9 m_ends, rA (qm 9) cI 9 m_farEnds, oX3 qto to_felt r1.2.1, rA (qto 4) cI 6 r1.2.2]) hFx (k_X3_addCorner l D cI cZ cT qto H.size to_felt to_walked to_walkedCorners x1 r1 hr1) (cwV 1 hts gX6_went_X3_addCorner rfl rfl rfl (by decide +kernel) ⟨Nat.le_of_ble_eq_true rfl, Nat.le_of_ble_eq_true rfl⟩) hK hP hD hS hA [4, 5] [0, 1, 2, 3] [0, 1, 2, 3, 4, 5] rfl rfl rfl rfl (by decide) rfl rfl 3 0 rfl rfl rfl hl.1 rfl (Nat.le_of_ble_eq_true rfl) dX6_went_52 ⟨Nat.zero_le _, Nat.zero_le _⟩ (fun H locs hP hD hS => ?_)
    refine lv_if_eq (tgt := 68) hx hb dX6_went_55 (by decide) (fun c2 => ?_) (fun c2 => ?_)
    · have h := (if_pos c2).symm.trans h
      refine lv_bipush (v := (-3)) hx hb dX6_went_68 (by decide) ?_
      exact hret (-3 : Int32) (r1.2.1, r1.2.2) H locs _ ls (Option.some.inj h) hP hD hS dX6_went_70
    · have h := (if_neg c2).symm.trans h
      refine lv_aload_n hx hb dX6_went_58 rfl (lv_at hl 0 rfl) ?_
      refine va_get (C := RX6) (T := TX6) (N := 10) (v := .ref (qto 0)) hx hb hts iw6 hown hK hP 0 rfl rfl 7 (Nat.le_of_ble_eq_true rfl) lk51 (fun _ h9 => h9) rfl dX6_went_59 ?_
      refine va_get (C := RX3) (T := TX3) (N := 6) (v := .int r1.2.1) hx hb hts iw3 hown hK hP 4 rfl rfl 1 (Nat.le_of_ble_eq_true rfl) lk234 (fun _ h9 => h9) rfl dX6_went_62 ?_
      refine lv_goto (tgt := 70) hx hb dX6_went_65 (by decide) ?_
      exact hret r1.2.1 (r1.2.1, r1.2.2) H locs _ ls (Option.some.inj h) hP hD hS dX6_went_70
  have h := hf
  unfold f_X6_went at h
  obtain ⟨H, eH⟩ : ∃ H, H = s.heap := ⟨_, rfl⟩
  rw [← eH] at hP ⊢
  obtain ⟨locs, el⟩ : ∃ locs : List Loc, locs = [] := ⟨_, rfl⟩
  rw [← el] at hS ⊢
  have hS : va_S A s.heap H locs := by rw [eH]; exact hS
  refine lv_aload_n hx hb dX6_went_0 rfl (lv_at hl 0 rfl) ?_
  refine va_get (C := RX6) (T := TX6) (N := 10) (v := .ref (qm 0)) hx hb hts iw6 hown hK hP 0 rfl rfl 1 (Nat.le_of_ble_eq_true rfl) lk19 (fun _ h9 => h9) rfl dX6_went_1 ?_
  refine lv_iload_n hx hb dX6_went_4 rfl (lv_at hl 1 rfl) ?_
  obtain ⟨r3, hr3, h⟩ := xk_some h
  refine vx_VJ (As := [.int x1]) (rest := []) hFx (k_X4_hasCorner l D cI cZ cT qm H.size m_cornerCount m_streetCount m_guideCount m_bellCount m_hand m_handTold x1 r3 hr3) (cwV 1 hts gX6_went_X4_hasCorner rfl rfl rfl (by decide +kernel) ⟨Nat.le_of_ble_eq_true rfl, Nat.le_of_ble_eq_true rfl⟩) hK hP hD hS hA [1] rfl rfl 4 0 rfl rfl rfl hl.1 rfl (Nat.le_of_ble_eq_true rfl) dX6_went_5 ⟨Nat.zero_le _, Nat.zero_le _⟩ (fun H locs hP hS => ?_)
  refine lv_if_ne (tgt := 13) hx hb dX6_went_8 (by decide) (fun c4 => ?_) (fun c4 => ?_)
  · have h := (if_neg c4).symm.trans h
    refine lv_aload_n hx hb dX6_went_13 rfl (lv_at hl 0 rfl) ?_
    refine va_get (C := RX6) (T := TX6) (N := 10) (v := .ref (qto 0)) hx hb hts iw6 hown hK hP 0 rfl rfl 7 (Nat.le_of_ble_eq_true rfl) lk51 (fun _ h9 => h9) rfl dX6_went_14 ?_
    refine va_get (C := RX3) (T := TX3) (N := 6) (v := .int to_walked) hx hb hts iw3 hown hK hP 4 rfl rfl 1 (Nat.le_of_ble_eq_true rfl) lk234 (fun _ h9 => h9) rfl dX6_went_17 ?_
    refine lv_if_le (tgt := 47) hx hb dX6_went_20 (by decide) (fun c5 => ?_) (fun c5 => ?_)
    · have h := (if_pos c5).symm.trans h
      exact hJ47 to_walked to_walkedCorners x1 H locs ls h hP hD hS (lv_sub hl [0, 1] rfl)
    · have h := (if_neg c5).symm.trans h
      refine lv_aload_n hx hb dX6_went_23 rfl (lv_at hl 0 rfl) ?_
      refine va_get (C := RX6) (T := TX6) (N := 10) (v := .ref (qm 0)) hx hb hts iw6 hown hK hP 0 rfl rfl 1 (Nat.le_of_ble_eq_true rfl) lk19 (fun _ h9 => h9) rfl dX6_went_24 ?_
      refine lv_aload_n hx hb dX6_went_27 rfl (lv_at hl 0 rfl) ?_
      refine va_get (C := RX6) (T := TX6) (N := 10) (v := .ref (qto 0)) hx hb hts iw6 hown hK hP 0 rfl rfl 7 (Nat.le_of_ble_eq_true rfl) lk51 (fun _ h9 => h9) rfl dX6_went_28 ?_
      obtain ⟨r6, hr6, h⟩ := xk_some h
      refine vx_VJ (As := []) (rest := [.ref (qm 0)]) hFx (k_X3_lastWalked l D cI cZ cT qto H.size to_felt to_walked to_walkedCorners r6 hr6) (cwV 0 hts gX6_went_X3_lastWalked rfl rfl rfl (by decide +kernel) ⟨Nat.le_of_ble_eq_true rfl, Nat.le_of_ble_eq_true rfl⟩) hK hP hD hS hA [4, 5] rfl rfl 3 0 rfl rfl rfl hl.1 rfl (Nat.le_of_ble_eq_true rfl) dX6_went_31 ⟨Nat.zero_le _, Nat.zero_le _⟩ (fun H locs hP hS => ?_)
      obtain ⟨r7, hr7, h⟩ := xk_some h
      refine vx_VJ (As := [.int r6]) (rest := []) hFx (k_X4_nextTo l D cI cZ cT qm H.size m_cornerCount m_streetCount m_guideCount m_bellCount m_hand m_handTold m_ends m_farEnds r6 r7 fu hr7) (cwV 1 hts gX6_went_X4_nextTo rfl rfl rfl (by decide +kernel) ⟨Nat.le_of_ble_eq_true rfl, Nat.le_of_ble_eq_true rfl⟩) hK hP hD hS hA [1, 2, 3] rfl rfl 4 0 rfl rfl rfl hl.1 rfl (Nat.le_of_ble_eq_true rfl) dX6_went_34 ⟨Nat.zero_le _, Nat.zero_le _⟩ (fun H locs hP hS => ?_)
      refine lv_iload_n hx hb dX6_went_37 rfl (lv_at hl 1 rfl) ?_
      refine lv_ishr hx hb dX6_went_38 ?_
      refine lv_iconst (v := 1) hx hb dX6_went_39 (by decide) ?_
      refine lv_iand hx hb dX6_went_40 ?_
      refine lv_if_ne (tgt := 47) hx hb dX6_went_41 (by decide) (fun c8 => ?_) (fun c8 => ?_)
      · have h := (if_neg c8).symm.trans h
        exact hJ47 to_walked to_walkedCorners x1 H locs ls h hP hD hS (lv_sub hl [0, 1] rfl)
      · have h := (if_pos c8).symm.trans h
        refine lv_bipush (v := (-2)) hx hb dX6_went_44 (by decide) ?_
        exact hret (-2 : Int32) (to_walked, to_walkedCorners) H locs _ ls (Option.some.inj h) hP hD hS dX6_went_46
  · have h := (if_pos c4).symm.trans h
    refine lv_iconst (v := (-1)) hx hb dX6_went_11 (by decide) ?_
    exact hret (-1 : Int32) (to_walked, to_walkedCorners) H locs _ ls (Option.some.inj h) hP hD hS dX6_went_12
abbrev rm_X6_forget : Room := { frames := 1, cells := 0, slots := 0, locals := 20 }
set_option maxHeartbeats 4000000 in
set_option maxRecDepth 100000 in
theorem k_X6_forget (l : Launch) (D : va_G) (cI cZ cT : ClassId) (q : Nat → Nat) (qr : Nat → Nat) (qm : Nat → Nat) (qs : Nat → Nat) (qt : Nat → Nat) (qro : Nat → Nat) (qto : Nat → Nat) (qw : Nat → Nat) (qi0 : Nat → Nat) (qi1 : Nat → Nat) (sz : Nat) (v_asked : Int64) (to_felt : Int32) (to_walked : Int32) (res : R_X6_forget) (hf : f_X6_forget to_felt to_walked = some res) : Met l yX6_forget wsX6_forget rm_X6_forget (cPre D (tyz cI cZ cT) [.ref (q 0)] sz [oX6 q (qr 0) (qm 0) (qs 0) (qt 0) (qro 0) (qto 0) (qw 0) v_asked, oX3 qto to_felt to_walked]) (cPi D (tyz cI cZ cT) (fun (r : Int32) (u : Int32 × Int32) => (r, u) = res) (fun u => [oX6 q (qr 0) (qm 0) (qs 0) (qt 0) (qro 0) (qto 0) (qw 0) v_asked, oX3 qto u.1 u.2]) [oX6 q (qr 0) (qm 0) (qs 0) (qt 0) (qro 0) (qto 0) (qw 0) v_asked, oX3 qto to_felt to_walked] sz) 0 0 (va_A [oX6 q (qr 0) (qm 0) (qs 0) (qt 0) (qro 0) (qto 0) (qw 0) v_asked, oX3 qto to_felt to_walked] sz) := by
  refine vx_meth_i (by decide) rfl (Nat.le_of_ble_eq_true rfl) ?_
  intro p e s m args below meth c A Q hx hb hml hown hts hK hP hD hA hS hret ls hl
  have hown : s.vm.findClass RX6 = some m.cls := hown
  have hl : lv_has ls 2 [(0, .ref (q 0))] := hl
  have hFx : CallFix p m c cX6_forget 2 s args wsX6_forget RX6 := ⟨hx, hb, hml, hown, hts⟩
  have lk51 := hts (.fieldLink RX6 51 "FogGuides" "touches" "LFogGuides$Touches;") (by decide +kernel)
  have iw6 : ∀ w ∈ u_ws RX6 TX6 10, w ∈ wsX6_forget := by decide +kernel
  have lk231 := hts (.fieldLink RX6 231 "FogGuides$Touches" "felt" "I") (by decide +kernel)
  have iw3 : ∀ w ∈ u_ws RX3 TX3 6, w ∈ wsX6_forget := by decide +kernel
  have lk234 := hts (.fieldLink RX6 234 "FogGuides$Touches" "walked" "I") (by decide +kernel)
  have h := hf
  unfold f_X6_forget at h
  obtain ⟨H, eH⟩ : ∃ H, H = s.heap := ⟨_, rfl⟩
  rw [← eH] at hP ⊢
  obtain ⟨locs, el⟩ : ∃ locs : List Loc, locs = [] := ⟨_, rfl⟩
  rw [← el] at hS ⊢
  have hS : va_S A s.heap H locs := by rw [eH]; exact hS
  refine lv_aload_n hx hb dX6_forget_0 rfl (lv_at hl 0 rfl) ?_
  refine va_get (C := RX6) (T := TX6) (N := 10) (v := .ref (qto 0)) hx hb hts iw6 hown hK hP 0 rfl rfl 7 (Nat.le_of_ble_eq_true rfl) lk51 (fun _ h9 => h9) rfl dX6_forget_1 ?_
  refine va_get (C := RX3) (T := TX3) (N := 6) (v := .int to_felt) hx hb hts iw3 hown hK hP 1 rfl rfl 0 (Nat.le_of_ble_eq_true rfl) lk231 (fun _ h9 => h9) rfl dX6_forget_4 ?_
  refine lv_aload_n hx hb dX6_forget_7 rfl (lv_at hl 0 rfl) ?_
  refine va_get (C := RX6) (T := TX6) (N := 10) (v := .ref (qto 0)) hx hb hts iw6 hown hK hP 0 rfl rfl 7 (Nat.le_of_ble_eq_true rfl) lk51 (fun _ h9 => h9) rfl dX6_forget_8 ?_
  refine va_get (C := RX3) (T := TX3) (N := 6) (v := .int to_walked) hx hb hts iw3 hown hK hP 1 rfl rfl 1 (Nat.le_of_ble_eq_true rfl) lk234 (fun _ h9 => h9) rfl dX6_forget_11 ?_
  refine lv_iadd hx hb dX6_forget_14 ?_
  refine lv_istore_n (lv' := [(1, .int (to_felt + to_walked)), (0, .ref (q 0))]) hx hb dX6_forget_15 rfl hl (by decide) rfl (fun ls hl => ?_)
  refine lv_aload_n hx hb dX6_forget_16 rfl (lv_at hl 1 rfl) ?_
  refine va_get (C := RX6) (T := TX6) (N := 10) (v := .ref (qto 0)) hx hb hts iw6 hown hK hP 0 rfl rfl 7 (Nat.le_of_ble_eq_true rfl) lk51 (fun _ h9 => h9) rfl dX6_forget_17 ?_
  obtain ⟨r1, hr1, h⟩ := xk_some h
  refine vx_VV (As := []) (rest := []) (wr := [oX6 q (qr 0) (qm 0) (qs 0) (qt 0) (qro 0) (qto 0) (qw 0) v_asked]) (wn := [oX6 q (qr 0) (qm 0) (qs 0) (qt 0) (qro 0) (qto 0) (qw 0) v_asked, oX3 qto r1.1 r1.2]) hFx (k_X3_forgetAll l D cI cZ cT qto H.size to_felt to_walked r1 hr1) (cwV 0 hts gX6_forget_X3_forgetAll rfl rfl rfl (by decide +kernel) ⟨Nat.le_of_ble_eq_true rfl, Nat.le_of_ble_eq_true rfl⟩) hK hP hD hS hA [1] [0] [0, 1] rfl rfl rfl rfl (by decide) rfl rfl 3 0 rfl rfl rfl hl.1 rfl (Nat.le_of_ble_eq_true rfl) dX6_forget_20 ⟨Nat.zero_le _, Nat.zero_le _⟩ (fun H locs hP hD hS => ?_)
  refine lv_iload_n hx hb dX6_forget_23 rfl (lv_at hl 0 rfl) ?_
  exact hret (to_felt + to_walked) (r1.1, r1.2) H locs _ ls (Option.some.inj h) hP hD hS dX6_forget_24
abbrev rm_X6_fits : Room := { frames := 5, cells := 0, slots := 0, locals := 118 }
set_option maxHeartbeats 4000000 in
set_option maxRecDepth 100000 in
theorem k_X6_fits (l : Launch) (D : va_G) (cI cZ cT : ClassId) (q : Nat → Nat) (qr : Nat → Nat) (qm : Nat → Nat) (qs : Nat → Nat) (qt : Nat → Nat) (qro : Nat → Nat) (qto : Nat → Nat) (qw : Nat → Nat) (qi0 : Nat → Nat) (qi1 : Nat → Nat) (sz : Nat) (v_asked : Int64) (m_cornerCount : Int32) (m_streetCount : Int32) (m_guideCount : Int32) (m_bellCount : Int32) (m_hand : Int32) (m_handTold : Int32) (to_felt : Int32) (to_walked : Int32) (m_marks : Nat → Int32) (m_ends : Nat → Int32) (m_farEnds : Nat → Int32) (to_feltMarks : Nat → Int32) (to_rows : Nat → Int32) (to_nextRows : Nat → Int32) (x1 : Int32) (res : R_X6_fits) (fu : Nat) (hf : f_X6_fits fu m_cornerCount m_streetCount m_marks m_ends m_farEnds to_felt to_feltMarks to_rows to_nextRows x1 = some res) : Met l yX6_fits wsX6_fits rm_X6_fits (cPre D (tyz cI cZ cT) [.ref (q 0), .int x1] sz [oX6 q (qr 0) (qm 0) (qs 0) (qt 0) (qro 0) (qto 0) (qw 0) v_asked, oX4 qm m_cornerCount m_streetCount m_guideCount m_bellCount m_hand m_handTold, rA (qm 7) cI 7 m_marks, rA (qm 8) cI 9 m_ends, rA (qm 9) cI 9 m_farEnds, oX3 qto to_felt to_walked, rA (qto 3) cI 6 to_feltMarks, rA (qto 5) cI 7 to_rows, rA (qto 6) cI 7 to_nextRows]) (cPi D (tyz cI cZ cT) (fun (r : Int32) (u : (Nat → Int32) × (Nat → Int32)) => (r, u) = res) (fun u => [oX6 q (qr 0) (qm 0) (qs 0) (qt 0) (qro 0) (qto 0) (qw 0) v_asked, oX4 qm m_cornerCount m_streetCount m_guideCount m_bellCount m_hand m_handTold, rA (qm 7) cI 7 m_marks, rA (qm 8) cI 9 m_ends, rA (qm 9) cI 9 m_farEnds, oX3 qto to_felt to_walked, rA (qto 3) cI 6 to_feltMarks, rA (qto 5) cI 7 u.1, rA (qto 6) cI 7 u.2]) [oX6 q (qr 0) (qm 0) (qs 0) (qt 0) (qro 0) (qto 0) (qw 0) v_asked, oX4 qm m_cornerCount m_streetCount m_guideCount m_bellCount m_hand m_handTold, rA (qm 7) cI 7 m_marks, rA (qm 8) cI 9 m_ends, rA (qm 9) cI 9 m_farEnds, oX3 qto to_felt to_walked, rA (qto 3) cI 6 to_feltMarks, rA (qto 5) cI 7 to_rows, rA (qto 6) cI 7 to_nextRows] sz) 0 0 (va_A [oX6 q (qr 0) (qm 0) (qs 0) (qt 0) (qro 0) (qto 0) (qw 0) v_asked, oX4 qm m_cornerCount m_streetCount m_guideCount m_bellCount m_hand m_handTold, rA (qm 7) cI 7 m_marks, rA (qm 8) cI 9 m_ends, rA (qm 9) cI 9 m_farEnds, oX3 qto to_felt to_walked, rA (qto 3) cI 6 to_feltMarks, rA (qto 5) cI 7 to_rows, rA (qto 6) cI 7 to_nextRows] sz) := by
  refine vx_meth_i (by decide) rfl (Nat.le_of_ble_eq_true rfl) ?_
  intro p e s m args below meth c A Q hx hb hml hown hts hK hP hD hA hS hret ls hl
  have hown : s.vm.findClass RX6 = some m.cls := hown
  have hl : lv_has ls 2 [(0, .ref (q 0)), (1, .int x1)] := hl
  have hFx : CallFix p m c cX6_fits 2 s args wsX6_fits RX6 := ⟨hx, hb, hml, hown, hts⟩
  have lk51 := hts (.fieldLink RX6 51 "FogGuides" "touches" "LFogGuides$Touches;") (by decide +kernel)
  have iw6 : ∀ w ∈ u_ws RX6 TX6 10, w ∈ wsX6_fits := by decide +kernel
  have lk19 := hts (.fieldLink RX6 19 "FogGuides" "map" "LFogGuides$TownMap;") (by decide +kernel)
  have h := hf
  unfold f_X6_fits at h
  obtain ⟨H, eH⟩ : ∃ H, H = s.heap := ⟨_, rfl⟩
  rw [← eH] at hP ⊢
  obtain ⟨locs, el⟩ : ∃ locs : List Loc, locs = [] := ⟨_, rfl⟩
  rw [← el] at hS ⊢
  have hS : va_S A s.heap H locs := by rw [eH]; exact hS
  refine lv_iload_n hx hb dX6_fits_0 rfl (lv_at hl 1 rfl) ?_
  by_cases c1 : x1 = (0 : Int32)
  · refine lv_tableIn (off := 31) (tgt := 32) hx hb dX6_fits_1 (by rw [c1]; decide) (by rw [c1]; decide) (by rw [c1]; decide) (by decide) ?_
    have h := (if_pos c1).symm.trans h
    refine lv_aload_n hx hb dX6_fits_32 rfl (lv_at hl 0 rfl) ?_
    refine va_get (C := RX6) (T := TX6) (N := 10) (v := .ref (qto 0)) hx hb hts iw6 hown hK hP 0 rfl rfl 7 (Nat.le_of_ble_eq_true rfl) lk51 (fun _ h9 => h9) rfl dX6_fits_33 ?_
    refine lv_aload_n hx hb dX6_fits_36 rfl (lv_at hl 0 rfl) ?_
    refine va_get (C := RX6) (T := TX6) (N := 10) (v := .ref (qm 0)) hx hb hts iw6 hown hK hP 0 rfl rfl 1 (Nat.le_of_ble_eq_true rfl) lk19 (fun _ h9 => h9) rfl dX6_fits_37 ?_
    obtain ⟨r2, hr2, h⟩ := xk_some h
    refine vx_VI (As := [.ref (qm 0)]) (rest := []) (wr := [oX6 q (qr 0) (qm 0) (qs 0) (qt 0) (qro 0) (qto 0) (qw 0) v_asked]) (wn := [oX6 q (qr 0) (qm 0) (qs 0) (qt 0) (qro 0) (qto 0) (qw 0) v_asked, oX4 qm m_cornerCount m_streetCount m_guideCount m_bellCount m_hand m_handTold, rA (qm 7) cI 7 m_marks, rA (qm 8) cI 9 m_ends, rA (qm 9) cI 9 m_farEnds, oX3 qto to_felt to_walked, rA (qto 3) cI 6 to_feltMarks, rA (qto 5) cI 7 r2.2.1, rA (qto 6) cI 7 r2.2.2]) hFx (k_X3_rowCount l D cI cZ cT qto qm H.size to_felt to_walked m_cornerCount m_streetCount m_guideCount m_bellCount m_hand m_handTold to_feltMarks to_rows to_nextRows m_marks m_ends m_farEnds r2 fu hr2) (cwV 1 hts gX6_fits_X3_rowCount rfl rfl rfl (by decide +kernel) ⟨Nat.le_of_ble_eq_true rfl, Nat.le_of_ble_eq_true rfl⟩) hK hP hD hS hA [5, 6, 7, 8, 1, 2, 3, 4] [0] [0, 5, 6, 7, 8, 1, 2, 3, 4] rfl rfl rfl rfl (by decide) rfl rfl 3 0 rfl rfl rfl hl.1 rfl (Nat.le_of_ble_eq_true rfl) dX6_fits_40 ⟨Nat.zero_le _, Nat.zero_le _⟩ (fun H locs hP hD hS => ?_)
    exact hret r2.1 (r2.2.1, r2.2.2) H locs _ ls (Option.some.inj h) hP hD hS dX6_fits_43
  have h := (if_neg c1).symm.trans h
  by_cases c3 : x1 = (1 : Int32)
  · refine lv_tableIn (off := 43) (tgt := 44) hx hb dX6_fits_1 (by rw [c3]; decide) (by rw [c3]; decide) (by rw [c3]; decide) (by decide) ?_
    have h := (if_pos c3).symm.trans h
    refine lv_aload_n hx hb dX6_fits_44 rfl (lv_at hl 0 rfl) ?_
    refine va_get (C := RX6) (T := TX6) (N := 10) (v := .ref (qto 0)) hx hb hts iw6 hown hK hP 0 rfl rfl 7 (Nat.le_of_ble_eq_true rfl) lk51 (fun _ h9 => h9) rfl dX6_fits_45 ?_
    refine lv_aload_n hx hb dX6_fits_48 rfl (lv_at hl 0 rfl) ?_
    refine va_get (C := RX6) (T := TX6) (N := 10) (v := .ref (qm 0)) hx hb hts iw6 hown hK hP 0 rfl rfl 1 (Nat.le_of_ble_eq_true rfl) lk19 (fun _ h9 => h9) rfl dX6_fits_49 ?_
    obtain ⟨r4, hr4, h⟩ := xk_some h
    refine vx_VI (As := [.ref (qm 0)]) (rest := []) (wr := [oX6 q (qr 0) (qm 0) (qs 0) (qt 0) (qro 0) (qto 0) (qw 0) v_asked]) (wn := [oX6 q (qr 0) (qm 0) (qs 0) (qt 0) (qro 0) (qto 0) (qw 0) v_asked, oX4 qm m_cornerCount m_streetCount m_guideCount m_bellCount m_hand m_handTold, rA (qm 7) cI 7 m_marks, rA (qm 8) cI 9 m_ends, rA (qm 9) cI 9 m_farEnds, oX3 qto to_felt to_walked, rA (qto 3) cI 6 to_feltMarks, rA (qto 5) cI 7 r4.2.1, rA (qto 6) cI 7 r4.2.2]) hFx (k_X3_lastCorners l D cI cZ cT qto qm H.size to_felt to_walked m_cornerCount m_streetCount m_guideCount m_bellCount m_hand m_handTold to_feltMarks to_rows to_nextRows m_marks m_ends m_farEnds r4 fu hr4) (cwV 1 hts gX6_fits_X3_lastCorners rfl rfl rfl (by decide +kernel) ⟨Nat.le_of_ble_eq_true rfl, Nat.le_of_ble_eq_true rfl⟩) hK hP hD hS hA [5, 6, 7, 8, 1, 2, 3, 4] [0] [0, 5, 6, 7, 8, 1, 2, 3, 4] rfl rfl rfl rfl (by decide) rfl rfl 3 0 rfl rfl rfl hl.1 rfl (Nat.le_of_ble_eq_true rfl) dX6_fits_52 ⟨Nat.zero_le _, Nat.zero_le _⟩ (fun H locs hP hD hS => ?_)
    exact hret r4.1 (r4.2.1, r4.2.2) H locs _ ls (Option.some.inj h) hP hD hS dX6_fits_55
  have h := (if_neg c3).symm.trans h
  by_cases c5 : x1 = (2 : Int32)
  · refine lv_tableIn (off := 55) (tgt := 56) hx hb dX6_fits_1 (by rw [c5]; decide) (by rw [c5]; decide) (by rw [c5]; decide) (by decide) ?_
    have h := (if_pos c5).symm.trans h
    refine lv_aload_n hx hb dX6_fits_56 rfl (lv_at hl 0 rfl) ?_
    refine va_get (C := RX6) (T := TX6) (N := 10) (v := .ref (qto 0)) hx hb hts iw6 hown hK hP 0 rfl rfl 7 (Nat.le_of_ble_eq_true rfl) lk51 (fun _ h9 => h9) rfl dX6_fits_57 ?_
    refine lv_aload_n hx hb dX6_fits_60 rfl (lv_at hl 0 rfl) ?_
    refine va_get (C := RX6) (T := TX6) (N := 10) (v := .ref (qm 0)) hx hb hts iw6 hown hK hP 0 rfl rfl 1 (Nat.le_of_ble_eq_true rfl) lk19 (fun _ h9 => h9) rfl dX6_fits_61 ?_
    obtain ⟨r6, hr6, h⟩ := xk_some h
    refine vx_VI (As := [.ref (qm 0)]) (rest := []) (wr := [oX6 q (qr 0) (qm 0) (qs 0) (qt 0) (qro 0) (qto 0) (qw 0) v_asked]) (wn := [oX6 q (qr 0) (qm 0) (qs 0) (qt 0) (qro 0) (qto 0) (qw 0) v_asked, oX4 qm m_cornerCount m_streetCount m_guideCount m_bellCount m_hand m_handTold, rA (qm 7) cI 7 m_marks, rA (qm 8) cI 9 m_ends, rA (qm 9) cI 9 m_farEnds, oX3 qto to_felt to_walked, rA (qto 3) cI 6 to_feltMarks, rA (qto 5) cI 7 r6.2.1, rA (qto 6) cI 7 r6.2.2]) hFx (k_X3_firstCorners l D cI cZ cT qto qm H.size to_felt to_walked m_cornerCount m_streetCount m_guideCount m_bellCount m_hand m_handTold to_feltMarks to_rows to_nextRows m_marks m_ends m_farEnds r6 fu hr6) (cwV 1 hts gX6_fits_X3_firstCorners rfl rfl rfl (by decide +kernel) ⟨Nat.le_of_ble_eq_true rfl, Nat.le_of_ble_eq_true rfl⟩) hK hP hD hS hA [5, 6, 7, 8, 1, 2, 3, 4] [0] [0, 5, 6, 7, 8, 1, 2, 3, 4] rfl rfl rfl rfl (by decide) rfl rfl 3 0 rfl rfl rfl hl.1 rfl (Nat.le_of_ble_eq_true rfl) dX6_fits_64 ⟨Nat.zero_le _, Nat.zero_le _⟩ (fun H locs hP hD hS => ?_)
    exact hret r6.1 (r6.2.1, r6.2.2) H locs _ ls (Option.some.inj h) hP hD hS dX6_fits_67
  have h := (if_neg c5).symm.trans h
  by_cases c7 : x1 = (3 : Int32)
  · refine lv_tableIn (off := 67) (tgt := 68) hx hb dX6_fits_1 (by rw [c7]; decide) (by rw [c7]; decide) (by rw [c7]; decide) (by decide) ?_
    have h := (if_pos c7).symm.trans h
    refine lv_aload_n hx hb dX6_fits_68 rfl (lv_at hl 0 rfl) ?_
    refine va_get (C := RX6) (T := TX6) (N := 10) (v := .ref (qm 0)) hx hb hts iw6 hown hK hP 0 rfl rfl 1 (Nat.le_of_ble_eq_true rfl) lk19 (fun _ h9 => h9) rfl dX6_fits_69 ?_
    refine lv_aload_n hx hb dX6_fits_72 rfl (lv_at hl 0 rfl) ?_
    refine va_get (C := RX6) (T := TX6) (N := 10) (v := .ref (qto 0)) hx hb hts iw6 hown hK hP 0 rfl rfl 7 (Nat.le_of_ble_eq_true rfl) lk51 (fun _ h9 => h9) rfl dX6_fits_73 ?_
    refine lv_aload_n hx hb dX6_fits_76 rfl (lv_at hl 0 rfl) ?_
    refine va_get (C := RX6) (T := TX6) (N := 10) (v := .ref (qm 0)) hx hb hts iw6 hown hK hP 0 rfl rfl 1 (Nat.le_of_ble_eq_true rfl) lk19 (fun _ h9 => h9) rfl dX6_fits_77 ?_
    obtain ⟨r8, hr8, h⟩ := xk_some h
    refine vx_VI (As := [.ref (qm 0)]) (rest := [.ref (qm 0)]) (wr := [oX6 q (qr 0) (qm 0) (qs 0) (qt 0) (qro 0) (qto 0) (qw 0) v_asked]) (wn := [oX6 q (qr 0) (qm 0) (qs 0) (qt 0) (qro 0) (qto 0) (qw 0) v_asked, oX4 qm m_cornerCount m_streetCount m_guideCount m_bellCount m_hand m_handTold, rA (qm 7) cI 7 m_marks, rA (qm 8) cI 9 m_ends, rA (qm 9) cI 9 m_farEnds, oX3 qto to_felt to_walked, rA (qto 3) cI 6 to_feltMarks, rA (qto 5) cI 7 r8.2.1, rA (qto 6) cI 7 r8.2.2]) hFx (k_X3_lastCorners l D cI cZ cT qto qm H.size to_felt to_walked m_cornerCount m_streetCount m_guideCount m_bellCount m_hand m_handTold to_feltMarks to_rows to_nextRows m_marks m_ends m_farEnds r8 fu hr8) (cwV 1 hts gX6_fits_X3_lastCorners rfl rfl rfl (by decide +kernel) ⟨Nat.le_of_ble_eq_true rfl, Nat.le_of_ble_eq_true rfl⟩) hK hP hD hS hA [5, 6, 7, 8, 1, 2, 3, 4] [0] [0, 5, 6, 7, 8, 1, 2, 3, 4] rfl rfl rfl rfl (by decide) rfl rfl 3 0 rfl rfl rfl hl.1 rfl (Nat.le_of_ble_eq_true rfl) dX6_fits_80 ⟨Nat.zero_le _, Nat.zero_le _⟩ (fun H locs hP hD hS => ?_)
    obtain ⟨r9, hr9, h⟩ := xk_some h
    refine vx_VJ (As := [.int r8.1]) (rest := []) hFx (k_X4_marksAround l D cI cZ cT qm H.size m_cornerCount m_streetCount m_guideCount m_bellCount m_hand m_handTold m_marks m_ends m_farEnds r8.1 r9 fu hr9) (cwV 1 hts gX6_fits_X4_marksAround rfl rfl rfl (by decide +kernel) ⟨Nat.le_of_ble_eq_true rfl, Nat.le_of_ble_eq_true rfl⟩) hK hP hD hS hA [1, 2, 3, 4] rfl rfl 4 0 rfl rfl rfl hl.1 rfl (Nat.le_of_ble_eq_true rfl) dX6_fits_83 ⟨Nat.zero_le _, Nat.zero_le _⟩ (fun H locs hP hS => ?_)
    exact hret r9 (r8.2.1, r8.2.2) H locs _ ls (Option.some.inj h) hP hD hS dX6_fits_86
  have h := (if_neg c7).symm.trans h
  refine lv_tableOut (tgt := 87) hx hb dX6_fits_1 (sw_out (lo := 0) (hi := 3) (by decide) (by decide) (fun j h1 h2 => ?_)) (by decide) ?_
  · rcases (show j = 0 ∨ j = 1 ∨ j = 2 ∨ j = 3 by omega) with rfl | rfl | rfl | rfl
    · exact c1
    · exact c3
    · exact c5
    · exact c7
  · refine lv_iconst (v := (-1)) hx hb dX6_fits_87 (by decide) ?_
    exact hret (-1 : Int32) (to_rows, to_nextRows) H locs _ ls (Option.some.inj h) hP hD hS dX6_fits_88
abbrev rm_X6_falseMark : Room := { frames := 1, cells := 0, slots := 0, locals := 25 }
set_option maxHeartbeats 4000000 in
set_option maxRecDepth 100000 in
theorem k_X6_falseMark (l : Launch) (D : va_G) (cI cZ cT : ClassId) (q : Nat → Nat) (qr : Nat → Nat) (qm : Nat → Nat) (qs : Nat → Nat) (qt : Nat → Nat) (qro : Nat → Nat) (qto : Nat → Nat) (qw : Nat → Nat) (qi0 : Nat → Nat) (qi1 : Nat → Nat) (sz : Nat) (v_asked : Int64) (m_cornerCount : Int32) (m_streetCount : Int32) (m_guideCount : Int32) (m_bellCount : Int32) (m_hand : Int32) (m_handTold : Int32) (to_felt : Int32) (to_walked : Int32) (m_marks : Nat → Int32) (to_feltMarks : Nat → Int32) (to_walkedCorners : Nat → Int32) (res : R_X6_falseMark) (fu : Nat) (hf : f_X6_falseMark fu m_cornerCount m_marks to_felt to_walked to_feltMarks to_walkedCorners = some res) : Met l yX6_falseMark wsX6_falseMark rm_X6_falseMark (cPre D (tyz cI cZ cT) [.ref (q 0)] sz [oX6 q (qr 0) (qm 0) (qs 0) (qt 0) (qro 0) (qto 0) (qw 0) v_asked, oX4 qm m_cornerCount m_streetCount m_guideCount m_bellCount m_hand m_handTold, rA (qm 7) cI 7 m_marks, oX3 qto to_felt to_walked, rA (qto 3) cI 6 to_feltMarks, rA (qto 4) cI 6 to_walkedCorners]) (cPi D (tyz cI cZ cT) (fun (r : Int32) (_ : Unit) => r = res) (fun _ => [oX6 q (qr 0) (qm 0) (qs 0) (qt 0) (qro 0) (qto 0) (qw 0) v_asked, oX4 qm m_cornerCount m_streetCount m_guideCount m_bellCount m_hand m_handTold, rA (qm 7) cI 7 m_marks, oX3 qto to_felt to_walked, rA (qto 3) cI 6 to_feltMarks, rA (qto 4) cI 6 to_walkedCorners]) [oX6 q (qr 0) (qm 0) (qs 0) (qt 0) (qro 0) (qto 0) (qw 0) v_asked, oX4 qm m_cornerCount m_streetCount m_guideCount m_bellCount m_hand m_handTold, rA (qm 7) cI 7 m_marks, oX3 qto to_felt to_walked, rA (qto 3) cI 6 to_feltMarks, rA (qto 4) cI 6 to_walkedCorners] sz) 0 0 (va_A [oX6 q (qr 0) (qm 0) (qs 0) (qt 0) (qro 0) (qto 0) (qw 0) v_asked, oX4 qm m_cornerCount m_streetCount m_guideCount m_bellCount m_hand m_handTold, rA (qm 7) cI 7 m_marks, oX3 qto to_felt to_walked, rA (qto 3) cI 6 to_feltMarks, rA (qto 4) cI 6 to_walkedCorners] sz) := by
  refine vx_meth_i (by decide) rfl (Nat.le_of_ble_eq_true rfl) ?_
  intro p e s m args below meth c A Q hx hb hml hown hts hK hP hD hA hS hret ls hl
  have hown : s.vm.findClass RX6 = some m.cls := hown
  have hl : lv_has ls 3 [(0, .ref (q 0))] := hl
  have hFx : CallFix p m c cX6_falseMark 3 s args wsX6_falseMark RX6 := ⟨hx, hb, hml, hown, hts⟩
  have lk19 := hts (.fieldLink RX6 19 "FogGuides" "map" "LFogGuides$TownMap;") (by decide +kernel)
  have iw6 : ∀ w ∈ u_ws RX6 TX6 10, w ∈ wsX6_falseMark := by decide +kernel
  have lk163 := hts (.fieldLink RX6 163 "FogGuides$TownMap" "cornerCount" "I") (by decide +kernel)
  have iw4 : ∀ w ∈ u_ws RX4 TX4 15, w ∈ wsX6_falseMark := by decide +kernel
  have lk51 := hts (.fieldLink RX6 51 "FogGuides" "touches" "LFogGuides$Touches;") (by decide +kernel)
  have lk231 := hts (.fieldLink RX6 231 "FogGuides$Touches" "felt" "I") (by decide +kernel)
  have iw3 : ∀ w ∈ u_ws RX3 TX3 6, w ∈ wsX6_falseMark := by decide +kernel
  have lk234 := hts (.fieldLink RX6 234 "FogGuides$Touches" "walked" "I") (by decide +kernel)
  have hL23 : ∀ (n23 : Nat), ∀ (x1 : Int32) (x2 : Int32) (H : Heap) (locs : List Loc) (ls : Array Slot), f_X6_falseMark_L23 fu n23 m_cornerCount m_marks to_felt to_walked to_feltMarks to_walkedCorners x1 x2 = some res → va_P D vwCl [oX6 q (qr 0) (qm 0) (qs 0) (qt 0) (qro 0) (qto 0) (qw 0) v_asked, oX4 qm m_cornerCount m_streetCount m_guideCount m_bellCount m_hand m_handTold, rA (qm 7) cI 7 m_marks, oX3 qto to_felt to_walked, rA (qto 3) cI 6 to_feltMarks, rA (qto 4) cI 6 to_walkedCorners] H → va_D A [oX6 q (qr 0) (qm 0) (qs 0) (qt 0) (qro 0) (qto 0) (qw 0) v_asked, oX4 qm m_cornerCount m_streetCount m_guideCount m_bellCount m_hand m_handTold, rA (qm 7) cI 7 m_marks, oX3 qto to_felt to_walked, rA (qto 3) cI 6 to_feltMarks, rA (qto 4) cI 6 to_walkedCorners] → va_S A s.heap H locs → lv_has ls 3 [(0, .ref (q 0)), (1, .int x1), (2, .int x2)] → W p l e rm_X6_falseMark s m args below meth c H locs 0 0 Q (F0 m 23 ls []) := by
    intro n23
    induction n23 with
    | zero =>
      intro x1 x2 H locs ls h hP hD hS hl
      cases (show (none : Option R_X6_falseMark) = some res from h)
    | succ n23 ih23 =>
      intro x1 x2 H locs ls h hP hD hS hl
      have h : f_X6_falseMark_L23b fu (f_X6_falseMark_L23 fu n23) m_cornerCount m_marks to_felt to_walked to_feltMarks to_walkedCorners x1 x2 = some res := h
      unfold f_X6_falseMark_L23b at h
      refine lv_iload_n hx hb dX6_falseMark_23 rfl (lv_at hl 2 rfl) ?_
      refine lv_aload_n hx hb dX6_falseMark_24 rfl (lv_at hl 0 rfl) ?_
      refine va_get (C := RX6) (T := TX6) (N := 10) (v := .ref (qm 0)) hx hb hts iw6 hown hK hP 0 rfl rfl 1 (Nat.le_of_ble_eq_true rfl) lk19 (fun _ h9 => h9) rfl dX6_falseMark_25 ?_
      refine va_get (C := RX4) (T := TX4) (N := 15) (v := .int m_cornerCount) hx hb hts iw4 hown hK hP 1 rfl rfl 0 (Nat.le_of_ble_eq_true rfl) lk163 (fun _ h9 => h9) rfl dX6_falseMark_28 ?_
      refine lv_icmp_ge (tgt := 61) hx hb dX6_falseMark_31 (by decide) (fun c1 => ?_) (fun c1 => ?_)
      · have h := (if_pos c1).symm.trans h
        refine lv_iload_n hx hb dX6_falseMark_61 rfl (lv_at hl 1 rfl) ?_
        exact hret x1 () H locs _ ls (Option.some.inj h) hP hD hS dX6_falseMark_62
      · have h := (if_neg c1).symm.trans h
        refine lv_aload_n hx hb dX6_falseMark_34 rfl (lv_at hl 0 rfl) ?_
        refine va_get (C := RX6) (T := TX6) (N := 10) (v := .ref (qto 0)) hx hb hts iw6 hown hK hP 0 rfl rfl 7 (Nat.le_of_ble_eq_true rfl) lk51 (fun _ h9 => h9) rfl dX6_falseMark_35 ?_
        refine lv_aload_n hx hb dX6_falseMark_38 rfl (lv_at hl 0 rfl) ?_
        refine va_get (C := RX6) (T := TX6) (N := 10) (v := .ref (qm 0)) hx hb hts iw6 hown hK hP 0 rfl rfl 1 (Nat.le_of_ble_eq_true rfl) lk19 (fun _ h9 => h9) rfl dX6_falseMark_39 ?_
        refine lv_iload_n hx hb dX6_falseMark_42 rfl (lv_at hl 2 rfl) ?_
        obtain ⟨r2, hr2, h⟩ := xk_some h
        refine vx_VJ (As := [.ref (qm 0), .int x2]) (rest := []) hFx (k_X3_isOnlyFalse l D cI cZ cT qto qm H.size to_felt to_walked m_cornerCount m_streetCount m_guideCount m_bellCount m_hand m_handTold to_feltMarks to_walkedCorners m_marks x2 r2 fu hr2) (cwV 2 hts gX6_falseMark_X3_isOnlyFalse rfl rfl rfl (by decide +kernel) ⟨Nat.le_of_ble_eq_true rfl, Nat.le_of_ble_eq_true rfl⟩) hK hP hD hS hA [3, 4, 5, 1, 2] rfl rfl 3 0 rfl rfl rfl hl.1 rfl (Nat.le_of_ble_eq_true rfl) dX6_falseMark_43 ⟨Nat.zero_le _, Nat.zero_le _⟩ (fun H locs hP hS => ?_)
        refine lv_if_eq (tgt := 55) hx hb dX6_falseMark_46 (by decide) (fun c3 => ?_) (fun c3 => ?_)
        · have h := (if_pos c3).symm.trans h
          refine lv_iinc (v := x2 + 1) (lv' := [(2, .int (x2 + 1)), (0, .ref (q 0)), (1, .int x1)]) hx hb dX6_falseMark_55 hl (k := 2) rfl rfl (by decide) rfl (fun ls hl => ?_)
          refine lv_goto (tgt := 23) hx hb dX6_falseMark_58 (by decide) ?_
          exact ih23 x1 (x2 + 1) H locs ls h hP hD hS (lv_sub hl [1, 2, 0] rfl)
        · have h := (if_neg c3).symm.trans h
          refine lv_iload_n hx hb dX6_falseMark_49 rfl (lv_at hl 1 rfl) ?_
          refine lv_iconst (v := 1) hx hb dX6_falseMark_50 (by decide) ?_
          refine lv_iload_n hx hb dX6_falseMark_51 rfl (lv_at hl 2 rfl) ?_
          refine lv_ishl hx hb dX6_falseMark_52 ?_
          refine lv_ior hx hb dX6_falseMark_53 ?_
          refine lv_istore_n (lv' := [(1, .int (x1 ||| ((1 : Int32) <<< (x2 &&& 31)))), (0, .ref (q 0)), (2, .int x2)]) hx hb dX6_falseMark_54 rfl hl (by decide) rfl (fun ls hl => ?_)
          refine lv_iinc (v := x2 + 1) (lv' := [(2, .int (x2 + 1)), (1, .int (x1 ||| ((1 : Int32) <<< (x2 &&& 31)))), (0, .ref (q 0))]) hx hb dX6_falseMark_55 hl (k := 2) rfl rfl (by decide) rfl (fun ls hl => ?_)
          refine lv_goto (tgt := 23) hx hb dX6_falseMark_58 (by decide) ?_
          exact ih23 (x1 ||| ((1 : Int32) <<< (x2 &&& 31))) (x2 + 1) H locs ls h hP hD hS (lv_sub hl [2, 1, 0] rfl)
  have h := hf
  unfold f_X6_falseMark at h
  obtain ⟨H, eH⟩ : ∃ H, H = s.heap := ⟨_, rfl⟩
  rw [← eH] at hP ⊢
  obtain ⟨locs, el⟩ : ∃ locs : List Loc, locs = [] := ⟨_, rfl⟩
  rw [← el] at hS ⊢
  have hS : va_S A s.heap H locs := by rw [eH]; exact hS
  refine lv_aload_n hx hb dX6_falseMark_0 rfl (lv_at hl 0 rfl) ?_
  refine va_get (C := RX6) (T := TX6) (N := 10) (v := .ref (qto 0)) hx hb hts iw6 hown hK hP 0 rfl rfl 7 (Nat.le_of_ble_eq_true rfl) lk51 (fun _ h9 => h9) rfl dX6_falseMark_1 ?_
  refine va_get (C := RX3) (T := TX3) (N := 6) (v := .int to_felt) hx hb hts iw3 hown hK hP 3 rfl rfl 0 (Nat.le_of_ble_eq_true rfl) lk231 (fun _ h9 => h9) rfl dX6_falseMark_4 ?_
  refine lv_aload_n hx hb dX6_falseMark_7 rfl (lv_at hl 0 rfl) ?_
  refine va_get (C := RX6) (T := TX6) (N := 10) (v := .ref (qto 0)) hx hb hts iw6 hown hK hP 0 rfl rfl 7 (Nat.le_of_ble_eq_true rfl) lk51 (fun _ h9 => h9) rfl dX6_falseMark_8 ?_
  refine va_get (C := RX3) (T := TX3) (N := 6) (v := .int to_walked) hx hb hts iw3 hown hK hP 3 rfl rfl 1 (Nat.le_of_ble_eq_true rfl) lk234 (fun _ h9 => h9) rfl dX6_falseMark_11 ?_
  refine lv_icmp_eq (tgt := 19) hx hb dX6_falseMark_14 (by decide) (fun c4 => ?_) (fun c4 => ?_)
  · have h := (if_pos c4).symm.trans h
    refine lv_iconst (v := 0) hx hb dX6_falseMark_19 (by decide) ?_
    refine lv_istore_n (lv' := [(1, .int (0 : Int32)), (0, .ref (q 0))]) hx hb dX6_falseMark_20 rfl hl (by decide) rfl (fun ls hl => ?_)
    refine lv_iconst (v := 0) hx hb dX6_falseMark_21 (by decide) ?_
    refine lv_istore_n (lv' := [(2, .int (0 : Int32)), (1, .int (0 : Int32)), (0, .ref (q 0))]) hx hb dX6_falseMark_22 rfl hl (by decide) rfl (fun ls hl => ?_)
    exact hL23 fu (0 : Int32) (0 : Int32) H locs ls h hP hD hS (lv_sub hl [2, 1, 0] rfl)
  · have h := (if_neg c4).symm.trans h
    refine lv_iconst (v := 0) hx hb dX6_falseMark_17 (by decide) ?_
    exact hret (0 : Int32) () H locs _ ls (Option.some.inj h) hP hD hS dX6_falseMark_18
