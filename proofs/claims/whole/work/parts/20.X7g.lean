abbrev rm_X7_fits : Room := { frames := 3, cells := 0, slots := 0, locals := 72 }
set_option maxHeartbeats 4000000 in
set_option maxRecDepth 100000 in
theorem k_X7_fits (l : Launch) (D : va_G) (cI cZ cT : ClassId) (q : Nat → Nat) (sz : Nat) (v_size : Int32) (v_at : Int32) (v_begin : Int32) (v_token : Int32) (v_told : Int32) (v_undos : Int32) (v_changed : Int32) (v_felt : Int32) (v_wents : Int32) (v_wish : Int32) (v_trace : Int64) (v_town : Nat → Int32) (v_marks : Nat → Int32) (v_rows : Nat → Int32) (v_nextRows : Nat → Int32) (v_from : Nat → Int32) (v_nextFrom : Nat → Int32) (x1 : Int32) (res : R_X7_fits) (fu : Nat) (hf : f_X7_fits fu v_town v_felt v_marks v_rows v_nextRows v_from v_nextFrom x1 = some res) : Met l yX7_fits wsX7_fits rm_X7_fits (cPre D (tyz cI cZ cT) [.ref (q 0), .int x1] sz [oX7 q v_size v_at v_begin v_token v_told v_undos v_changed v_felt v_wents v_wish v_trace, rA (q 8) cI 64 v_town, rA (q 21) cI 6 v_marks, rA (q 24) cI 7 v_rows, rA (q 25) cI 7 v_nextRows, rA (q 26) cI 7 v_from, rA (q 27) cI 7 v_nextFrom]) (cPi D (tyz cI cZ cT) (fun (r : Int32) (u : (Nat → Int32) × (Nat → Int32) × (Nat → Int32) × (Nat → Int32)) => (r, u) = res) (fun u => [oX7 q v_size v_at v_begin v_token v_told v_undos v_changed v_felt v_wents v_wish v_trace, rA (q 8) cI 64 v_town, rA (q 21) cI 6 v_marks, rA (q 24) cI 7 u.1, rA (q 25) cI 7 u.2.1, rA (q 26) cI 7 u.2.2.1, rA (q 27) cI 7 u.2.2.2]) [oX7 q v_size v_at v_begin v_token v_told v_undos v_changed v_felt v_wents v_wish v_trace, rA (q 8) cI 64 v_town, rA (q 21) cI 6 v_marks, rA (q 24) cI 7 v_rows, rA (q 25) cI 7 v_nextRows, rA (q 26) cI 7 v_from, rA (q 27) cI 7 v_nextFrom] sz) 0 0 (va_A [oX7 q v_size v_at v_begin v_token v_told v_undos v_changed v_felt v_wents v_wish v_trace, rA (q 8) cI 64 v_town, rA (q 21) cI 6 v_marks, rA (q 24) cI 7 v_rows, rA (q 25) cI 7 v_nextRows, rA (q 26) cI 7 v_from, rA (q 27) cI 7 v_nextFrom] sz) := by
  refine vx_meth_i (by decide) rfl (Nat.le_of_ble_eq_true rfl) ?_
  intro p e s m args below meth c A Q hx hb hml hown hts hK hP hD hA hS hret ls hl
  have hown : s.vm.findClass RX7 = some m.cls := hown
  have hl : lv_has ls 8 [(0, .ref (q 0)), (1, .int x1)] := hl
  have hFx : CallFix p m c cX7_fits 8 s args wsX7_fits RX7 := ⟨hx, hb, hml, hown, hts⟩
  have lk16 := hts (.fieldLink RX7 16 "FogGuidesModel" "town" "[I") (by decide +kernel)
  have iw7 : ∀ w ∈ u_ws RX7 TX7 34, w ∈ wsX7_fits := by decide +kernel
  have lk52 := hts (.fieldLink RX7 52 "FogGuidesModel" "rows" "[I") (by decide +kernel)
  have lk58 := hts (.fieldLink RX7 58 "FogGuidesModel" "from" "[I") (by decide +kernel)
  have hL31 : ∀ (n31 : Nat), ∀ (v_rows : (Nat → Int32)) (v_nextRows : (Nat → Int32)) (v_from : (Nat → Int32)) (v_nextFrom : (Nat → Int32)) (x1 : Int32) (x2 : Int32) (x3 : Int32) (x4 : Int32) (x5 : Int32) (x6 : Int32) (H : Heap) (locs : List Loc) (ls : Array Slot), f_X7_fits_L31 fu n31 v_town v_felt v_marks v_rows v_nextRows v_from v_nextFrom x1 x2 x3 x4 x5 x6 = some res → va_P D vwCl [oX7 q v_size v_at v_begin v_token v_told v_undos v_changed v_felt v_wents v_wish v_trace, rA (q 8) cI 64 v_town, rA (q 21) cI 6 v_marks, rA (q 24) cI 7 v_rows, rA (q 25) cI 7 v_nextRows, rA (q 26) cI 7 v_from, rA (q 27) cI 7 v_nextFrom] H → va_D A [oX7 q v_size v_at v_begin v_token v_told v_undos v_changed v_felt v_wents v_wish v_trace, rA (q 8) cI 64 v_town, rA (q 21) cI 6 v_marks, rA (q 24) cI 7 v_rows, rA (q 25) cI 7 v_nextRows, rA (q 26) cI 7 v_from, rA (q 27) cI 7 v_nextFrom] → va_S A s.heap H locs → lv_has ls 8 [(0, .ref (q 0)), (1, .int x1), (2, .int x2), (3, .int x3), (4, .int x4), (5, .int x5), (6, .int x6)] → W p l e rm_X7_fits s m args below meth c H locs 0 0 Q (F0 m 31 ls []) := by
    intro n31
    induction n31 with
    | zero =>
      intro v_rows v_nextRows v_from v_nextFrom x1 x2 x3 x4 x5 x6 H locs ls h hP hD hS hl
      cases (show (none : Option R_X7_fits) = some res from h)
    | succ n31 ih31 =>
      have hL88 : ∀ (n88 : Nat), ∀ (v_rows : (Nat → Int32)) (v_nextRows : (Nat → Int32)) (v_from : (Nat → Int32)) (v_nextFrom : (Nat → Int32)) (x1 : Int32) (x2 : Int32) (x3 : Int32) (x4 : Int32) (x5 : Int32) (x6 : Int32) (x7 : Int32) (H : Heap) (locs : List Loc) (ls : Array Slot), f_X7_fits_L88 fu (f_X7_fits_L31 fu n31) n88 v_town v_felt v_marks v_rows v_nextRows v_from v_nextFrom x1 x2 x3 x4 x5 x6 x7 = some res → va_P D vwCl [oX7 q v_size v_at v_begin v_token v_told v_undos v_changed v_felt v_wents v_wish v_trace, rA (q 8) cI 64 v_town, rA (q 21) cI 6 v_marks, rA (q 24) cI 7 v_rows, rA (q 25) cI 7 v_nextRows, rA (q 26) cI 7 v_from, rA (q 27) cI 7 v_nextFrom] H → va_D A [oX7 q v_size v_at v_begin v_token v_told v_undos v_changed v_felt v_wents v_wish v_trace, rA (q 8) cI 64 v_town, rA (q 21) cI 6 v_marks, rA (q 24) cI 7 v_rows, rA (q 25) cI 7 v_nextRows, rA (q 26) cI 7 v_from, rA (q 27) cI 7 v_nextFrom] → va_S A s.heap H locs → lv_has ls 8 [(0, .ref (q 0)), (1, .int x1), (2, .int x2), (3, .int x3), (4, .int x4), (5, .int x5), (6, .int x6), (7, .int x7)] → W p l e rm_X7_fits s m args below meth c H locs 0 0 Q (F0 m 88 ls []) := by
        intro n88
        induction n88 with
        | zero =>
          intro v_rows v_nextRows v_from v_nextFrom x1 x2 x3 x4 x5 x6 x7 H locs ls h hP hD hS hl
          cases (show (none : Option R_X7_fits) = some res from h)
        | succ n88 ih88 =>
          intro v_rows v_nextRows v_from v_nextFrom x1 x2 x3 x4 x5 x6 x7 H locs ls h hP hD hS hl
          have h : f_X7_fits_L88b fu (f_X7_fits_L31 fu n31) (f_X7_fits_L88 fu (f_X7_fits_L31 fu n31) n88) v_town v_felt v_marks v_rows v_nextRows v_from v_nextFrom x1 x2 x3 x4 x5 x6 x7 = some res := h
          unfold f_X7_fits_L88b at h
          refine lv_iload hx hb dX7_fits_88 (lv_at hl 7 rfl) ?_
          refine lv_aload_n hx hb dX7_fits_90 rfl (lv_at hl 0 rfl) ?_
          refine va_get (C := RX7) (T := TX7) (N := 34) (v := .ref (q 8)) hx hb hts iw7 hown hK hP 0 rfl rfl 7 (Nat.le_of_ble_eq_true rfl) lk16 (fun _ h9 => h9) rfl dX7_fits_91 ?_
          refine lv_iconst (v := 0) hx hb dX7_fits_94 (by decide) ?_
          obtain ⟨hi1, h⟩ := xb_some h
          refine va_iald hx hb hK hP 1 0 rfl rfl hi1 dX7_fits_95 ?_
          refine lv_icmp_ge (tgt := 147) hx hb dX7_fits_96 (by decide) (fun c2 => ?_) (fun c2 => ?_)
          · have h := (if_pos c2).symm.trans h
            refine lv_iinc (v := x6 + 1) (lv' := [(6, .int (x6 + 1)), (0, .ref (q 0)), (1, .int x1), (2, .int x2), (3, .int x3), (4, .int x4), (5, .int x5), (7, .int x7)]) hx hb dX7_fits_147 hl (k := 6) rfl rfl (by decide) rfl (fun ls hl => ?_)
            refine lv_goto (tgt := 31) hx hb dX7_fits_150 (by decide) ?_
            exact ih31 v_rows v_nextRows v_from v_nextFrom x1 x2 x3 x4 x5 (x6 + 1) H locs ls h hP hD hS (lv_sub hl [1, 2, 3, 4, 5, 6, 0] rfl)
          · have h := (if_neg c2).symm.trans h
            refine lv_aload_n hx hb dX7_fits_99 rfl (lv_at hl 0 rfl) ?_
            refine va_get (C := RX7) (T := TX7) (N := 34) (v := .ref (q 24)) hx hb hts iw7 hown hK hP 0 rfl rfl 23 (Nat.le_of_ble_eq_true rfl) lk52 (fun _ h9 => h9) rfl dX7_fits_100 ?_
            refine lv_iload hx hb dX7_fits_103 (lv_at hl 6 rfl) ?_
            obtain ⟨hi3, h⟩ := xb_some h
            refine va_iald hx hb hK hP 3 0 rfl rfl hi3 dX7_fits_105 ?_
            refine lv_if_le (tgt := 147) hx hb dX7_fits_106 (by decide) (fun c4 => ?_) (fun c4 => ?_)
            · have h := (if_pos c4).symm.trans h
              refine lv_iinc (v := x6 + 1) (lv' := [(6, .int (x6 + 1)), (0, .ref (q 0)), (1, .int x1), (2, .int x2), (3, .int x3), (4, .int x4), (5, .int x5), (7, .int x7)]) hx hb dX7_fits_147 hl (k := 6) rfl rfl (by decide) rfl (fun ls hl => ?_)
              refine lv_goto (tgt := 31) hx hb dX7_fits_150 (by decide) ?_
              exact ih31 v_rows v_nextRows v_from v_nextFrom x1 x2 x3 x4 x5 (x6 + 1) H locs ls h hP hD hS (lv_sub hl [1, 2, 3, 4, 5, 6, 0] rfl)
            · have h := (if_neg c4).symm.trans h
              refine lv_iload hx hb dX7_fits_109 (lv_at hl 5 rfl) ?_
              refine lv_aload_n hx hb dX7_fits_111 rfl (lv_at hl 0 rfl) ?_
              refine lv_iload hx hb dX7_fits_112 (lv_at hl 6 rfl) ?_
              refine lv_iload hx hb dX7_fits_114 (lv_at hl 7 rfl) ?_
              obtain ⟨r5, hr5, h⟩ := xk_some h
              refine vx_VJ (As := [.int x6, .int x7]) (rest := [.int x5]) hFx (k_X7_areBeside l D cI cZ cT q H.size v_size v_at v_begin v_token v_told v_undos v_changed v_felt v_wents v_wish v_trace v_town x6 x7 r5 fu hr5) (cwV 2 hts gX7_fits_X7_areBeside rfl rfl rfl (by decide +kernel) ⟨Nat.le_of_ble_eq_true rfl, Nat.le_of_ble_eq_true rfl⟩) hK hP hD hS hA [0, 1] rfl rfl 7 0 rfl rfl rfl hl.1 rfl (Nat.le_of_ble_eq_true rfl) dX7_fits_116 ⟨Nat.zero_le _, Nat.zero_le _⟩ (fun H locs hP hS => ?_)
              refine lv_if_eq (tgt := 137) hx hb dX7_fits_119 (by decide) (fun c6 => ?_) (fun c6 => ?_)
              · have h := (if_pos c6).symm.trans h
                refine lv_iconst (v := 0) hx hb dX7_fits_137 (by decide) ?_
                refine lv_ior hx hb dX7_fits_138 ?_
                refine lv_istore (lv' := [(5, .int (x5 ||| (0 : Int32))), (0, .ref (q 0)), (1, .int x1), (2, .int x2), (3, .int x3), (4, .int x4), (6, .int x6), (7, .int x7)]) hx hb dX7_fits_139 hl (by decide) rfl (fun ls hl => ?_)
                refine lv_iinc (v := x7 + 1) (lv' := [(7, .int (x7 + 1)), (5, .int (x5 ||| (0 : Int32))), (0, .ref (q 0)), (1, .int x1), (2, .int x2), (3, .int x3), (4, .int x4), (6, .int x6)]) hx hb dX7_fits_141 hl (k := 7) rfl rfl (by decide) rfl (fun ls hl => ?_)
                refine lv_goto (tgt := 88) hx hb dX7_fits_144 (by decide) ?_
                exact ih88 v_rows v_nextRows v_from v_nextFrom x1 x2 x3 x4 (x5 ||| (0 : Int32)) x6 (x7 + 1) H locs ls h hP hD hS (lv_sub hl [2, 3, 4, 5, 6, 1, 7, 0] rfl)
              · have h := (if_neg c6).symm.trans h
                refine lv_iconst (v := 1) hx hb dX7_fits_122 (by decide) ?_
                refine lv_aload_n hx hb dX7_fits_123 rfl (lv_at hl 0 rfl) ?_
                refine va_get (C := RX7) (T := TX7) (N := 34) (v := .ref (q 8)) hx hb hts iw7 hown hK hP 0 rfl rfl 7 (Nat.le_of_ble_eq_true rfl) lk16 (fun _ h9 => h9) rfl dX7_fits_124 ?_
                refine lv_bipush (v := 6) hx hb dX7_fits_127 (by decide) ?_
                refine lv_iload hx hb dX7_fits_129 (lv_at hl 7 rfl) ?_
                refine lv_iadd hx hb dX7_fits_131 ?_
                obtain ⟨hi7, h⟩ := xb_some h
                refine va_iald hx hb hK hP 1 0 rfl rfl hi7 dX7_fits_132 ?_
                refine lv_ishl hx hb dX7_fits_133 ?_
                refine lv_goto (tgt := 138) hx hb dX7_fits_134 (by decide) ?_
                refine lv_ior hx hb dX7_fits_138 ?_
                refine lv_istore (lv' := [(5, .int (x5 ||| ((1 : Int32) <<< ((v_town ((6 : Int32) + x7).toNatClampNeg) &&& 31)))), (0, .ref (q 0)), (1, .int x1), (2, .int x2), (3, .int x3), (4, .int x4), (6, .int x6), (7, .int x7)]) hx hb dX7_fits_139 hl (by decide) rfl (fun ls hl => ?_)
                refine lv_iinc (v := x7 + 1) (lv' := [(7, .int (x7 + 1)), (5, .int (x5 ||| ((1 : Int32) <<< ((v_town ((6 : Int32) + x7).toNatClampNeg) &&& 31)))), (0, .ref (q 0)), (1, .int x1), (2, .int x2), (3, .int x3), (4, .int x4), (6, .int x6)]) hx hb dX7_fits_141 hl (k := 7) rfl rfl (by decide) rfl (fun ls hl => ?_)
                refine lv_goto (tgt := 88) hx hb dX7_fits_144 (by decide) ?_
                exact ih88 v_rows v_nextRows v_from v_nextFrom x1 x2 x3 x4 (x5 ||| ((1 : Int32) <<< ((v_town ((6 : Int32) + x7).toNatClampNeg) &&& 31))) x6 (x7 + 1) H locs ls h hP hD hS (lv_sub hl [2, 3, 4, 5, 6, 1, 7, 0] rfl)
      have hJ71 : ∀ (v_rows : (Nat → Int32)) (v_nextRows : (Nat → Int32)) (v_from : (Nat → Int32)) (v_nextFrom : (Nat → Int32)) (x1 : Int32) (x2 : Int32) (x4 : Int32) (x5 : Int32) (x6 : Int32) (z0 : Int32) (z1 : Int32) (H : Heap) (locs : List Loc) (ls : Array Slot), f_X7_fits_J71 fu (f_X7_fits_L31 fu n31) v_town v_felt v_marks v_rows v_nextRows v_from v_nextFrom x1 x2 x4 x5 x6 z0 z1 = some res → va_P D vwCl [oX7 q v_size v_at v_begin v_token v_told v_undos v_changed v_felt v_wents v_wish v_trace, rA (q 8) cI 64 v_town, rA (q 21) cI 6 v_marks, rA (q 24) cI 7 v_rows, rA (q 25) cI 7 v_nextRows, rA (q 26) cI 7 v_from, rA (q 27) cI 7 v_nextFrom] H → va_D A [oX7 q v_size v_at v_begin v_token v_told v_undos v_changed v_felt v_wents v_wish v_trace, rA (q 8) cI 64 v_town, rA (q 21) cI 6 v_marks, rA (q 24) cI 7 v_rows, rA (q 25) cI 7 v_nextRows, rA (q 26) cI 7 v_from, rA (q 27) cI 7 v_nextFrom] → va_S A s.heap H locs → lv_has ls 8 [(0, .ref (q 0)), (1, .int x1), (2, .int x2), (4, .int x4), (5, .int x5), (6, .int x6)] → W p l e rm_X7_fits s m args below meth c H locs 0 0 Q (F0 m 71 ls [.int z1, .int z0]) := by
        intro v_rows v_nextRows v_from v_nextFrom x1 x2 x4 x5 x6 z0 z1 H locs ls h hP hD hS hl
        unfold f_X7_fits_J71 at h
        refine lv_ior hx hb dX7_fits_71 ?_
        refine lv_istore_n (lv' := [(3, .int (z0 ||| z1)), (0, .ref (q 0)), (1, .int x1), (2, .int x2), (4, .int x4), (5, .int x5), (6, .int x6)]) hx hb dX7_fits_72 rfl hl (by decide) rfl (fun ls hl => ?_)
        refine lv_iload hx hb dX7_fits_73 (lv_at hl 4 rfl) ?_
        refine lv_aload_n hx hb dX7_fits_75 rfl (lv_at hl 1 rfl) ?_
        refine va_get (C := RX7) (T := TX7) (N := 34) (v := .ref (q 26)) hx hb hts iw7 hown hK hP 0 rfl rfl 25 (Nat.le_of_ble_eq_true rfl) lk58 (fun _ h9 => h9) rfl dX7_fits_76 ?_
        refine lv_iload hx hb dX7_fits_79 (lv_at hl 6 rfl) ?_
        obtain ⟨hi8, h⟩ := xb_some h
        refine va_iald hx hb hK hP 5 0 rfl rfl hi8 dX7_fits_81 ?_
        refine lv_ior hx hb dX7_fits_82 ?_
        refine lv_istore (lv' := [(4, .int (x4 ||| (v_from x6.toNatClampNeg))), (3, .int (z0 ||| z1)), (0, .ref (q 0)), (1, .int x1), (2, .int x2), (5, .int x5), (6, .int x6)]) hx hb dX7_fits_83 hl (by decide) rfl (fun ls hl => ?_)
        refine lv_iconst (v := 0) hx hb dX7_fits_85 (by decide) ?_
        refine lv_istore (lv' := [(7, .int (0 : Int32)), (4, .int (x4 ||| (v_from x6.toNatClampNeg))), (3, .int (z0 ||| z1)), (0, .ref (q 0)), (1, .int x1), (2, .int x2), (5, .int x5), (6, .int x6)]) hx hb dX7_fits_86 hl (by decide) rfl (fun ls hl => ?_)
        exact hL88 fu v_rows v_nextRows v_from v_nextFrom x1 x2 (z0 ||| z1) (x4 ||| (v_from x6.toNatClampNeg)) x5 x6 (0 : Int32) H locs ls h hP hD hS (lv_sub hl [3, 4, 5, 2, 1, 6, 7, 0] rfl)
      intro v_rows v_nextRows v_from v_nextFrom x1 x2 x3 x4 x5 x6 H locs ls h hP hD hS hl
      have h : f_X7_fits_L31b fu (f_X7_fits_L31 fu n31) v_town v_felt v_marks v_rows v_nextRows v_from v_nextFrom x1 x2 x3 x4 x5 x6 = some res := h
      unfold f_X7_fits_L31b at h
      refine lv_iload hx hb dX7_fits_31 (lv_at hl 6 rfl) ?_
      refine lv_aload_n hx hb dX7_fits_33 rfl (lv_at hl 0 rfl) ?_
      refine va_get (C := RX7) (T := TX7) (N := 34) (v := .ref (q 8)) hx hb hts iw7 hown hK hP 0 rfl rfl 7 (Nat.le_of_ble_eq_true rfl) lk16 (fun _ h9 => h9) rfl dX7_fits_34 ?_
      refine lv_iconst (v := 0) hx hb dX7_fits_37 (by decide) ?_
      obtain ⟨hi9, h⟩ := xb_some h
      refine va_iald hx hb hK hP 1 0 rfl rfl hi9 dX7_fits_38 ?_
      refine lv_icmp_ge (tgt := 153) hx hb dX7_fits_39 (by decide) (fun c10 => ?_) (fun c10 => ?_)
      · have h := (if_pos c10).symm.trans h
        refine lv_iload_n hx hb dX7_fits_153 rfl (lv_at hl 1 rfl) ?_
        refine lv_if_ne (tgt := 161) hx hb dX7_fits_154 (by decide) (fun c11 => ?_) (fun c11 => ?_)
        · have h := (if_neg c11).symm.trans h
          refine lv_iload_n hx hb dX7_fits_161 rfl (lv_at hl 1 rfl) ?_
          refine lv_iconst (v := 1) hx hb dX7_fits_162 (by decide) ?_
          refine lv_icmp_ne (tgt := 170) hx hb dX7_fits_163 (by decide) (fun c12 => ?_) (fun c12 => ?_)
          · have h := (if_neg c12).symm.trans h
            refine lv_iload_n hx hb dX7_fits_170 rfl (lv_at hl 1 rfl) ?_
            refine lv_iconst (v := 2) hx hb dX7_fits_171 (by decide) ?_
            refine lv_icmp_ne (tgt := 180) hx hb dX7_fits_172 (by decide) (fun c13 => ?_) (fun c13 => ?_)
            · have h := (if_neg c13).symm.trans h
              refine lv_iload hx hb dX7_fits_180 (lv_at hl 5 rfl) ?_
              obtain ⟨r14, hr14, h⟩ := xk_some h
              refine vx_SJ (As := [.int x5]) (rest := []) hFx (k_X7_many l D cI cZ cT H.size x5 r14 fu hr14) (vx_cwS 1 hts gX7_fits_X7_many rfl rfl rfl (by decide +kernel) ⟨Nat.le_of_ble_eq_true rfl, Nat.le_of_ble_eq_true rfl⟩) hK hP hD hS hA rfl hl.1 rfl (Nat.le_of_ble_eq_true rfl) dX7_fits_182 ⟨Nat.zero_le _, Nat.zero_le _⟩ (fun H locs hP hS => ?_)
              exact hret r14 (v_rows, v_nextRows, v_from, v_nextFrom) H locs _ ls (Option.some.inj h) hP hD hS dX7_fits_185
            · have h := (if_pos c13).symm.trans h
              refine lv_iload hx hb dX7_fits_175 (lv_at hl 4 rfl) ?_
              refine lv_goto (tgt := 185) hx hb dX7_fits_177 (by decide) ?_
              exact hret x4 (v_rows, v_nextRows, v_from, v_nextFrom) H locs _ ls (Option.some.inj h) hP hD hS dX7_fits_185
          · have h := (if_pos c12).symm.trans h
            refine lv_iload_n hx hb dX7_fits_166 rfl (lv_at hl 3 rfl) ?_
            refine lv_goto (tgt := 185) hx hb dX7_fits_167 (by decide) ?_
            exact hret x3 (v_rows, v_nextRows, v_from, v_nextFrom) H locs _ ls (Option.some.inj h) hP hD hS dX7_fits_185
        · have h := (if_pos c11).symm.trans h
          refine lv_iload_n hx hb dX7_fits_157 rfl (lv_at hl 2 rfl) ?_
          refine lv_goto (tgt := 185) hx hb dX7_fits_158 (by decide) ?_
          exact hret x2 (v_rows, v_nextRows, v_from, v_nextFrom) H locs _ ls (Option.some.inj h) hP hD hS dX7_fits_185
      · have h := (if_neg c10).symm.trans h
        refine lv_iload_n hx hb dX7_fits_42 rfl (lv_at hl 2 rfl) ?_
        refine lv_aload_n hx hb dX7_fits_43 rfl (lv_at hl 0 rfl) ?_
        refine va_get (C := RX7) (T := TX7) (N := 34) (v := .ref (q 24)) hx hb hts iw7 hown hK hP 0 rfl rfl 23 (Nat.le_of_ble_eq_true rfl) lk52 (fun _ h9 => h9) rfl dX7_fits_44 ?_
        refine lv_iload hx hb dX7_fits_47 (lv_at hl 6 rfl) ?_
        obtain ⟨hi15, h⟩ := xb_some h
        refine va_iald hx hb hK hP 3 0 rfl rfl hi15 dX7_fits_49 ?_
        refine lv_iadd hx hb dX7_fits_50 ?_
        refine lv_istore_n (lv' := [(2, .int (x2 + (v_rows x6.toNatClampNeg))), (0, .ref (q 0)), (1, .int x1), (3, .int x3), (4, .int x4), (5, .int x5), (6, .int x6)]) hx hb dX7_fits_51 rfl hl (by decide) rfl (fun ls hl => ?_)
        refine lv_iload_n hx hb dX7_fits_52 rfl (lv_at hl 3 rfl) ?_
        refine lv_aload_n hx hb dX7_fits_53 rfl (lv_at hl 1 rfl) ?_
        refine va_get (C := RX7) (T := TX7) (N := 34) (v := .ref (q 24)) hx hb hts iw7 hown hK hP 0 rfl rfl 23 (Nat.le_of_ble_eq_true rfl) lk52 (fun _ h9 => h9) rfl dX7_fits_54 ?_
        refine lv_iload hx hb dX7_fits_57 (lv_at hl 6 rfl) ?_
        obtain ⟨hi16, h⟩ := xb_some h
        refine va_iald hx hb hK hP 3 0 rfl rfl hi16 dX7_fits_59 ?_
        refine lv_if_le (tgt := 70) hx hb dX7_fits_60 (by decide) (fun c17 => ?_) (fun c17 => ?_)
        · have h := (if_pos c17).symm.trans h
          refine lv_iconst (v := 0) hx hb dX7_fits_70 (by decide) ?_
          exact hJ71 v_rows v_nextRows v_from v_nextFrom x1 (x2 + (v_rows x6.toNatClampNeg)) x4 x5 x6 x3 (0 : Int32) H locs ls h hP hD hS (lv_sub hl [1, 2, 0, 4, 5, 6] rfl)
        · have h := (if_neg c17).symm.trans h
          refine lv_iconst (v := 1) hx hb dX7_fits_63 (by decide) ?_
          refine lv_iload hx hb dX7_fits_64 (lv_at hl 6 rfl) ?_
          refine lv_ishl hx hb dX7_fits_66 ?_
          refine lv_goto (tgt := 71) hx hb dX7_fits_67 (by decide) ?_
          exact hJ71 v_rows v_nextRows v_from v_nextFrom x1 (x2 + (v_rows x6.toNatClampNeg)) x4 x5 x6 x3 ((1 : Int32) <<< (x6 &&& 31)) H locs ls h hP hD hS (lv_sub hl [1, 2, 0, 4, 5, 6] rfl)
  have h := hf
  unfold f_X7_fits at h
  obtain ⟨H, eH⟩ : ∃ H, H = s.heap := ⟨_, rfl⟩
  rw [← eH] at hP ⊢
  obtain ⟨locs, el⟩ : ∃ locs : List Loc, locs = [] := ⟨_, rfl⟩
  rw [← el] at hS ⊢
  have hS : va_S A s.heap H locs := by rw [eH]; exact hS
  refine lv_iload_n hx hb dX7_fits_0 rfl (lv_at hl 1 rfl) ?_
  refine lv_i2l hx hb dX7_fits_1 rfl ?_
  refine lv_lconst (v := 0) hx hb dX7_fits_2 (by decide) ?_
  refine lv_ldc2 (v := (3)) hx hb hown (hts (.constantLong RX7 184 (3)) (by decide +kernel)) dX7_fits_3 ?_
  obtain ⟨r18, hr18, h⟩ := xk_some h
  refine vx_SJ (As := [.long x1.toInt64, .long (0 : Int64), .long (3 : Int64)]) (rest := []) hFx (k_X7_in l D cI cZ cT H.size x1.toInt64 (0 : Int64) (3 : Int64) r18 hr18) (vx_cwS 3 hts gX7_fits_X7_in rfl rfl rfl (by decide +kernel) ⟨Nat.le_of_ble_eq_true rfl, Nat.le_of_ble_eq_true rfl⟩) hK hP hD hS hA rfl hl.1 rfl (Nat.le_of_ble_eq_true rfl) dX7_fits_6 ⟨Nat.zero_le _, Nat.zero_le _⟩ (fun H locs hP hS => ?_)
  refine lv_if_ne (tgt := 14) hx hb dX7_fits_9 (by decide) (fun c19 => ?_) (fun c19 => ?_)
  · have h := (if_neg c19).symm.trans h
    refine lv_aload_n hx hb dX7_fits_14 rfl (lv_at hl 0 rfl) ?_
    obtain ⟨r20, hr20, h⟩ := xk_some h
    refine vx_VV (As := []) (rest := []) (wr := []) (wn := [oX7 q v_size v_at v_begin v_token v_told v_undos v_changed v_felt v_wents v_wish v_trace, rA (q 8) cI 64 v_town, rA (q 21) cI 6 v_marks, rA (q 24) cI 7 r20.1, rA (q 25) cI 7 r20.2.1, rA (q 26) cI 7 r20.2.2.1, rA (q 27) cI 7 r20.2.2.2]) hFx (k_X7_fit l D cI cZ cT q H.size v_size v_at v_begin v_token v_told v_undos v_changed v_felt v_wents v_wish v_trace v_town v_marks v_rows v_nextRows v_from v_nextFrom r20 fu hr20) (cwV 0 hts gX7_fits_X7_fit rfl rfl rfl (by decide +kernel) ⟨Nat.le_of_ble_eq_true rfl, Nat.le_of_ble_eq_true rfl⟩) hK hP hD hS hA [0, 1, 2, 3, 4, 5, 6] [] [0, 1, 2, 3, 4, 5, 6] rfl rfl rfl rfl (by decide) rfl rfl 7 0 rfl rfl rfl hl.1 rfl (Nat.le_of_ble_eq_true rfl) dX7_fits_15 ⟨Nat.zero_le _, Nat.zero_le _⟩ (fun H locs hP hD hS => ?_)
    refine lv_iconst (v := 0) hx hb dX7_fits_18 (by decide) ?_
    refine lv_istore_n (lv' := [(2, .int (0 : Int32)), (0, .ref (q 0)), (1, .int x1)]) hx hb dX7_fits_19 rfl hl (by decide) rfl (fun ls hl => ?_)
    refine lv_iconst (v := 0) hx hb dX7_fits_20 (by decide) ?_
    refine lv_istore_n (lv' := [(3, .int (0 : Int32)), (2, .int (0 : Int32)), (0, .ref (q 0)), (1, .int x1)]) hx hb dX7_fits_21 rfl hl (by decide) rfl (fun ls hl => ?_)
    refine lv_iconst (v := 0) hx hb dX7_fits_22 (by decide) ?_
    refine lv_istore (lv' := [(4, .int (0 : Int32)), (3, .int (0 : Int32)), (2, .int (0 : Int32)), (0, .ref (q 0)), (1, .int x1)]) hx hb dX7_fits_23 hl (by decide) rfl (fun ls hl => ?_)
    refine lv_iconst (v := 0) hx hb dX7_fits_25 (by decide) ?_
    refine lv_istore (lv' := [(5, .int (0 : Int32)), (4, .int (0 : Int32)), (3, .int (0 : Int32)), (2, .int (0 : Int32)), (0, .ref (q 0)), (1, .int x1)]) hx hb dX7_fits_26 hl (by decide) rfl (fun ls hl => ?_)
    refine lv_iconst (v := 0) hx hb dX7_fits_28 (by decide) ?_
    refine lv_istore (lv' := [(6, .int (0 : Int32)), (5, .int (0 : Int32)), (4, .int (0 : Int32)), (3, .int (0 : Int32)), (2, .int (0 : Int32)), (0, .ref (q 0)), (1, .int x1)]) hx hb dX7_fits_29 hl (by decide) rfl (fun ls hl => ?_)
    exact hL31 fu r20.1 r20.2.1 r20.2.2.1 r20.2.2.2 x1 (0 : Int32) (0 : Int32) (0 : Int32) (0 : Int32) (0 : Int32) H locs ls h hP hD hS (lv_sub hl [5, 6, 4, 3, 2, 1, 0] rfl)
  · have h := (if_pos c19).symm.trans h
    refine lv_iconst (v := (-1)) hx hb dX7_fits_12 (by decide) ?_
    exact hret (-1 : Int32) (v_rows, v_nextRows, v_from, v_nextFrom) H locs _ ls (Option.some.inj h) hP hD hS dX7_fits_13
abbrev rm_X7_falseMark : Room := { frames := 0, cells := 0, slots := 0, locals := 0 }
set_option maxHeartbeats 4000000 in
set_option maxRecDepth 100000 in
theorem k_X7_falseMark (l : Launch) (D : va_G) (cI cZ cT : ClassId) (q : Nat → Nat) (sz : Nat) (v_size : Int32) (v_at : Int32) (v_begin : Int32) (v_token : Int32) (v_told : Int32) (v_undos : Int32) (v_changed : Int32) (v_felt : Int32) (v_wents : Int32) (v_wish : Int32) (v_trace : Int64) (v_town : Nat → Int32) (v_marks : Nat → Int32) (v_went : Nat → Int32) (res : R_X7_falseMark) (fu : Nat) (hf : f_X7_falseMark fu v_town v_felt v_marks v_wents v_went = some res) : Met l yX7_falseMark wsX7_falseMark rm_X7_falseMark (cPre D (tyz cI cZ cT) [.ref (q 0)] sz [oX7 q v_size v_at v_begin v_token v_told v_undos v_changed v_felt v_wents v_wish v_trace, rA (q 8) cI 64 v_town, rA (q 21) cI 6 v_marks, rA (q 23) cI 6 v_went]) (cPi D (tyz cI cZ cT) (fun (r : Int32) (_ : Unit) => r = res) (fun _ => [oX7 q v_size v_at v_begin v_token v_told v_undos v_changed v_felt v_wents v_wish v_trace, rA (q 8) cI 64 v_town, rA (q 21) cI 6 v_marks, rA (q 23) cI 6 v_went]) [oX7 q v_size v_at v_begin v_token v_told v_undos v_changed v_felt v_wents v_wish v_trace, rA (q 8) cI 64 v_town, rA (q 21) cI 6 v_marks, rA (q 23) cI 6 v_went] sz) 0 0 (va_A [oX7 q v_size v_at v_begin v_token v_told v_undos v_changed v_felt v_wents v_wish v_trace, rA (q 8) cI 64 v_town, rA (q 21) cI 6 v_marks, rA (q 23) cI 6 v_went] sz) := by
  refine vx_meth_i (by decide) rfl (Nat.le_of_ble_eq_true rfl) ?_
  intro p e s m args below meth c A Q hx hb hml hown hts hK hP hD hA hS hret ls hl
  have hown : s.vm.findClass RX7 = some m.cls := hown
  have hl : lv_has ls 6 [(0, .ref (q 0))] := hl
  have hFx : CallFix p m c cX7_falseMark 6 s args wsX7_falseMark RX7 := ⟨hx, hb, hml, hown, hts⟩
  have lk157 := hts (.fieldLink RX7 157 "FogGuidesModel" "felt" "I") (by decide +kernel)
  have iw7 : ∀ w ∈ u_ws RX7 TX7 34, w ∈ wsX7_falseMark := by decide +kernel
  have lk49 := hts (.fieldLink RX7 49 "FogGuidesModel" "went" "[I") (by decide +kernel)
  have lk46 := hts (.fieldLink RX7 46 "FogGuidesModel" "marks" "[I") (by decide +kernel)
  have lk16 := hts (.fieldLink RX7 16 "FogGuidesModel" "town" "[I") (by decide +kernel)
  have lk160 := hts (.fieldLink RX7 160 "FogGuidesModel" "wents" "I") (by decide +kernel)
  have hJ171 : ∀ (x1 : Int32) (x3 : Int32) (H : Heap) (locs : List Loc) (ls : Array Slot), f_X7_falseMark_J171 fu v_town v_felt v_marks v_wents v_went x1 x3 = some res → va_P D vwCl [oX7 q v_size v_at v_begin v_token v_told v_undos v_changed v_felt v_wents v_wish v_trace, rA (q 8) cI 64 v_town, rA (q 21) cI 6 v_marks, rA (q 23) cI 6 v_went] H → va_D A [oX7 q v_size v_at v_begin v_token v_told v_undos v_changed v_felt v_wents v_wish v_trace, rA (q 8) cI 64 v_town, rA (q 21) cI 6 v_marks, rA (q 23) cI 6 v_went] → va_S A s.heap H locs → lv_has ls 6 [(1, .int x1), (3, .int x3)] → W p l e rm_X7_falseMark s m args below meth c H locs 0 0 Q (F0 m 171 ls []) := by
    intro x1 x3 H locs ls h hP hD hS hl
    unfold f_X7_falseMark_J171 at h
    refine lv_iload_n hx hb dX7_falseMark_171 rfl (lv_at hl 1 rfl) ?_
    refine lv_if_eq (tgt := 187) hx hb dX7_falseMark_172 (by decide) (fun c1 => ?_) (fun c1 => ?_)
    · have h := (if_pos c1).symm.trans h
      refine lv_iconst (v := 0) hx hb dX7_falseMark_187 (by decide) ?_
      exact hret (0 : Int32) () H locs _ ls (Option.some.inj h) hP hD hS dX7_falseMark_188
    · have h := (if_neg c1).symm.trans h
      refine lv_iload_n hx hb dX7_falseMark_175 rfl (lv_at hl 0 rfl) ?_
      refine lv_bipush (v := (-9)) hx hb dX7_falseMark_176 (by decide) ?_
      refine lv_icmp_eq (tgt := 187) hx hb dX7_falseMark_178 (by decide) (fun c2 => ?_) (fun c2 => ?_)
      · have h := (if_pos c2).symm.trans h
        refine lv_iconst (v := 0) hx hb dX7_falseMark_187 (by decide) ?_
        exact hret (0 : Int32) () H locs _ ls (Option.some.inj h) hP hD hS dX7_falseMark_188
      · have h := (if_neg c2).symm.trans h
        refine lv_iconst (v := 1) hx hb dX7_falseMark_181 (by decide) ?_
        refine lv_iload_n hx hb dX7_falseMark_182 rfl (lv_at hl 0 rfl) ?_
        refine lv_ishl hx hb dX7_falseMark_183 ?_
        refine lv_goto (tgt := 188) hx hb dX7_falseMark_184 (by decide) ?_
        exact hret ((1 : Int32) <<< (x1 &&& 31)) () H locs _ ls (Option.some.inj h) hP hD hS dX7_falseMark_188
  have hL124 : ∀ (n124 : Nat), ∀ (x1 : Int32) (x2 : Int32) (x3 : Int32) (x4 : Int32) (H : Heap) (locs : List Loc) (ls : Array Slot), f_X7_falseMark_L124 fu n124 v_town v_felt v_marks v_wents v_went x1 x2 x3 x4 = some res → va_P D vwCl [oX7 q v_size v_at v_begin v_token v_told v_undos v_changed v_felt v_wents v_wish v_trace, rA (q 8) cI 64 v_town, rA (q 21) cI 6 v_marks, rA (q 23) cI 6 v_went] H → va_D A [oX7 q v_size v_at v_begin v_token v_told v_undos v_changed v_felt v_wents v_wish v_trace, rA (q 8) cI 64 v_town, rA (q 21) cI 6 v_marks, rA (q 23) cI 6 v_went] → va_S A s.heap H locs → lv_has ls 6 [(0, .ref (q 0)), (1, .int x1), (2, .int x2), (3, .int x3), (4, .int x4)] → W p l e rm_X7_falseMark s m args below meth c H locs 0 0 Q (F0 m 124 ls []) := by
    intro n124
    induction n124 with
    | zero =>
      intro x1 x2 x3 x4 H locs ls h hP hD hS hl
      cases (show (none : Option R_X7_falseMark) = some res from h)
    | succ n124 ih124 =>
      intro x1 x2 x3 x4 H locs ls h hP hD hS hl
      have h : f_X7_falseMark_L124b fu (f_X7_falseMark_L124 fu n124) v_town v_felt v_marks v_wents v_went x1 x2 x3 x4 = some res := h
      unfold f_X7_falseMark_L124b at h
      refine lv_iload hx hb dX7_falseMark_124 (lv_at hl 4 rfl) ?_
      refine lv_aload_n hx hb dX7_falseMark_126 rfl (lv_at hl 0 rfl) ?_
      refine va_get (C := RX7) (T := TX7) (N := 34) (v := .int v_felt) hx hb hts iw7 hown hK hP 0 rfl rfl 19 (Nat.le_of_ble_eq_true rfl) lk157 (fun _ h9 => h9) rfl dX7_falseMark_127 ?_
      refine lv_icmp_ge (tgt := 171) hx hb dX7_falseMark_130 (by decide) (fun c3 => ?_) (fun c3 => ?_)
      · have h := (if_pos c3).symm.trans h
        exact hJ171 x1 x3 H locs ls h hP hD hS (lv_sub hl [1, 3] rfl)
      · have h := (if_neg c3).symm.trans h
        refine lv_iload_n hx hb dX7_falseMark_133 rfl (lv_at hl 3 rfl) ?_
        refine lv_if_eq (tgt := 171) hx hb dX7_falseMark_134 (by decide) (fun c4 => ?_) (fun c4 => ?_)
        · have h := (if_pos c4).symm.trans h
          exact hJ171 x1 x3 H locs ls h hP hD hS (lv_sub hl [1, 3] rfl)
        · have h := (if_neg c4).symm.trans h
          refine lv_aload_n hx hb dX7_falseMark_137 rfl (lv_at hl 0 rfl) ?_
          refine va_get (C := RX7) (T := TX7) (N := 34) (v := .ref (q 23)) hx hb hts iw7 hown hK hP 0 rfl rfl 22 (Nat.le_of_ble_eq_true rfl) lk49 (fun _ h9 => h9) rfl dX7_falseMark_138 ?_
          refine lv_iload hx hb dX7_falseMark_141 (lv_at hl 4 rfl) ?_
          obtain ⟨hi5, h⟩ := xb_some h
          refine va_iald hx hb hK hP 3 0 rfl rfl hi5 dX7_falseMark_143 ?_
          refine lv_iload_n hx hb dX7_falseMark_144 rfl (lv_at hl 1 rfl) ?_
          refine lv_icmp_ne (tgt := 159) hx hb dX7_falseMark_145 (by decide) (fun c6 => ?_) (fun c6 => ?_)
          · have h := (if_neg c6).symm.trans h
            refine lv_iconst (v := 1) hx hb dX7_falseMark_159 (by decide) ?_
            refine lv_goto (tgt := 164) hx hb dX7_falseMark_160 (by decide) ?_
            refine lv_istore_n (lv' := [(3, .int (1 : Int32)), (0, .ref (q 0)), (1, .int x1), (2, .int x2), (4, .int x4)]) hx hb dX7_falseMark_164 rfl hl (by decide) rfl (fun ls hl => ?_)
            refine lv_iinc (v := x4 + 1) (lv' := [(4, .int (x4 + 1)), (3, .int (1 : Int32)), (0, .ref (q 0)), (1, .int x1), (2, .int x2)]) hx hb dX7_falseMark_165 hl (k := 4) rfl rfl (by decide) rfl (fun ls hl => ?_)
            refine lv_goto (tgt := 124) hx hb dX7_falseMark_168 (by decide) ?_
            exact ih124 x1 x2 (1 : Int32) (x4 + 1) H locs ls h hP hD hS (lv_sub hl [2, 3, 4, 1, 0] rfl)
          · have h := (if_pos c6).symm.trans h
            refine lv_aload_n hx hb dX7_falseMark_148 rfl (lv_at hl 0 rfl) ?_
            refine va_get (C := RX7) (T := TX7) (N := 34) (v := .ref (q 21)) hx hb hts iw7 hown hK hP 0 rfl rfl 20 (Nat.le_of_ble_eq_true rfl) lk46 (fun _ h9 => h9) rfl dX7_falseMark_149 ?_
            refine lv_iload hx hb dX7_falseMark_152 (lv_at hl 4 rfl) ?_
            obtain ⟨hi7, h⟩ := xb_some h
            refine va_iald hx hb hK hP 2 0 rfl rfl hi7 dX7_falseMark_154 ?_
            refine lv_iload_n hx hb dX7_falseMark_155 rfl (lv_at hl 2 rfl) ?_
            refine lv_icmp_ne (tgt := 163) hx hb dX7_falseMark_156 (by decide) (fun c8 => ?_) (fun c8 => ?_)
            · have h := (if_neg c8).symm.trans h
              refine lv_iconst (v := 0) hx hb dX7_falseMark_163 (by decide) ?_
              refine lv_istore_n (lv' := [(3, .int (0 : Int32)), (0, .ref (q 0)), (1, .int x1), (2, .int x2), (4, .int x4)]) hx hb dX7_falseMark_164 rfl hl (by decide) rfl (fun ls hl => ?_)
              refine lv_iinc (v := x4 + 1) (lv' := [(4, .int (x4 + 1)), (3, .int (0 : Int32)), (0, .ref (q 0)), (1, .int x1), (2, .int x2)]) hx hb dX7_falseMark_165 hl (k := 4) rfl rfl (by decide) rfl (fun ls hl => ?_)
              refine lv_goto (tgt := 124) hx hb dX7_falseMark_168 (by decide) ?_
              exact ih124 x1 x2 (0 : Int32) (x4 + 1) H locs ls h hP hD hS (lv_sub hl [2, 3, 4, 1, 0] rfl)
            · have h := (if_pos c8).symm.trans h
              refine lv_iconst (v := 1) hx hb dX7_falseMark_159 (by decide) ?_
              refine lv_goto (tgt := 164) hx hb dX7_falseMark_160 (by decide) ?_
              refine lv_istore_n (lv' := [(3, .int (1 : Int32)), (0, .ref (q 0)), (1, .int x1), (2, .int x2), (4, .int x4)]) hx hb dX7_falseMark_164 rfl hl (by decide) rfl (fun ls hl => ?_)
              refine lv_iinc (v := x4 + 1) (lv' := [(4, .int (x4 + 1)), (3, .int (1 : Int32)), (0, .ref (q 0)), (1, .int x1), (2, .int x2)]) hx hb dX7_falseMark_165 hl (k := 4) rfl rfl (by decide) rfl (fun ls hl => ?_)
              refine lv_goto (tgt := 124) hx hb dX7_falseMark_168 (by decide) ?_
              exact ih124 x1 x2 (1 : Int32) (x4 + 1) H locs ls h hP hD hS (lv_sub hl [2, 3, 4, 1, 0] rfl)
  have hL33 : ∀ (n33 : Nat), ∀ (x1 : Int32) (x2 : Int32) (x3 : Int32) (x4 : Int32) (H : Heap) (locs : List Loc) (ls : Array Slot), f_X7_falseMark_L33 fu n33 v_town v_felt v_marks v_wents v_went x1 x2 x3 x4 = some res → va_P D vwCl [oX7 q v_size v_at v_begin v_token v_told v_undos v_changed v_felt v_wents v_wish v_trace, rA (q 8) cI 64 v_town, rA (q 21) cI 6 v_marks, rA (q 23) cI 6 v_went] H → va_D A [oX7 q v_size v_at v_begin v_token v_told v_undos v_changed v_felt v_wents v_wish v_trace, rA (q 8) cI 64 v_town, rA (q 21) cI 6 v_marks, rA (q 23) cI 6 v_went] → va_S A s.heap H locs → lv_has ls 6 [(0, .ref (q 0)), (1, .int x1), (2, .int x2), (3, .int x3), (4, .int x4)] → W p l e rm_X7_falseMark s m args below meth c H locs 0 0 Q (F0 m 33 ls []) := by
    intro n33
    induction n33 with
    | zero =>
      intro x1 x2 x3 x4 H locs ls h hP hD hS hl
      cases (show (none : Option R_X7_falseMark) = some res from h)
    | succ n33 ih33 =>
      have hJ103 : ∀ (x4 : Int32) (x5 : Int32) (z0 : Int32) (H : Heap) (locs : List Loc) (ls : Array Slot), f_X7_falseMark_J103 fu (f_X7_falseMark_L33 fu n33) v_town v_felt v_marks v_wents v_went x4 x5 z0 = some res → va_P D vwCl [oX7 q v_size v_at v_begin v_token v_told v_undos v_changed v_felt v_wents v_wish v_trace, rA (q 8) cI 64 v_town, rA (q 21) cI 6 v_marks, rA (q 23) cI 6 v_went] H → va_D A [oX7 q v_size v_at v_begin v_token v_told v_undos v_changed v_felt v_wents v_wish v_trace, rA (q 8) cI 64 v_town, rA (q 21) cI 6 v_marks, rA (q 23) cI 6 v_went] → va_S A s.heap H locs → lv_has ls 6 [(0, .ref (q 0)), (4, .int x4), (5, .int x5)] → W p l e rm_X7_falseMark s m args below meth c H locs 0 0 Q (F0 m 103 ls [.int z0]) := by
        intro x4 x5 z0 H locs ls h hP hD hS hl
        unfold f_X7_falseMark_J103 at h
        refine lv_istore_n (lv' := [(3, .int z0), (0, .ref (q 0)), (4, .int x4), (5, .int x5)]) hx hb dX7_falseMark_103 rfl hl (by decide) rfl (fun ls hl => ?_)
        refine lv_iload hx hb dX7_falseMark_104 (lv_at hl 3 rfl) ?_
        refine lv_istore_n (lv' := [(1, .int x5), (3, .int z0), (0, .ref (q 0)), (4, .int x4), (5, .int x5)]) hx hb dX7_falseMark_106 rfl hl (by decide) rfl (fun ls hl => ?_)
        refine lv_aload_n hx hb dX7_falseMark_107 rfl (lv_at hl 2 rfl) ?_
        refine va_get (C := RX7) (T := TX7) (N := 34) (v := .ref (q 21)) hx hb hts iw7 hown hK hP 0 rfl rfl 20 (Nat.le_of_ble_eq_true rfl) lk46 (fun _ h9 => h9) rfl dX7_falseMark_108 ?_
        refine lv_iload hx hb dX7_falseMark_111 (lv_at hl 3 rfl) ?_
        obtain ⟨hi9, h⟩ := xb_some h
        refine va_iald hx hb hK hP 2 0 rfl rfl hi9 dX7_falseMark_113 ?_
        refine lv_istore_n (lv' := [(2, .int (v_marks x4.toNatClampNeg)), (1, .int x5), (3, .int z0), (0, .ref (q 0)), (4, .int x4), (5, .int x5)]) hx hb dX7_falseMark_114 rfl hl (by decide) rfl (fun ls hl => ?_)
        refine lv_iinc (v := x4 + 1) (lv' := [(4, .int (x4 + 1)), (2, .int (v_marks x4.toNatClampNeg)), (1, .int x5), (3, .int z0), (0, .ref (q 0)), (5, .int x5)]) hx hb dX7_falseMark_115 hl (k := 4) rfl rfl (by decide) rfl (fun ls hl => ?_)
        refine lv_goto (tgt := 33) hx hb dX7_falseMark_118 (by decide) ?_
        exact ih33 x5 (v_marks x4.toNatClampNeg) z0 (x4 + 1) H locs ls h hP hD hS (lv_sub hl [4, 2, 1, 3, 0] rfl)
      intro x1 x2 x3 x4 H locs ls h hP hD hS hl
      have h : f_X7_falseMark_L33b fu (f_X7_falseMark_L33 fu n33) v_town v_felt v_marks v_wents v_went x1 x2 x3 x4 = some res := h
      unfold f_X7_falseMark_L33b at h
      refine lv_iload hx hb dX7_falseMark_33 (lv_at hl 4 rfl) ?_
      refine lv_aload_n hx hb dX7_falseMark_35 rfl (lv_at hl 0 rfl) ?_
      refine va_get (C := RX7) (T := TX7) (N := 34) (v := .int v_felt) hx hb hts iw7 hown hK hP 0 rfl rfl 19 (Nat.le_of_ble_eq_true rfl) lk157 (fun _ h9 => h9) rfl dX7_falseMark_36 ?_
      refine lv_icmp_ge (tgt := 121) hx hb dX7_falseMark_39 (by decide) (fun c10 => ?_) (fun c10 => ?_)
      · have h := (if_pos c10).symm.trans h
        refine lv_iconst (v := 0) hx hb dX7_falseMark_121 (by decide) ?_
        refine lv_istore (lv' := [(4, .int (0 : Int32)), (0, .ref (q 0)), (1, .int x1), (2, .int x2), (3, .int x3)]) hx hb dX7_falseMark_122 hl (by decide) rfl (fun ls hl => ?_)
        exact hL124 fu x1 x2 x3 (0 : Int32) H locs ls h hP hD hS (lv_sub hl [1, 2, 3, 4, 0] rfl)
      · have h := (if_neg c10).symm.trans h
        refine lv_iload_n hx hb dX7_falseMark_42 rfl (lv_at hl 3 rfl) ?_
        refine lv_if_eq (tgt := 121) hx hb dX7_falseMark_43 (by decide) (fun c11 => ?_) (fun c11 => ?_)
        · have h := (if_pos c11).symm.trans h
          refine lv_iconst (v := 0) hx hb dX7_falseMark_121 (by decide) ?_
          refine lv_istore (lv' := [(4, .int (0 : Int32)), (0, .ref (q 0)), (1, .int x1), (2, .int x2), (3, .int x3)]) hx hb dX7_falseMark_122 hl (by decide) rfl (fun ls hl => ?_)
          exact hL124 fu x1 x2 x3 (0 : Int32) H locs ls h hP hD hS (lv_sub hl [1, 2, 3, 4, 0] rfl)
        · have h := (if_neg c11).symm.trans h
          refine lv_aload_n hx hb dX7_falseMark_46 rfl (lv_at hl 0 rfl) ?_
          refine va_get (C := RX7) (T := TX7) (N := 34) (v := .ref (q 23)) hx hb hts iw7 hown hK hP 0 rfl rfl 22 (Nat.le_of_ble_eq_true rfl) lk49 (fun _ h9 => h9) rfl dX7_falseMark_47 ?_
          refine lv_iload hx hb dX7_falseMark_50 (lv_at hl 4 rfl) ?_
          obtain ⟨hi12, h⟩ := xb_some h
          refine va_iald hx hb hK hP 3 0 rfl rfl hi12 dX7_falseMark_52 ?_
          refine lv_istore (lv' := [(5, .int (v_went x4.toNatClampNeg)), (0, .ref (q 0)), (1, .int x1), (2, .int x2), (3, .int x3), (4, .int x4)]) hx hb dX7_falseMark_53 hl (by decide) rfl (fun ls hl => ?_)
          refine lv_aload_n hx hb dX7_falseMark_55 rfl (lv_at hl 1 rfl) ?_
          refine va_get (C := RX7) (T := TX7) (N := 34) (v := .ref (q 21)) hx hb hts iw7 hown hK hP 0 rfl rfl 20 (Nat.le_of_ble_eq_true rfl) lk46 (fun _ h9 => h9) rfl dX7_falseMark_56 ?_
          refine lv_iload hx hb dX7_falseMark_59 (lv_at hl 5 rfl) ?_
          obtain ⟨hi13, h⟩ := xb_some h
          refine va_iald hx hb hK hP 2 0 rfl rfl hi13 dX7_falseMark_61 ?_
          refine lv_aload_n hx hb dX7_falseMark_62 rfl (lv_at hl 1 rfl) ?_
          refine va_get (C := RX7) (T := TX7) (N := 34) (v := .ref (q 8)) hx hb hts iw7 hown hK hP 0 rfl rfl 7 (Nat.le_of_ble_eq_true rfl) lk16 (fun _ h9 => h9) rfl dX7_falseMark_63 ?_
          refine lv_bipush (v := 6) hx hb dX7_falseMark_66 (by decide) ?_
          refine lv_iload hx hb dX7_falseMark_68 (lv_at hl 0 rfl) ?_
          refine lv_iadd hx hb dX7_falseMark_70 ?_
          obtain ⟨hi14, h⟩ := xb_some h
          refine va_iald hx hb hK hP 1 0 rfl rfl hi14 dX7_falseMark_71 ?_
          refine lv_icmp_eq (tgt := 115) hx hb dX7_falseMark_72 (by decide) (fun c15 => ?_) (fun c15 => ?_)
          · have h := (if_pos c15).symm.trans h
            refine lv_iinc (v := x4 + 1) (lv' := [(4, .int (x4 + 1)), (5, .int (v_went x4.toNatClampNeg)), (0, .ref (q 0)), (1, .int x1), (2, .int x2), (3, .int x3)]) hx hb dX7_falseMark_115 hl (k := 5) rfl rfl (by decide) rfl (fun ls hl => ?_)
            refine lv_goto (tgt := 33) hx hb dX7_falseMark_118 (by decide) ?_
            exact ih33 x1 x2 x3 (x4 + 1) H locs ls h hP hD hS (lv_sub hl [2, 3, 4, 5, 0] rfl)
          · have h := (if_neg c15).symm.trans h
            refine lv_iload_n hx hb dX7_falseMark_75 rfl (lv_at hl 2 rfl) ?_
            refine lv_bipush (v := (-9)) hx hb dX7_falseMark_76 (by decide) ?_
            refine lv_icmp_eq (tgt := 98) hx hb dX7_falseMark_78 (by decide) (fun c16 => ?_) (fun c16 => ?_)
            · have h := (if_pos c16).symm.trans h
              refine lv_iconst (v := 1) hx hb dX7_falseMark_98 (by decide) ?_
              refine lv_goto (tgt := 103) hx hb dX7_falseMark_99 (by decide) ?_
              exact hJ103 x4 (v_went x4.toNatClampNeg) (1 : Int32) H locs ls h hP hD hS (lv_sub hl [1, 5, 0] rfl)
            · have h := (if_neg c16).symm.trans h
              refine lv_iload_n hx hb dX7_falseMark_81 rfl (lv_at hl 2 rfl) ?_
              refine lv_iload hx hb dX7_falseMark_82 (lv_at hl 0 rfl) ?_
              refine lv_icmp_ne (tgt := 102) hx hb dX7_falseMark_84 (by decide) (fun c17 => ?_) (fun c17 => ?_)
              · have h := (if_neg c17).symm.trans h
                refine lv_iconst (v := 0) hx hb dX7_falseMark_102 (by decide) ?_
                exact hJ103 x4 (v_went x4.toNatClampNeg) (0 : Int32) H locs ls h hP hD hS (lv_sub hl [1, 5, 0] rfl)
              · have h := (if_pos c17).symm.trans h
                refine lv_iload_n hx hb dX7_falseMark_87 rfl (lv_at hl 3 rfl) ?_
                refine lv_aload_n hx hb dX7_falseMark_88 rfl (lv_at hl 1 rfl) ?_
                refine va_get (C := RX7) (T := TX7) (N := 34) (v := .ref (q 21)) hx hb hts iw7 hown hK hP 0 rfl rfl 20 (Nat.le_of_ble_eq_true rfl) lk46 (fun _ h9 => h9) rfl dX7_falseMark_89 ?_
                refine lv_iload hx hb dX7_falseMark_92 (lv_at hl 5 rfl) ?_
                obtain ⟨hi18, h⟩ := xb_some h
                refine va_iald hx hb hK hP 2 0 rfl rfl hi18 dX7_falseMark_94 ?_
                refine lv_icmp_ne (tgt := 102) hx hb dX7_falseMark_95 (by decide) (fun c19 => ?_) (fun c19 => ?_)
                · have h := (if_neg c19).symm.trans h
                  refine lv_iconst (v := 0) hx hb dX7_falseMark_102 (by decide) ?_
                  exact hJ103 x4 (v_went x4.toNatClampNeg) (0 : Int32) H locs ls h hP hD hS (lv_sub hl [1, 5, 0] rfl)
                · have h := (if_pos c19).symm.trans h
                  refine lv_iconst (v := 1) hx hb dX7_falseMark_98 (by decide) ?_
                  refine lv_goto (tgt := 103) hx hb dX7_falseMark_99 (by decide) ?_
                  exact hJ103 x4 (v_went x4.toNatClampNeg) (1 : Int32) H locs ls h hP hD hS (lv_sub hl [1, 5, 0] rfl)
  have h := hf
  unfold f_X7_falseMark at h
  obtain ⟨H, eH⟩ : ∃ H, H = s.heap := ⟨_, rfl⟩
  rw [← eH] at hP ⊢
  obtain ⟨locs, el⟩ : ∃ locs : List Loc, locs = [] := ⟨_, rfl⟩
  rw [← el] at hS ⊢
  have hS : va_S A s.heap H locs := by rw [eH]; exact hS
  refine lv_bipush (v := (-9)) hx hb dX7_falseMark_0 (by decide) ?_
  refine lv_istore_n (lv' := [(1, .int (-9 : Int32)), (0, .ref (q 0))]) hx hb dX7_falseMark_2 rfl hl (by decide) rfl (fun ls hl => ?_)
  refine lv_bipush (v := (-9)) hx hb dX7_falseMark_3 (by decide) ?_
  refine lv_istore_n (lv' := [(2, .int (-9 : Int32)), (1, .int (-9 : Int32)), (0, .ref (q 0))]) hx hb dX7_falseMark_5 rfl hl (by decide) rfl (fun ls hl => ?_)
  refine lv_aload_n hx hb dX7_falseMark_6 rfl (lv_at hl 2 rfl) ?_
  refine va_get (C := RX7) (T := TX7) (N := 34) (v := .int v_felt) hx hb hts iw7 hown hK hP 0 rfl rfl 19 (Nat.le_of_ble_eq_true rfl) lk157 (fun _ h9 => h9) rfl dX7_falseMark_7 ?_
  refine lv_aload_n hx hb dX7_falseMark_10 rfl (lv_at hl 2 rfl) ?_
  refine va_get (C := RX7) (T := TX7) (N := 34) (v := .int v_wents) hx hb hts iw7 hown hK hP 0 rfl rfl 21 (Nat.le_of_ble_eq_true rfl) lk160 (fun _ h9 => h9) rfl dX7_falseMark_11 ?_
  refine lv_icmp_ne (tgt := 28) hx hb dX7_falseMark_14 (by decide) (fun c20 => ?_) (fun c20 => ?_)
  · have h := (if_neg c20).symm.trans h
    refine lv_iconst (v := 0) hx hb dX7_falseMark_28 (by decide) ?_
    refine lv_istore_n (lv' := [(3, .int (0 : Int32)), (2, .int (-9 : Int32)), (1, .int (-9 : Int32)), (0, .ref (q 0))]) hx hb dX7_falseMark_29 rfl hl (by decide) rfl (fun ls hl => ?_)
    refine lv_iconst (v := 0) hx hb dX7_falseMark_30 (by decide) ?_
    refine lv_istore (lv' := [(4, .int (0 : Int32)), (3, .int (0 : Int32)), (2, .int (-9 : Int32)), (1, .int (-9 : Int32)), (0, .ref (q 0))]) hx hb dX7_falseMark_31 hl (by decide) rfl (fun ls hl => ?_)
    exact hL33 fu (-9 : Int32) (-9 : Int32) (0 : Int32) (0 : Int32) H locs ls h hP hD hS (lv_sub hl [4, 3, 2, 1, 0] rfl)
  · have h := (if_pos c20).symm.trans h
    refine lv_aload_n hx hb dX7_falseMark_17 rfl (lv_at hl 2 rfl) ?_
    refine va_get (C := RX7) (T := TX7) (N := 34) (v := .int v_felt) hx hb hts iw7 hown hK hP 0 rfl rfl 19 (Nat.le_of_ble_eq_true rfl) lk157 (fun _ h9 => h9) rfl dX7_falseMark_18 ?_
    refine lv_if_le (tgt := 28) hx hb dX7_falseMark_21 (by decide) (fun c21 => ?_) (fun c21 => ?_)
    · have h := (if_pos c21).symm.trans h
      refine lv_iconst (v := 0) hx hb dX7_falseMark_28 (by decide) ?_
      refine lv_istore_n (lv' := [(3, .int (0 : Int32)), (2, .int (-9 : Int32)), (1, .int (-9 : Int32)), (0, .ref (q 0))]) hx hb dX7_falseMark_29 rfl hl (by decide) rfl (fun ls hl => ?_)
      refine lv_iconst (v := 0) hx hb dX7_falseMark_30 (by decide) ?_
      refine lv_istore (lv' := [(4, .int (0 : Int32)), (3, .int (0 : Int32)), (2, .int (-9 : Int32)), (1, .int (-9 : Int32)), (0, .ref (q 0))]) hx hb dX7_falseMark_31 hl (by decide) rfl (fun ls hl => ?_)
      exact hL33 fu (-9 : Int32) (-9 : Int32) (0 : Int32) (0 : Int32) H locs ls h hP hD hS (lv_sub hl [4, 3, 2, 1, 0] rfl)
    · have h := (if_neg c21).symm.trans h
      refine lv_iconst (v := 1) hx hb dX7_falseMark_24 (by decide) ?_
      refine lv_goto (tgt := 29) hx hb dX7_falseMark_25 (by decide) ?_
      refine lv_istore_n (lv' := [(3, .int (1 : Int32)), (2, .int (-9 : Int32)), (1, .int (-9 : Int32)), (0, .ref (q 0))]) hx hb dX7_falseMark_29 rfl hl (by decide) rfl (fun ls hl => ?_)
      refine lv_iconst (v := 0) hx hb dX7_falseMark_30 (by decide) ?_
      refine lv_istore (lv' := [(4, .int (0 : Int32)), (3, .int (1 : Int32)), (2, .int (-9 : Int32)), (1, .int (-9 : Int32)), (0, .ref (q 0))]) hx hb dX7_falseMark_31 hl (by decide) rfl (fun ls hl => ?_)
      exact hL33 fu (-9 : Int32) (-9 : Int32) (1 : Int32) (0 : Int32) H locs ls h hP hD hS (lv_sub hl [4, 3, 2, 1, 0] rfl)
abbrev rm_X7_wishes : Room := { frames := 2, cells := 0, slots := 0, locals := 46 }
set_option maxHeartbeats 4000000 in
set_option maxRecDepth 100000 in
theorem k_X7_wishes (l : Launch) (D : va_G) (cI cZ cT : ClassId) (q : Nat → Nat) (sz : Nat) (v_size : Int32) (v_at : Int32) (v_begin : Int32) (v_token : Int32) (v_told : Int32) (v_undos : Int32) (v_changed : Int32) (v_felt : Int32) (v_wents : Int32) (v_wish : Int32) (v_trace : Int64) (v_town : Nat → Int32) (v_wishFrom : Nat → Int32) (v_wishTo : Nat → Int32) (v_wishWorth : Nat → Int32) (x1 : Int32) (x2 : Int32) (x3 : Int32) (res : R_X7_wishes) (hf : f_X7_wishes v_town v_wish v_wishFrom v_wishTo v_wishWorth x1 x2 x3 = some res) : Met l yX7_wishes wsX7_wishes rm_X7_wishes (cPre D (tyz cI cZ cT) [.ref (q 0), .int x1, .int x2, .int x3] sz [oX7 q v_size v_at v_begin v_token v_told v_undos v_changed v_felt v_wents v_wish v_trace, rA (q 8) cI 64 v_town, rA (q 29) cI 4 v_wishFrom, rA (q 30) cI 4 v_wishTo, rA (q 31) cI 4 v_wishWorth]) (cPi D (tyz cI cZ cT) (fun (r : Int32) (u : Int32 × (Nat → Int32) × (Nat → Int32) × (Nat → Int32)) => (r, u) = res) (fun u => [oX7 q v_size v_at v_begin v_token v_told v_undos v_changed v_felt v_wents u.1 v_trace, rA (q 8) cI 64 v_town, rA (q 29) cI 4 u.2.1, rA (q 30) cI 4 u.2.2.1, rA (q 31) cI 4 u.2.2.2]) [oX7 q v_size v_at v_begin v_token v_told v_undos v_changed v_felt v_wents v_wish v_trace, rA (q 8) cI 64 v_town, rA (q 29) cI 4 v_wishFrom, rA (q 30) cI 4 v_wishTo, rA (q 31) cI 4 v_wishWorth] sz) 0 0 (va_A [oX7 q v_size v_at v_begin v_token v_told v_undos v_changed v_felt v_wents v_wish v_trace, rA (q 8) cI 64 v_town, rA (q 29) cI 4 v_wishFrom, rA (q 30) cI 4 v_wishTo, rA (q 31) cI 4 v_wishWorth] sz) := by
  refine vx_meth_i (by decide) rfl (Nat.le_of_ble_eq_true rfl) ?_
  intro p e s m args below meth c A Q hx hb hml hown hts hK hP hD hA hS hret ls hl
  have hown : s.vm.findClass RX7 = some m.cls := hown
  have hl : lv_has ls 4 [(0, .ref (q 0)), (1, .int x1), (2, .int x2), (3, .int x3)] := hl
  have hFx : CallFix p m c cX7_wishes 4 s args wsX7_wishes RX7 := ⟨hx, hb, hml, hown, hts⟩
  have lk163 := hts (.fieldLink RX7 163 "FogGuidesModel" "wish" "I") (by decide +kernel)
  have iw7 : ∀ w ∈ u_ws RX7 TX7 34, w ∈ wsX7_wishes := by decide +kernel
  have lk64 := hts (.fieldLink RX7 64 "FogGuidesModel" "wishFrom" "[I") (by decide +kernel)
  have lk67 := hts (.fieldLink RX7 67 "FogGuidesModel" "wishTo" "[I") (by decide +kernel)
  have lk70 := hts (.fieldLink RX7 70 "FogGuidesModel" "wishWorth" "[I") (by decide +kernel)
  have h := hf
  unfold f_X7_wishes at h
  obtain ⟨H, eH⟩ : ∃ H, H = s.heap := ⟨_, rfl⟩
  rw [← eH] at hP ⊢
  obtain ⟨locs, el⟩ : ∃ locs : List Loc, locs = [] := ⟨_, rfl⟩
  rw [← el] at hS ⊢
  have hS : va_S A s.heap H locs := by rw [eH]; exact hS
  refine lv_aload_n hx hb dX7_wishes_0 rfl (lv_at hl 0 rfl) ?_
  refine lv_iload_n hx hb dX7_wishes_1 rfl (lv_at hl 1 rfl) ?_
  obtain ⟨r1, hr1, h⟩ := xk_some h
  refine vx_VJ (As := [.int x1]) (rest := []) hFx (k_X7_isCorner l D cI cZ cT q H.size v_size v_at v_begin v_token v_told v_undos v_changed v_felt v_wents v_wish v_trace v_town x1 r1 hr1) (cwV 1 hts gX7_wishes_X7_isCorner rfl rfl rfl (by decide +kernel) ⟨Nat.le_of_ble_eq_true rfl, Nat.le_of_ble_eq_true rfl⟩) hK hP hD hS hA [0, 1] rfl rfl 7 0 rfl rfl rfl hl.1 rfl (Nat.le_of_ble_eq_true rfl) dX7_wishes_2 ⟨Nat.zero_le _, Nat.zero_le _⟩ (fun H locs hP hS => ?_)
  refine lv_if_eq (tgt := 33) hx hb dX7_wishes_5 (by decide) (fun c2 => ?_) (fun c2 => ?_)
  · have h := (if_pos c2).symm.trans h
    refine lv_iconst (v := (-1)) hx hb dX7_wishes_33 (by decide) ?_
    exact hret (-1 : Int32) (v_wish, v_wishFrom, v_wishTo, v_wishWorth) H locs _ ls (Option.some.inj h) hP hD hS dX7_wishes_34
  · have h := (if_neg c2).symm.trans h
    refine lv_aload_n hx hb dX7_wishes_8 rfl (lv_at hl 0 rfl) ?_
    refine lv_iload_n hx hb dX7_wishes_9 rfl (lv_at hl 2 rfl) ?_
    obtain ⟨r3, hr3, h⟩ := xk_some h
    refine vx_VJ (As := [.int x2]) (rest := []) hFx (k_X7_isCorner l D cI cZ cT q H.size v_size v_at v_begin v_token v_told v_undos v_changed v_felt v_wents v_wish v_trace v_town x2 r3 hr3) (cwV 1 hts gX7_wishes_X7_isCorner rfl rfl rfl (by decide +kernel) ⟨Nat.le_of_ble_eq_true rfl, Nat.le_of_ble_eq_true rfl⟩) hK hP hD hS hA [0, 1] rfl rfl 7 0 rfl rfl rfl hl.1 rfl (Nat.le_of_ble_eq_true rfl) dX7_wishes_10 ⟨Nat.zero_le _, Nat.zero_le _⟩ (fun H locs hP hS => ?_)
    refine lv_if_eq (tgt := 33) hx hb dX7_wishes_13 (by decide) (fun c4 => ?_) (fun c4 => ?_)
    · have h := (if_pos c4).symm.trans h
      refine lv_iconst (v := (-1)) hx hb dX7_wishes_33 (by decide) ?_
      exact hret (-1 : Int32) (v_wish, v_wishFrom, v_wishTo, v_wishWorth) H locs _ ls (Option.some.inj h) hP hD hS dX7_wishes_34
    · have h := (if_neg c4).symm.trans h
      refine lv_iload_n hx hb dX7_wishes_16 rfl (lv_at hl 1 rfl) ?_
      refine lv_iload_n hx hb dX7_wishes_17 rfl (lv_at hl 2 rfl) ?_
      refine lv_icmp_eq (tgt := 33) hx hb dX7_wishes_18 (by decide) (fun c5 => ?_) (fun c5 => ?_)
      · have h := (if_pos c5).symm.trans h
        refine lv_iconst (v := (-1)) hx hb dX7_wishes_33 (by decide) ?_
        exact hret (-1 : Int32) (v_wish, v_wishFrom, v_wishTo, v_wishWorth) H locs _ ls (Option.some.inj h) hP hD hS dX7_wishes_34
      · have h := (if_neg c5).symm.trans h
        refine lv_iload_n hx hb dX7_wishes_21 rfl (lv_at hl 3 rfl) ?_
        refine lv_i2l hx hb dX7_wishes_22 rfl ?_
        refine lv_lconst (v := 0) hx hb dX7_wishes_23 (by decide) ?_
        refine lv_ldc2 (v := (99)) hx hb hown (hts (.constantLong RX7 226 (99)) (by decide +kernel)) dX7_wishes_24 ?_
        obtain ⟨r6, hr6, h⟩ := xk_some h
        refine vx_SJ (As := [.long x3.toInt64, .long (0 : Int64), .long (99 : Int64)]) (rest := []) hFx (k_X7_in l D cI cZ cT H.size x3.toInt64 (0 : Int64) (99 : Int64) r6 hr6) (vx_cwS 3 hts gX7_wishes_X7_in rfl rfl rfl (by decide +kernel) ⟨Nat.le_of_ble_eq_true rfl, Nat.le_of_ble_eq_true rfl⟩) hK hP hD hS hA rfl hl.1 rfl (Nat.le_of_ble_eq_true rfl) dX7_wishes_27 ⟨Nat.zero_le _, Nat.zero_le _⟩ (fun H locs hP hS => ?_)
        refine lv_if_ne (tgt := 35) hx hb dX7_wishes_30 (by decide) (fun c7 => ?_) (fun c7 => ?_)
        · have h := (if_neg c7).symm.trans h
          refine lv_aload_n hx hb dX7_wishes_35 rfl (lv_at hl 0 rfl) ?_
          refine va_get (C := RX7) (T := TX7) (N := 34) (v := .int v_wish) hx hb hts iw7 hown hK hP 0 rfl rfl 27 (Nat.le_of_ble_eq_true rfl) lk163 (fun _ h9 => h9) rfl dX7_wishes_36 ?_
          refine lv_iconst (v := 4) hx hb dX7_wishes_39 (by decide) ?_
          refine lv_icmp_ne (tgt := 46) hx hb dX7_wishes_40 (by decide) (fun c8 => ?_) (fun c8 => ?_)
          · have h := (if_neg c8).symm.trans h
            refine lv_aload_n hx hb dX7_wishes_46 rfl (lv_at hl 0 rfl) ?_
            refine va_get (C := RX7) (T := TX7) (N := 34) (v := .ref (q 29)) hx hb hts iw7 hown hK hP 0 rfl rfl 28 (Nat.le_of_ble_eq_true rfl) lk64 (fun _ h9 => h9) rfl dX7_wishes_47 ?_
            refine lv_aload_n hx hb dX7_wishes_50 rfl (lv_at hl 0 rfl) ?_
            refine va_get (C := RX7) (T := TX7) (N := 34) (v := .int v_wish) hx hb hts iw7 hown hK hP 0 rfl rfl 27 (Nat.le_of_ble_eq_true rfl) lk163 (fun _ h9 => h9) rfl dX7_wishes_51 ?_
            refine lv_iload_n hx hb dX7_wishes_54 rfl (lv_at hl 1 rfl) ?_
            obtain ⟨hi9, h⟩ := xb_some h
            refine va_iast hx hb hK hP hD hS 2 0 rfl rfl hi9 dX7_wishes_55 (fun H locs hP hD hS => ?_)
            have hP : va_P D vwCl [oX7 q v_size v_at v_begin v_token v_told v_undos v_changed v_felt v_wents v_wish v_trace, rA (q 8) cI 64 v_town, rA (q 29) cI 4 (upd v_wishFrom v_wish.toNatClampNeg x1), rA (q 30) cI 4 v_wishTo, rA (q 31) cI 4 v_wishWorth] H := hP
            have hD : va_D A [oX7 q v_size v_at v_begin v_token v_told v_undos v_changed v_felt v_wents v_wish v_trace, rA (q 8) cI 64 v_town, rA (q 29) cI 4 (upd v_wishFrom v_wish.toNatClampNeg x1), rA (q 30) cI 4 v_wishTo, rA (q 31) cI 4 v_wishWorth] := hD
            refine lv_aload_n hx hb dX7_wishes_56 rfl (lv_at hl 0 rfl) ?_
            refine va_get (C := RX7) (T := TX7) (N := 34) (v := .ref (q 30)) hx hb hts iw7 hown hK hP 0 rfl rfl 29 (Nat.le_of_ble_eq_true rfl) lk67 (fun _ h9 => h9) rfl dX7_wishes_57 ?_
            refine lv_aload_n hx hb dX7_wishes_60 rfl (lv_at hl 0 rfl) ?_
            refine va_get (C := RX7) (T := TX7) (N := 34) (v := .int v_wish) hx hb hts iw7 hown hK hP 0 rfl rfl 27 (Nat.le_of_ble_eq_true rfl) lk163 (fun _ h9 => h9) rfl dX7_wishes_61 ?_
            refine lv_iload_n hx hb dX7_wishes_64 rfl (lv_at hl 2 rfl) ?_
            obtain ⟨hi10, h⟩ := xb_some h
            refine va_iast hx hb hK hP hD hS 3 0 rfl rfl hi10 dX7_wishes_65 (fun H locs hP hD hS => ?_)
            have hP : va_P D vwCl [oX7 q v_size v_at v_begin v_token v_told v_undos v_changed v_felt v_wents v_wish v_trace, rA (q 8) cI 64 v_town, rA (q 29) cI 4 (upd v_wishFrom v_wish.toNatClampNeg x1), rA (q 30) cI 4 (upd v_wishTo v_wish.toNatClampNeg x2), rA (q 31) cI 4 v_wishWorth] H := hP
            have hD : va_D A [oX7 q v_size v_at v_begin v_token v_told v_undos v_changed v_felt v_wents v_wish v_trace, rA (q 8) cI 64 v_town, rA (q 29) cI 4 (upd v_wishFrom v_wish.toNatClampNeg x1), rA (q 30) cI 4 (upd v_wishTo v_wish.toNatClampNeg x2), rA (q 31) cI 4 v_wishWorth] := hD
            refine lv_aload_n hx hb dX7_wishes_66 rfl (lv_at hl 0 rfl) ?_
            refine va_get (C := RX7) (T := TX7) (N := 34) (v := .ref (q 31)) hx hb hts iw7 hown hK hP 0 rfl rfl 30 (Nat.le_of_ble_eq_true rfl) lk70 (fun _ h9 => h9) rfl dX7_wishes_67 ?_
            refine lv_aload_n hx hb dX7_wishes_70 rfl (lv_at hl 0 rfl) ?_
            refine va_get (C := RX7) (T := TX7) (N := 34) (v := .int v_wish) hx hb hts iw7 hown hK hP 0 rfl rfl 27 (Nat.le_of_ble_eq_true rfl) lk163 (fun _ h9 => h9) rfl dX7_wishes_71 ?_
            refine lv_iload_n hx hb dX7_wishes_74 rfl (lv_at hl 3 rfl) ?_
            obtain ⟨hi11, h⟩ := xb_some h
            refine va_iast hx hb hK hP hD hS 4 0 rfl rfl hi11 dX7_wishes_75 (fun H locs hP hD hS => ?_)
            have hP : va_P D vwCl [oX7 q v_size v_at v_begin v_token v_told v_undos v_changed v_felt v_wents v_wish v_trace, rA (q 8) cI 64 v_town, rA (q 29) cI 4 (upd v_wishFrom v_wish.toNatClampNeg x1), rA (q 30) cI 4 (upd v_wishTo v_wish.toNatClampNeg x2), rA (q 31) cI 4 (upd v_wishWorth v_wish.toNatClampNeg x3)] H := hP
            have hD : va_D A [oX7 q v_size v_at v_begin v_token v_told v_undos v_changed v_felt v_wents v_wish v_trace, rA (q 8) cI 64 v_town, rA (q 29) cI 4 (upd v_wishFrom v_wish.toNatClampNeg x1), rA (q 30) cI 4 (upd v_wishTo v_wish.toNatClampNeg x2), rA (q 31) cI 4 (upd v_wishWorth v_wish.toNatClampNeg x3)] := hD
            refine lv_aload_n hx hb dX7_wishes_76 rfl (lv_at hl 0 rfl) ?_
            refine lv_dup hx hb dX7_wishes_77 rfl ?_
            refine va_get (C := RX7) (T := TX7) (N := 34) (v := .int v_wish) hx hb hts iw7 hown hK hP 0 rfl rfl 27 (Nat.le_of_ble_eq_true rfl) lk163 (fun _ h9 => h9) rfl dX7_wishes_78 ?_
            refine lv_iconst (v := 1) hx hb dX7_wishes_81 (by decide) ?_
            refine lv_iadd hx hb dX7_wishes_82 ?_
            refine va_put (C := RX7) (T := TX7) (N := 34) (v := .int (v_wish + (1 : Int32))) (ty := .int) hx hb hts iw7 tyX7 tyX7_ok nmX7 hown hK hP hD hS 0 rfl rfl 27 (Nat.le_of_ble_eq_true rfl) lk163 (fun _ h9 => h9) rfl (by decide +kernel) rfl rfl (Nat.le_of_ble_eq_true rfl) dX7_wishes_83 (fun H locs hP hD hS => ?_)
            have hP : va_P D vwCl [oX7 q v_size v_at v_begin v_token v_told v_undos v_changed v_felt v_wents (v_wish + (1 : Int32)) v_trace, rA (q 8) cI 64 v_town, rA (q 29) cI 4 (upd v_wishFrom v_wish.toNatClampNeg x1), rA (q 30) cI 4 (upd v_wishTo v_wish.toNatClampNeg x2), rA (q 31) cI 4 (upd v_wishWorth v_wish.toNatClampNeg x3)] H := hP
            have hD : va_D A [oX7 q v_size v_at v_begin v_token v_told v_undos v_changed v_felt v_wents (v_wish + (1 : Int32)) v_trace, rA (q 8) cI 64 v_town, rA (q 29) cI 4 (upd v_wishFrom v_wish.toNatClampNeg x1), rA (q 30) cI 4 (upd v_wishTo v_wish.toNatClampNeg x2), rA (q 31) cI 4 (upd v_wishWorth v_wish.toNatClampNeg x3)] := hD
            refine lv_aload_n hx hb dX7_wishes_86 rfl (lv_at hl 0 rfl) ?_
            refine va_get (C := RX7) (T := TX7) (N := 34) (v := .int (v_wish + (1 : Int32))) hx hb hts iw7 hown hK hP 0 rfl rfl 27 (Nat.le_of_ble_eq_true rfl) lk163 (fun _ h9 => h9) rfl dX7_wishes_87 ?_
            exact hret (v_wish + (1 : Int32)) ((v_wish + (1 : Int32), upd v_wishFrom v_wish.toNatClampNeg x1, upd v_wishTo v_wish.toNatClampNeg x2, upd v_wishWorth v_wish.toNatClampNeg x3)) H locs _ ls (Option.some.inj h) hP hD hS dX7_wishes_90
          · have h := (if_pos c8).symm.trans h
            refine lv_bipush (v := (-3)) hx hb dX7_wishes_43 (by decide) ?_
            exact hret (-3 : Int32) (v_wish, v_wishFrom, v_wishTo, v_wishWorth) H locs _ ls (Option.some.inj h) hP hD hS dX7_wishes_45
        · have h := (if_pos c7).symm.trans h
          refine lv_iconst (v := (-1)) hx hb dX7_wishes_33 (by decide) ?_
          exact hret (-1 : Int32) (v_wish, v_wishFrom, v_wishTo, v_wishWorth) H locs _ ls (Option.some.inj h) hP hD hS dX7_wishes_34
abbrev rm_X7_grants : Room := { frames := 0, cells := 0, slots := 0, locals := 0 }
set_option maxHeartbeats 4000000 in
set_option maxRecDepth 100000 in
theorem k_X7_grants (l : Launch) (D : va_G) (cI cZ cT : ClassId) (q : Nat → Nat) (sz : Nat) (v_size : Int32) (v_at : Int32) (v_begin : Int32) (v_token : Int32) (v_told : Int32) (v_undos : Int32) (v_changed : Int32) (v_felt : Int32) (v_wents : Int32) (v_wish : Int32) (v_trace : Int64) (res : R_X7_grants) (hf : f_X7_grants v_wish = some res) : Met l yX7_grants wsX7_grants rm_X7_grants (cPre D (tyz cI cZ cT) [.ref (q 0)] sz [oX7 q v_size v_at v_begin v_token v_told v_undos v_changed v_felt v_wents v_wish v_trace]) (cPi D (tyz cI cZ cT) (fun (r : Int32) (u : Int32) => (r, u) = res) (fun u => [oX7 q v_size v_at v_begin v_token v_told v_undos v_changed v_felt v_wents u v_trace]) [oX7 q v_size v_at v_begin v_token v_told v_undos v_changed v_felt v_wents v_wish v_trace] sz) 0 0 (va_A [oX7 q v_size v_at v_begin v_token v_told v_undos v_changed v_felt v_wents v_wish v_trace] sz) := by
  refine vx_meth_i (by decide) rfl (Nat.le_of_ble_eq_true rfl) ?_
  intro p e s m args below meth c A Q hx hb hml hown hts hK hP hD hA hS hret ls hl
  have hown : s.vm.findClass RX7 = some m.cls := hown
  have hl : lv_has ls 2 [(0, .ref (q 0))] := hl
  have hFx : CallFix p m c cX7_grants 2 s args wsX7_grants RX7 := ⟨hx, hb, hml, hown, hts⟩
  have lk163 := hts (.fieldLink RX7 163 "FogGuidesModel" "wish" "I") (by decide +kernel)
  have iw7 : ∀ w ∈ u_ws RX7 TX7 34, w ∈ wsX7_grants := by decide +kernel
  have h := hf
  unfold f_X7_grants at h
  obtain ⟨H, eH⟩ : ∃ H, H = s.heap := ⟨_, rfl⟩
  rw [← eH] at hP ⊢
  obtain ⟨locs, el⟩ : ∃ locs : List Loc, locs = [] := ⟨_, rfl⟩
  rw [← el] at hS ⊢
  have hS : va_S A s.heap H locs := by rw [eH]; exact hS
  refine lv_aload_n hx hb dX7_grants_0 rfl (lv_at hl 0 rfl) ?_
  refine va_get (C := RX7) (T := TX7) (N := 34) (v := .int v_wish) hx hb hts iw7 hown hK hP 0 rfl rfl 27 (Nat.le_of_ble_eq_true rfl) lk163 (fun _ h9 => h9) rfl dX7_grants_1 ?_
  refine lv_istore_n (lv' := [(1, .int v_wish), (0, .ref (q 0))]) hx hb dX7_grants_4 rfl hl (by decide) rfl (fun ls hl => ?_)
  refine lv_aload_n hx hb dX7_grants_5 rfl (lv_at hl 1 rfl) ?_
  refine lv_iconst (v := 0) hx hb dX7_grants_6 (by decide) ?_
  refine va_put (C := RX7) (T := TX7) (N := 34) (v := .int (0 : Int32)) (ty := .int) hx hb hts iw7 tyX7 tyX7_ok nmX7 hown hK hP hD hS 0 rfl rfl 27 (Nat.le_of_ble_eq_true rfl) lk163 (fun _ h9 => h9) rfl (by decide +kernel) rfl rfl (Nat.le_of_ble_eq_true rfl) dX7_grants_7 (fun H locs hP hD hS => ?_)
  have hP : va_P D vwCl [oX7 q v_size v_at v_begin v_token v_told v_undos v_changed v_felt v_wents (0 : Int32) v_trace] H := hP
  have hD : va_D A [oX7 q v_size v_at v_begin v_token v_told v_undos v_changed v_felt v_wents (0 : Int32) v_trace] := hD
  refine lv_iload_n hx hb dX7_grants_10 rfl (lv_at hl 0 rfl) ?_
  exact hret v_wish (0 : Int32) H locs _ ls (Option.some.inj h) hP hD hS dX7_grants_11
abbrev rm_X7_walks : Room := { frames := 0, cells := 0, slots := 0, locals := 0 }
set_option maxHeartbeats 4000000 in
set_option maxRecDepth 100000 in
theorem k_X7_walks (l : Launch) (D : va_G) (cI cZ cT : ClassId) (q : Nat → Nat) (sz : Nat) (v_size : Int32) (v_at : Int32) (v_begin : Int32) (v_token : Int32) (v_told : Int32) (v_undos : Int32) (v_changed : Int32) (v_felt : Int32) (v_wents : Int32) (v_wish : Int32) (v_trace : Int64) (v_minutes : Nat → Int32) (x1 : Int32) (x2 : Int32) (x3 : Int32) (x4 : Int32) (res : R_X7_walks) (hf : f_X7_walks v_minutes x1 x2 x3 x4 = some res) : Met l yX7_walks wsX7_walks rm_X7_walks (cPre D (tyz cI cZ cT) [.ref (q 0), .int x1, .int x2, .int x3, .int x4] sz [oX7 q v_size v_at v_begin v_token v_told v_undos v_changed v_felt v_wents v_wish v_trace, rA (q 32) cI 49 v_minutes]) (cPv D (tyz cI cZ cT) (fun (u : (Nat → Int32)) => u = res) (fun u => [oX7 q v_size v_at v_begin v_token v_told v_undos v_changed v_felt v_wents v_wish v_trace, rA (q 32) cI 49 u]) [oX7 q v_size v_at v_begin v_token v_told v_undos v_changed v_felt v_wents v_wish v_trace, rA (q 32) cI 49 v_minutes] sz) 0 0 (va_A [oX7 q v_size v_at v_begin v_token v_told v_undos v_changed v_felt v_wents v_wish v_trace, rA (q 32) cI 49 v_minutes] sz) := by
  refine vx_meth_v (by decide) rfl (Nat.le_of_ble_eq_true rfl) ?_
  intro p e s m args below meth c A Q hx hb hml hown hts hK hP hD hA hS hret ls hl
  have hown : s.vm.findClass RX7 = some m.cls := hown
  have hl : lv_has ls 7 [(0, .ref (q 0)), (1, .int x1), (2, .int x2), (3, .int x3), (4, .int x4)] := hl
  have hFx : CallFix p m c cX7_walks 7 s args wsX7_walks RX7 := ⟨hx, hb, hml, hown, hts⟩
  have lk73 := hts (.fieldLink RX7 73 "FogGuidesModel" "minutes" "[I") (by decide +kernel)
  have iw7 : ∀ w ∈ u_ws RX7 TX7 34, w ∈ wsX7_walks := by decide +kernel
  have hJ58 : ∀ (v_minutes : (Nat → Int32)) (x1 : Int32) (x2 : Int32) (x3 : Int32) (x4 : Int32) (z1 : Int32) (z2 : Int32) (H : Heap) (locs : List Loc) (ls : Array Slot), f_X7_walks_J58 v_minutes x1 x2 x3 x4 z1 z2 = some res → va_P D vwCl [oX7 q v_size v_at v_begin v_token v_told v_undos v_changed v_felt v_wents v_wish v_trace, rA (q 32) cI 49 v_minutes] H → va_D A [oX7 q v_size v_at v_begin v_token v_told v_undos v_changed v_felt v_wents v_wish v_trace, rA (q 32) cI 49 v_minutes] → va_S A s.heap H locs → lv_has ls 7 [(0, .ref (q 0)), (1, .int x1), (2, .int x2), (3, .int x3), (4, .int x4)] → W p l e rm_X7_walks s m args below meth c H locs 0 0 Q (F0 m 58 ls [.int z2, .int z1, .ref (q 32)]) := by
    intro v_minutes x1 x2 x3 x4 z1 z2 H locs ls h hP hD hS hl
    unfold f_X7_walks_J58 at h
    obtain ⟨hi1, h⟩ := xb_some h
    refine va_iast hx hb hK hP hD hS 1 0 rfl rfl hi1 dX7_walks_58 (fun H locs hP hD hS => ?_)
    have hP : va_P D vwCl [oX7 q v_size v_at v_begin v_token v_told v_undos v_changed v_felt v_wents v_wish v_trace, rA (q 32) cI 49 (upd v_minutes z1.toNatClampNeg z2)] H := hP
    have hD : va_D A [oX7 q v_size v_at v_begin v_token v_told v_undos v_changed v_felt v_wents v_wish v_trace, rA (q 32) cI 49 (upd v_minutes z1.toNatClampNeg z2)] := hD
    refine lv_aload_n hx hb dX7_walks_59 rfl (lv_at hl 0 rfl) ?_
    refine va_get (C := RX7) (T := TX7) (N := 34) (v := .ref (q 32)) hx hb hts iw7 hown hK hP 0 rfl rfl 31 (Nat.le_of_ble_eq_true rfl) lk73 (fun _ h9 => h9) rfl dX7_walks_60 ?_
    refine lv_bipush (v := 7) hx hb dX7_walks_63 (by decide) ?_
    refine lv_iload_n hx hb dX7_walks_65 rfl (lv_at hl 1 rfl) ?_
    refine lv_imul hx hb dX7_walks_66 ?_
    refine lv_iload_n hx hb dX7_walks_67 rfl (lv_at hl 3 rfl) ?_
    refine lv_iadd hx hb dX7_walks_68 ?_
    obtain ⟨hi2, h⟩ := xb_some h
    refine va_iald hx hb hK hP 1 0 rfl rfl hi2 dX7_walks_69 ?_
    refine lv_iload hx hb dX7_walks_70 (lv_at hl 4 rfl) ?_
    refine lv_iadd hx hb dX7_walks_72 ?_
    refine lv_istore (lv' := [(6, .int (((upd v_minutes z1.toNatClampNeg z2) (((7 : Int32) * x1) + x3).toNatClampNeg) + x4)), (0, .ref (q 0)), (1, .int x1), (2, .int x2), (3, .int x3), (4, .int x4)]) hx hb dX7_walks_73 hl (by decide) rfl (fun ls hl => ?_)
    refine lv_aload_n hx hb dX7_walks_75 rfl (lv_at hl 1 rfl) ?_
    refine va_get (C := RX7) (T := TX7) (N := 34) (v := .ref (q 32)) hx hb hts iw7 hown hK hP 0 rfl rfl 31 (Nat.le_of_ble_eq_true rfl) lk73 (fun _ h9 => h9) rfl dX7_walks_76 ?_
    refine lv_bipush (v := 7) hx hb dX7_walks_79 (by decide) ?_
    refine lv_iload_n hx hb dX7_walks_81 rfl (lv_at hl 2 rfl) ?_
    refine lv_imul hx hb dX7_walks_82 ?_
    refine lv_iload_n hx hb dX7_walks_83 rfl (lv_at hl 3 rfl) ?_
    refine lv_iadd hx hb dX7_walks_84 ?_
    refine lv_iload hx hb dX7_walks_85 (lv_at hl 0 rfl) ?_
    refine lv_aload_n hx hb dX7_walks_87 rfl (lv_at hl 1 rfl) ?_
    refine va_get (C := RX7) (T := TX7) (N := 34) (v := .ref (q 32)) hx hb hts iw7 hown hK hP 0 rfl rfl 31 (Nat.le_of_ble_eq_true rfl) lk73 (fun _ h9 => h9) rfl dX7_walks_88 ?_
    refine lv_bipush (v := 7) hx hb dX7_walks_91 (by decide) ?_
    refine lv_iload_n hx hb dX7_walks_93 rfl (lv_at hl 2 rfl) ?_
    refine lv_imul hx hb dX7_walks_94 ?_
    refine lv_iload_n hx hb dX7_walks_95 rfl (lv_at hl 3 rfl) ?_
    refine lv_iadd hx hb dX7_walks_96 ?_
    obtain ⟨hi3, h⟩ := xb_some h
    refine va_iald hx hb hK hP 1 0 rfl rfl hi3 dX7_walks_97 ?_
    refine lv_icmp_ge (tgt := 106) hx hb dX7_walks_98 (by decide) (fun c4 => ?_) (fun c4 => ?_)
    · have h := (if_pos c4).symm.trans h
      refine lv_aload_n hx hb dX7_walks_106 rfl (lv_at hl 1 rfl) ?_
      refine va_get (C := RX7) (T := TX7) (N := 34) (v := .ref (q 32)) hx hb hts iw7 hown hK hP 0 rfl rfl 31 (Nat.le_of_ble_eq_true rfl) lk73 (fun _ h9 => h9) rfl dX7_walks_107 ?_
      refine lv_bipush (v := 7) hx hb dX7_walks_110 (by decide) ?_
      refine lv_iload_n hx hb dX7_walks_112 rfl (lv_at hl 2 rfl) ?_
      refine lv_imul hx hb dX7_walks_113 ?_
      refine lv_iload_n hx hb dX7_walks_114 rfl (lv_at hl 3 rfl) ?_
      refine lv_iadd hx hb dX7_walks_115 ?_
      obtain ⟨hi5, h⟩ := xb_some h
      refine va_iald hx hb hK hP 1 0 rfl rfl hi5 dX7_walks_116 ?_
      obtain ⟨hi6, h⟩ := xb_some h
      refine va_iast hx hb hK hP hD hS 1 0 rfl rfl hi6 dX7_walks_117 (fun H locs hP hD hS => ?_)
      have hP : va_P D vwCl [oX7 q v_size v_at v_begin v_token v_told v_undos v_changed v_felt v_wents v_wish v_trace, rA (q 32) cI 49 (upd (upd v_minutes z1.toNatClampNeg z2) (((7 : Int32) * x1) + x2).toNatClampNeg ((upd v_minutes z1.toNatClampNeg z2) (((7 : Int32) * x1) + x2).toNatClampNeg))] H := hP
      have hD : va_D A [oX7 q v_size v_at v_begin v_token v_told v_undos v_changed v_felt v_wents v_wish v_trace, rA (q 32) cI 49 (upd (upd v_minutes z1.toNatClampNeg z2) (((7 : Int32) * x1) + x2).toNatClampNeg ((upd v_minutes z1.toNatClampNeg z2) (((7 : Int32) * x1) + x2).toNatClampNeg))] := hD
      exact hret (upd (upd v_minutes z1.toNatClampNeg z2) (((7 : Int32) * x1) + x2).toNatClampNeg ((upd v_minutes z1.toNatClampNeg z2) (((7 : Int32) * x1) + x2).toNatClampNeg)) H locs _ ls (Option.some.inj h) hP hD hS dX7_walks_118
    · have h := (if_neg c4).symm.trans h
      refine lv_iload hx hb dX7_walks_101 (lv_at hl 0 rfl) ?_
      refine lv_goto (tgt := 117) hx hb dX7_walks_103 (by decide) ?_
      obtain ⟨hi7, h⟩ := xb_some h
      refine va_iast hx hb hK hP hD hS 1 0 rfl rfl hi7 dX7_walks_117 (fun H locs hP hD hS => ?_)
      have hP : va_P D vwCl [oX7 q v_size v_at v_begin v_token v_told v_undos v_changed v_felt v_wents v_wish v_trace, rA (q 32) cI 49 (upd (upd v_minutes z1.toNatClampNeg z2) (((7 : Int32) * x1) + x2).toNatClampNeg (((upd v_minutes z1.toNatClampNeg z2) (((7 : Int32) * x1) + x3).toNatClampNeg) + x4))] H := hP
      have hD : va_D A [oX7 q v_size v_at v_begin v_token v_told v_undos v_changed v_felt v_wents v_wish v_trace, rA (q 32) cI 49 (upd (upd v_minutes z1.toNatClampNeg z2) (((7 : Int32) * x1) + x2).toNatClampNeg (((upd v_minutes z1.toNatClampNeg z2) (((7 : Int32) * x1) + x3).toNatClampNeg) + x4))] := hD
      exact hret (upd (upd v_minutes z1.toNatClampNeg z2) (((7 : Int32) * x1) + x2).toNatClampNeg (((upd v_minutes z1.toNatClampNeg z2) (((7 : Int32) * x1) + x3).toNatClampNeg) + x4)) H locs _ ls (Option.some.inj h) hP hD hS dX7_walks_118
  have h := hf
  unfold f_X7_walks at h
  obtain ⟨H, eH⟩ : ∃ H, H = s.heap := ⟨_, rfl⟩
  rw [← eH] at hP ⊢
  obtain ⟨locs, el⟩ : ∃ locs : List Loc, locs = [] := ⟨_, rfl⟩
  rw [← el] at hS ⊢
  have hS : va_S A s.heap H locs := by rw [eH]; exact hS
  refine lv_aload_n hx hb dX7_walks_0 rfl (lv_at hl 0 rfl) ?_
  refine va_get (C := RX7) (T := TX7) (N := 34) (v := .ref (q 32)) hx hb hts iw7 hown hK hP 0 rfl rfl 31 (Nat.le_of_ble_eq_true rfl) lk73 (fun _ h9 => h9) rfl dX7_walks_1 ?_
  refine lv_bipush (v := 7) hx hb dX7_walks_4 (by decide) ?_
  refine lv_iload_n hx hb dX7_walks_6 rfl (lv_at hl 1 rfl) ?_
  refine lv_imul hx hb dX7_walks_7 ?_
  refine lv_iload_n hx hb dX7_walks_8 rfl (lv_at hl 2 rfl) ?_
  refine lv_iadd hx hb dX7_walks_9 ?_
  obtain ⟨hi8, h⟩ := xb_some h
  refine va_iald hx hb hK hP 1 0 rfl rfl hi8 dX7_walks_10 ?_
  refine lv_iload hx hb dX7_walks_11 (lv_at hl 4 rfl) ?_
  refine lv_iadd hx hb dX7_walks_13 ?_
  refine lv_istore (lv' := [(5, .int ((v_minutes (((7 : Int32) * x1) + x2).toNatClampNeg) + x4)), (0, .ref (q 0)), (1, .int x1), (2, .int x2), (3, .int x3), (4, .int x4)]) hx hb dX7_walks_14 hl (by decide) rfl (fun ls hl => ?_)
  refine lv_aload_n hx hb dX7_walks_16 rfl (lv_at hl 1 rfl) ?_
  refine va_get (C := RX7) (T := TX7) (N := 34) (v := .ref (q 32)) hx hb hts iw7 hown hK hP 0 rfl rfl 31 (Nat.le_of_ble_eq_true rfl) lk73 (fun _ h9 => h9) rfl dX7_walks_17 ?_
  refine lv_bipush (v := 7) hx hb dX7_walks_20 (by decide) ?_
  refine lv_iload_n hx hb dX7_walks_22 rfl (lv_at hl 2 rfl) ?_
  refine lv_imul hx hb dX7_walks_23 ?_
  refine lv_iload_n hx hb dX7_walks_24 rfl (lv_at hl 4 rfl) ?_
  refine lv_iadd hx hb dX7_walks_25 ?_
  refine lv_iload hx hb dX7_walks_26 (lv_at hl 0 rfl) ?_
  refine lv_aload_n hx hb dX7_walks_28 rfl (lv_at hl 1 rfl) ?_
  refine va_get (C := RX7) (T := TX7) (N := 34) (v := .ref (q 32)) hx hb hts iw7 hown hK hP 0 rfl rfl 31 (Nat.le_of_ble_eq_true rfl) lk73 (fun _ h9 => h9) rfl dX7_walks_29 ?_
  refine lv_bipush (v := 7) hx hb dX7_walks_32 (by decide) ?_
  refine lv_iload_n hx hb dX7_walks_34 rfl (lv_at hl 2 rfl) ?_
  refine lv_imul hx hb dX7_walks_35 ?_
  refine lv_iload_n hx hb dX7_walks_36 rfl (lv_at hl 4 rfl) ?_
  refine lv_iadd hx hb dX7_walks_37 ?_
  obtain ⟨hi9, h⟩ := xb_some h
  refine va_iald hx hb hK hP 1 0 rfl rfl hi9 dX7_walks_38 ?_
  refine lv_icmp_ge (tgt := 47) hx hb dX7_walks_39 (by decide) (fun c10 => ?_) (fun c10 => ?_)
  · have h := (if_pos c10).symm.trans h
    refine lv_aload_n hx hb dX7_walks_47 rfl (lv_at hl 1 rfl) ?_
    refine va_get (C := RX7) (T := TX7) (N := 34) (v := .ref (q 32)) hx hb hts iw7 hown hK hP 0 rfl rfl 31 (Nat.le_of_ble_eq_true rfl) lk73 (fun _ h9 => h9) rfl dX7_walks_48 ?_
    refine lv_bipush (v := 7) hx hb dX7_walks_51 (by decide) ?_
    refine lv_iload_n hx hb dX7_walks_53 rfl (lv_at hl 2 rfl) ?_
    refine lv_imul hx hb dX7_walks_54 ?_
    refine lv_iload_n hx hb dX7_walks_55 rfl (lv_at hl 4 rfl) ?_
    refine lv_iadd hx hb dX7_walks_56 ?_
    obtain ⟨hi11, h⟩ := xb_some h
    refine va_iald hx hb hK hP 1 0 rfl rfl hi11 dX7_walks_57 ?_
    exact hJ58 v_minutes x1 x2 x3 x4 (((7 : Int32) * x1) + x3) (v_minutes (((7 : Int32) * x1) + x3).toNatClampNeg) H locs ls h hP hD hS (lv_sub hl [1, 2, 3, 4, 5] rfl)
  · have h := (if_neg c10).symm.trans h
    refine lv_iload hx hb dX7_walks_42 (lv_at hl 0 rfl) ?_
    refine lv_goto (tgt := 58) hx hb dX7_walks_44 (by decide) ?_
    exact hJ58 v_minutes x1 x2 x3 x4 (((7 : Int32) * x1) + x3) ((v_minutes (((7 : Int32) * x1) + x2).toNatClampNeg) + x4) H locs ls h hP hD hS (lv_sub hl [1, 2, 3, 4, 5] rfl)
abbrev rm_X7_shortest : Room := { frames := 1, cells := 0, slots := 0, locals := 26 }
set_option maxHeartbeats 4000000 in
set_option maxRecDepth 100000 in
theorem k_X7_shortest (l : Launch) (D : va_G) (cI cZ cT : ClassId) (q : Nat → Nat) (sz : Nat) (v_size : Int32) (v_at : Int32) (v_begin : Int32) (v_token : Int32) (v_told : Int32) (v_undos : Int32) (v_changed : Int32) (v_felt : Int32) (v_wents : Int32) (v_wish : Int32) (v_trace : Int64) (v_town : Nat → Int32) (v_minutes : Nat → Int32) (x1 : Int32) (res : R_X7_shortest) (fu : Nat) (hf : f_X7_shortest fu v_town v_minutes x1 = some res) : Met l yX7_shortest wsX7_shortest rm_X7_shortest (cPre D (tyz cI cZ cT) [.ref (q 0), .int x1] sz [oX7 q v_size v_at v_begin v_token v_told v_undos v_changed v_felt v_wents v_wish v_trace, rA (q 8) cI 64 v_town, rA (q 32) cI 49 v_minutes]) (cPv D (tyz cI cZ cT) (fun (u : (Nat → Int32)) => u = res) (fun u => [oX7 q v_size v_at v_begin v_token v_told v_undos v_changed v_felt v_wents v_wish v_trace, rA (q 8) cI 64 v_town, rA (q 32) cI 49 u]) [oX7 q v_size v_at v_begin v_token v_told v_undos v_changed v_felt v_wents v_wish v_trace, rA (q 8) cI 64 v_town, rA (q 32) cI 49 v_minutes] sz) 0 0 (va_A [oX7 q v_size v_at v_begin v_token v_told v_undos v_changed v_felt v_wents v_wish v_trace, rA (q 8) cI 64 v_town, rA (q 32) cI 49 v_minutes] sz) := by
  refine vx_meth_v (by decide) rfl (Nat.le_of_ble_eq_true rfl) ?_
  intro p e s m args below meth c A Q hx hb hml hown hts hK hP hD hA hS hret ls hl
  have hown : s.vm.findClass RX7 = some m.cls := hown
  have hl : lv_has ls 5 [(0, .ref (q 0)), (1, .int x1)] := hl
  have hFx : CallFix p m c cX7_shortest 5 s args wsX7_shortest RX7 := ⟨hx, hb, hml, hown, hts⟩
  have lk16 := hts (.fieldLink RX7 16 "FogGuidesModel" "town" "[I") (by decide +kernel)
  have iw7 : ∀ w ∈ u_ws RX7 TX7 34, w ∈ wsX7_shortest := by decide +kernel
  have lk73 := hts (.fieldLink RX7 73 "FogGuidesModel" "minutes" "[I") (by decide +kernel)
  have hL39 : ∀ (n39 : Nat), ∀ (v_minutes : (Nat → Int32)) (x1 : Int32) (x2 : Int32) (H : Heap) (locs : List Loc) (ls : Array Slot), f_X7_shortest_L39 fu n39 v_town v_minutes x1 x2 = some res → va_P D vwCl [oX7 q v_size v_at v_begin v_token v_told v_undos v_changed v_felt v_wents v_wish v_trace, rA (q 8) cI 64 v_town, rA (q 32) cI 49 v_minutes] H → va_D A [oX7 q v_size v_at v_begin v_token v_told v_undos v_changed v_felt v_wents v_wish v_trace, rA (q 8) cI 64 v_town, rA (q 32) cI 49 v_minutes] → va_S A s.heap H locs → lv_has ls 5 [(0, .ref (q 0)), (1, .int x1), (2, .int x2)] → W p l e rm_X7_shortest s m args below meth c H locs 0 0 Q (F0 m 39 ls []) := by
    intro n39
    induction n39 with
    | zero =>
      intro v_minutes x1 x2 H locs ls h hP hD hS hl
      cases (show (none : Option R_X7_shortest) = some res from h)
    | succ n39 ih39 =>
      have hL47 : ∀ (n47 : Nat), ∀ (v_minutes : (Nat → Int32)) (x1 : Int32) (x2 : Int32) (x3 : Int32) (H : Heap) (locs : List Loc) (ls : Array Slot), f_X7_shortest_L47 fu (f_X7_shortest_L39 fu n39) n47 v_town v_minutes x1 x2 x3 = some res → va_P D vwCl [oX7 q v_size v_at v_begin v_token v_told v_undos v_changed v_felt v_wents v_wish v_trace, rA (q 8) cI 64 v_town, rA (q 32) cI 49 v_minutes] H → va_D A [oX7 q v_size v_at v_begin v_token v_told v_undos v_changed v_felt v_wents v_wish v_trace, rA (q 8) cI 64 v_town, rA (q 32) cI 49 v_minutes] → va_S A s.heap H locs → lv_has ls 5 [(0, .ref (q 0)), (1, .int x1), (2, .int x2), (3, .int x3)] → W p l e rm_X7_shortest s m args below meth c H locs 0 0 Q (F0 m 47 ls []) := by
        intro n47
        induction n47 with
        | zero =>
          intro v_minutes x1 x2 x3 H locs ls h hP hD hS hl
          cases (show (none : Option R_X7_shortest) = some res from h)
        | succ n47 ih47 =>
          have hL60 : ∀ (n60 : Nat), ∀ (v_minutes : (Nat → Int32)) (x1 : Int32) (x2 : Int32) (x3 : Int32) (x4 : Int32) (H : Heap) (locs : List Loc) (ls : Array Slot), f_X7_shortest_L60 fu (f_X7_shortest_L39 fu n39) (f_X7_shortest_L47 fu (f_X7_shortest_L39 fu n39) n47) n60 v_town v_minutes x1 x2 x3 x4 = some res → va_P D vwCl [oX7 q v_size v_at v_begin v_token v_told v_undos v_changed v_felt v_wents v_wish v_trace, rA (q 8) cI 64 v_town, rA (q 32) cI 49 v_minutes] H → va_D A [oX7 q v_size v_at v_begin v_token v_told v_undos v_changed v_felt v_wents v_wish v_trace, rA (q 8) cI 64 v_town, rA (q 32) cI 49 v_minutes] → va_S A s.heap H locs → lv_has ls 5 [(0, .ref (q 0)), (1, .int x1), (2, .int x2), (3, .int x3), (4, .int x4)] → W p l e rm_X7_shortest s m args below meth c H locs 0 0 Q (F0 m 60 ls []) := by
            intro n60
            induction n60 with
            | zero =>
              intro v_minutes x1 x2 x3 x4 H locs ls h hP hD hS hl
              cases (show (none : Option R_X7_shortest) = some res from h)
            | succ n60 ih60 =>
              intro v_minutes x1 x2 x3 x4 H locs ls h hP hD hS hl
              have h : f_X7_shortest_L60b fu (f_X7_shortest_L39 fu n39) (f_X7_shortest_L47 fu (f_X7_shortest_L39 fu n39) n47) (f_X7_shortest_L60 fu (f_X7_shortest_L39 fu n39) (f_X7_shortest_L47 fu (f_X7_shortest_L39 fu n39) n47) n60) v_town v_minutes x1 x2 x3 x4 = some res := h
              unfold f_X7_shortest_L60b at h
              refine lv_iload hx hb dX7_shortest_60 (lv_at hl 4 rfl) ?_
              refine lv_aload_n hx hb dX7_shortest_62 rfl (lv_at hl 0 rfl) ?_
              refine va_get (C := RX7) (T := TX7) (N := 34) (v := .ref (q 8)) hx hb hts iw7 hown hK hP 0 rfl rfl 7 (Nat.le_of_ble_eq_true rfl) lk16 (fun _ h9 => h9) rfl dX7_shortest_63 ?_
              refine lv_iconst (v := 1) hx hb dX7_shortest_66 (by decide) ?_
              obtain ⟨hi1, h⟩ := xb_some h
              refine va_iald hx hb hK hP 1 0 rfl rfl hi1 dX7_shortest_67 ?_
              refine lv_icmp_ge (tgt := 134) hx hb dX7_shortest_68 (by decide) (fun c2 => ?_) (fun c2 => ?_)
              · have h := (if_pos c2).symm.trans h
                refine lv_iinc (v := x3 + 1) (lv' := [(3, .int (x3 + 1)), (0, .ref (q 0)), (1, .int x1), (2, .int x2), (4, .int x4)]) hx hb dX7_shortest_134 hl (k := 3) rfl rfl (by decide) rfl (fun ls hl => ?_)
                refine lv_goto (tgt := 47) hx hb dX7_shortest_137 (by decide) ?_
                exact ih47 v_minutes x1 x2 (x3 + 1) H locs ls h hP hD hS (lv_sub hl [1, 2, 3, 0] rfl)
              · have h := (if_neg c2).symm.trans h
                refine lv_aload_n hx hb dX7_shortest_71 rfl (lv_at hl 0 rfl) ?_
                refine lv_iload_n hx hb dX7_shortest_72 rfl (lv_at hl 1 rfl) ?_
                obtain ⟨r3, hr3, h⟩ := xk_some h
                refine vx_VJ (As := [.int x1]) (rest := []) hFx (k_X7_known l D cI cZ cT q H.size v_size v_at v_begin v_token v_told v_undos v_changed v_felt v_wents v_wish v_trace v_town x1 r3 hr3) (cwV 1 hts gX7_shortest_X7_known rfl rfl rfl (by decide +kernel) ⟨Nat.le_of_ble_eq_true rfl, Nat.le_of_ble_eq_true rfl⟩) hK hP hD hS hA [0, 1] rfl rfl 7 0 rfl rfl rfl hl.1 rfl (Nat.le_of_ble_eq_true rfl) dX7_shortest_73 ⟨Nat.zero_le _, Nat.zero_le _⟩ (fun H locs hP hS => ?_)
                refine lv_iload hx hb dX7_shortest_76 (lv_at hl 4 rfl) ?_
                refine lv_ishr hx hb dX7_shortest_78 ?_
                refine lv_iconst (v := 1) hx hb dX7_shortest_79 (by decide) ?_
                refine lv_iand hx hb dX7_shortest_80 ?_
                refine lv_iconst (v := 1) hx hb dX7_shortest_81 (by decide) ?_
                refine lv_icmp_ne (tgt := 128) hx hb dX7_shortest_82 (by decide) (fun c4 => ?_) (fun c4 => ?_)
                · have h := (if_neg c4).symm.trans h
                  refine lv_iinc (v := x4 + 1) (lv' := [(4, .int (x4 + 1)), (0, .ref (q 0)), (1, .int x1), (2, .int x2), (3, .int x3)]) hx hb dX7_shortest_128 hl (k := 4) rfl rfl (by decide) rfl (fun ls hl => ?_)
                  refine lv_goto (tgt := 60) hx hb dX7_shortest_131 (by decide) ?_
                  exact ih60 v_minutes x1 x2 x3 (x4 + 1) H locs ls h hP hD hS (lv_sub hl [1, 2, 3, 4, 0] rfl)
                · have h := (if_pos c4).symm.trans h
                  refine lv_aload_n hx hb dX7_shortest_85 rfl (lv_at hl 0 rfl) ?_
                  refine lv_iload_n hx hb dX7_shortest_86 rfl (lv_at hl 3 rfl) ?_
                  refine lv_aload_n hx hb dX7_shortest_87 rfl (lv_at hl 0 rfl) ?_
                  refine va_get (C := RX7) (T := TX7) (N := 34) (v := .ref (q 8)) hx hb hts iw7 hown hK hP 0 rfl rfl 7 (Nat.le_of_ble_eq_true rfl) lk16 (fun _ h9 => h9) rfl dX7_shortest_88 ?_
                  refine lv_bipush (v := 13) hx hb dX7_shortest_91 (by decide) ?_
                  refine lv_iconst (v := 3) hx hb dX7_shortest_93 (by decide) ?_
                  refine lv_iload hx hb dX7_shortest_94 (lv_at hl 4 rfl) ?_
                  refine lv_imul hx hb dX7_shortest_96 ?_
                  refine lv_iadd hx hb dX7_shortest_97 ?_
                  obtain ⟨hi5, h⟩ := xb_some h
                  refine va_iald hx hb hK hP 1 0 rfl rfl hi5 dX7_shortest_98 ?_
                  refine lv_aload_n hx hb dX7_shortest_99 rfl (lv_at hl 0 rfl) ?_
                  refine va_get (C := RX7) (T := TX7) (N := 34) (v := .ref (q 8)) hx hb hts iw7 hown hK hP 0 rfl rfl 7 (Nat.le_of_ble_eq_true rfl) lk16 (fun _ h9 => h9) rfl dX7_shortest_100 ?_
                  refine lv_bipush (v := 13) hx hb dX7_shortest_103 (by decide) ?_
                  refine lv_iconst (v := 3) hx hb dX7_shortest_105 (by decide) ?_
                  refine lv_iload hx hb dX7_shortest_106 (lv_at hl 4 rfl) ?_
                  refine lv_imul hx hb dX7_shortest_108 ?_
                  refine lv_iadd hx hb dX7_shortest_109 ?_
                  refine lv_iconst (v := 1) hx hb dX7_shortest_110 (by decide) ?_
                  refine lv_iadd hx hb dX7_shortest_111 ?_
                  obtain ⟨hi6, h⟩ := xb_some h
                  refine va_iald hx hb hK hP 1 0 rfl rfl hi6 dX7_shortest_112 ?_
                  refine lv_aload_n hx hb dX7_shortest_113 rfl (lv_at hl 0 rfl) ?_
                  refine lv_iload hx hb dX7_shortest_114 (lv_at hl 4 rfl) ?_
                  obtain ⟨r7, hr7, h⟩ := xk_some h
                  refine vx_VJ (As := [.int x4]) (rest := [.int (v_town (((13 : Int32) + ((3 : Int32) * x4)) + (1 : Int32)).toNatClampNeg), .int (v_town ((13 : Int32) + ((3 : Int32) * x4)).toNatClampNeg), .int x3, .ref (q 0)]) hFx (k_X7_length l D cI cZ cT q H.size v_size v_at v_begin v_token v_told v_undos v_changed v_felt v_wents v_wish v_trace v_town x4 r7 hr7) (cwV 1 hts gX7_shortest_X7_length rfl rfl rfl (by decide +kernel) ⟨Nat.le_of_ble_eq_true rfl, Nat.le_of_ble_eq_true rfl⟩) hK hP hD hS hA [0, 1] rfl rfl 7 0 rfl rfl rfl hl.1 rfl (Nat.le_of_ble_eq_true rfl) dX7_shortest_116 ⟨Nat.zero_le _, Nat.zero_le _⟩ (fun H locs hP hS => ?_)
                  refine lv_aload_n hx hb dX7_shortest_119 rfl (lv_at hl 0 rfl) ?_
                  refine lv_iload_n hx hb dX7_shortest_120 rfl (lv_at hl 1 rfl) ?_
                  obtain ⟨r8, hr8, h⟩ := xk_some h
                  refine vx_VJ (As := [.int x1]) (rest := [.int r7, .int (v_town (((13 : Int32) + ((3 : Int32) * x4)) + (1 : Int32)).toNatClampNeg), .int (v_town ((13 : Int32) + ((3 : Int32) * x4)).toNatClampNeg), .int x3, .ref (q 0)]) hFx (k_X7_pace l D cI cZ cT q H.size v_size v_at v_begin v_token v_told v_undos v_changed v_felt v_wents v_wish v_trace v_town x1 r8 hr8) (cwV 1 hts gX7_shortest_X7_pace rfl rfl rfl (by decide +kernel) ⟨Nat.le_of_ble_eq_true rfl, Nat.le_of_ble_eq_true rfl⟩) hK hP hD hS hA [0, 1] rfl rfl 7 0 rfl rfl rfl hl.1 rfl (Nat.le_of_ble_eq_true rfl) dX7_shortest_121 ⟨Nat.zero_le _, Nat.zero_le _⟩ (fun H locs hP hS => ?_)
                  refine lv_iadd hx hb dX7_shortest_124 ?_
                  obtain ⟨r9, hr9, h⟩ := xk_some h
                  refine vx_VV (As := [.int x3, .int (v_town ((13 : Int32) + ((3 : Int32) * x4)).toNatClampNeg), .int (v_town (((13 : Int32) + ((3 : Int32) * x4)) + (1 : Int32)).toNatClampNeg), .int (r7 + r8)]) (rest := []) (wr := [rA (q 8) cI 64 v_town]) (wn := [oX7 q v_size v_at v_begin v_token v_told v_undos v_changed v_felt v_wents v_wish v_trace, rA (q 8) cI 64 v_town, rA (q 32) cI 49 r9]) hFx (k_X7_walks l D cI cZ cT q H.size v_size v_at v_begin v_token v_told v_undos v_changed v_felt v_wents v_wish v_trace v_minutes x3 (v_town ((13 : Int32) + ((3 : Int32) * x4)).toNatClampNeg) (v_town (((13 : Int32) + ((3 : Int32) * x4)) + (1 : Int32)).toNatClampNeg) (r7 + r8) r9 hr9) (cwV 4 hts gX7_shortest_X7_walks rfl rfl rfl (by decide +kernel) ⟨Nat.le_of_ble_eq_true rfl, Nat.le_of_ble_eq_true rfl⟩) hK hP hD hS hA [0, 2] [1] [1, 0, 2] rfl rfl rfl rfl (by decide) rfl rfl 7 0 rfl rfl rfl hl.1 rfl (Nat.le_of_ble_eq_true rfl) dX7_shortest_125 ⟨Nat.zero_le _, Nat.zero_le _⟩ (fun H locs hP hD hS => ?_)
                  refine lv_iinc (v := x4 + 1) (lv' := [(4, .int (x4 + 1)), (0, .ref (q 0)), (1, .int x1), (2, .int x2), (3, .int x3)]) hx hb dX7_shortest_128 hl (k := 4) rfl rfl (by decide) rfl (fun ls hl => ?_)
                  refine lv_goto (tgt := 60) hx hb dX7_shortest_131 (by decide) ?_
                  exact ih60 r9 x1 x2 x3 (x4 + 1) H locs ls h hP hD hS (lv_sub hl [1, 2, 3, 4, 0] rfl)
          intro v_minutes x1 x2 x3 H locs ls h hP hD hS hl
          have h : f_X7_shortest_L47b fu (f_X7_shortest_L39 fu n39) (f_X7_shortest_L47 fu (f_X7_shortest_L39 fu n39) n47) v_town v_minutes x1 x2 x3 = some res := h
          unfold f_X7_shortest_L47b at h
          refine lv_iload_n hx hb dX7_shortest_47 rfl (lv_at hl 3 rfl) ?_
          refine lv_aload_n hx hb dX7_shortest_48 rfl (lv_at hl 0 rfl) ?_
          refine va_get (C := RX7) (T := TX7) (N := 34) (v := .ref (q 8)) hx hb hts iw7 hown hK hP 0 rfl rfl 7 (Nat.le_of_ble_eq_true rfl) lk16 (fun _ h9 => h9) rfl dX7_shortest_49 ?_
          refine lv_iconst (v := 0) hx hb dX7_shortest_52 (by decide) ?_
          obtain ⟨hi10, h⟩ := xb_some h
          refine va_iald hx hb hK hP 1 0 rfl rfl hi10 dX7_shortest_53 ?_
          refine lv_icmp_ge (tgt := 140) hx hb dX7_shortest_54 (by decide) (fun c11 => ?_) (fun c11 => ?_)
          · have h := (if_pos c11).symm.trans h
            refine lv_iinc (v := x2 + 1) (lv' := [(2, .int (x2 + 1)), (0, .ref (q 0)), (1, .int x1), (3, .int x3)]) hx hb dX7_shortest_140 hl (k := 2) rfl rfl (by decide) rfl (fun ls hl => ?_)
            refine lv_goto (tgt := 39) hx hb dX7_shortest_143 (by decide) ?_
            exact ih39 v_minutes x1 (x2 + 1) H locs ls h hP hD hS (lv_sub hl [1, 2, 0] rfl)
          · have h := (if_neg c11).symm.trans h
            refine lv_iconst (v := 0) hx hb dX7_shortest_57 (by decide) ?_
            refine lv_istore (lv' := [(4, .int (0 : Int32)), (0, .ref (q 0)), (1, .int x1), (2, .int x2), (3, .int x3)]) hx hb dX7_shortest_58 hl (by decide) rfl (fun ls hl => ?_)
            exact hL60 fu v_minutes x1 x2 x3 (0 : Int32) H locs ls h hP hD hS (lv_sub hl [1, 2, 3, 4, 0] rfl)
      intro v_minutes x1 x2 H locs ls h hP hD hS hl
      have h : f_X7_shortest_L39b fu (f_X7_shortest_L39 fu n39) v_town v_minutes x1 x2 = some res := h
      unfold f_X7_shortest_L39b at h
      refine lv_iload_n hx hb dX7_shortest_39 rfl (lv_at hl 2 rfl) ?_
      refine lv_bipush (v := 7) hx hb dX7_shortest_40 (by decide) ?_
      refine lv_icmp_ge (tgt := 146) hx hb dX7_shortest_42 (by decide) (fun c12 => ?_) (fun c12 => ?_)
      · have h := (if_pos c12).symm.trans h
        exact hret v_minutes H locs _ ls (Option.some.inj h) hP hD hS dX7_shortest_146
      · have h := (if_neg c12).symm.trans h
        refine lv_iconst (v := 0) hx hb dX7_shortest_45 (by decide) ?_
        refine lv_istore_n (lv' := [(3, .int (0 : Int32)), (0, .ref (q 0)), (1, .int x1), (2, .int x2)]) hx hb dX7_shortest_46 rfl hl (by decide) rfl (fun ls hl => ?_)
        exact hL47 fu v_minutes x1 x2 (0 : Int32) H locs ls h hP hD hS (lv_sub hl [1, 2, 3, 0] rfl)
  have hL2 : ∀ (n2 : Nat), ∀ (v_minutes : (Nat → Int32)) (x1 : Int32) (x2 : Int32) (H : Heap) (locs : List Loc) (ls : Array Slot), f_X7_shortest_L2 fu n2 v_town v_minutes x1 x2 = some res → va_P D vwCl [oX7 q v_size v_at v_begin v_token v_told v_undos v_changed v_felt v_wents v_wish v_trace, rA (q 8) cI 64 v_town, rA (q 32) cI 49 v_minutes] H → va_D A [oX7 q v_size v_at v_begin v_token v_told v_undos v_changed v_felt v_wents v_wish v_trace, rA (q 8) cI 64 v_town, rA (q 32) cI 49 v_minutes] → va_S A s.heap H locs → lv_has ls 5 [(0, .ref (q 0)), (1, .int x1), (2, .int x2)] → W p l e rm_X7_shortest s m args below meth c H locs 0 0 Q (F0 m 2 ls []) := by
    intro n2
    induction n2 with
    | zero =>
      intro v_minutes x1 x2 H locs ls h hP hD hS hl
      cases (show (none : Option R_X7_shortest) = some res from h)
    | succ n2 ih2 =>
      intro v_minutes x1 x2 H locs ls h hP hD hS hl
      have h : f_X7_shortest_L2b fu (f_X7_shortest_L2 fu n2) v_town v_minutes x1 x2 = some res := h
      unfold f_X7_shortest_L2b at h
      refine lv_iload_n hx hb dX7_shortest_2 rfl (lv_at hl 2 rfl) ?_
      refine lv_bipush (v := 49) hx hb dX7_shortest_3 (by decide) ?_
      refine lv_icmp_ge (tgt := 37) hx hb dX7_shortest_5 (by decide) (fun c13 => ?_) (fun c13 => ?_)
      · have h := (if_pos c13).symm.trans h
        refine lv_iconst (v := 0) hx hb dX7_shortest_37 (by decide) ?_
        refine lv_istore_n (lv' := [(2, .int (0 : Int32)), (0, .ref (q 0)), (1, .int x1)]) hx hb dX7_shortest_38 rfl hl (by decide) rfl (fun ls hl => ?_)
        exact hL39 fu v_minutes x1 (0 : Int32) H locs ls h hP hD hS (lv_sub hl [1, 2, 0] rfl)
      · have h := (if_neg c13).symm.trans h
        refine lv_aload_n hx hb dX7_shortest_8 rfl (lv_at hl 0 rfl) ?_
        refine va_get (C := RX7) (T := TX7) (N := 34) (v := .ref (q 32)) hx hb hts iw7 hown hK hP 0 rfl rfl 31 (Nat.le_of_ble_eq_true rfl) lk73 (fun _ h9 => h9) rfl dX7_shortest_9 ?_
        refine lv_iload_n hx hb dX7_shortest_12 rfl (lv_at hl 2 rfl) ?_
        refine lv_iload_n hx hb dX7_shortest_13 rfl (lv_at hl 2 rfl) ?_
        refine lv_bipush (v := 7) hx hb dX7_shortest_14 (by decide) ?_
        refine lv_idiv hx hb dX7_shortest_16 (by decide) ?_
        refine lv_iload_n hx hb dX7_shortest_17 rfl (lv_at hl 2 rfl) ?_
        refine lv_bipush (v := 7) hx hb dX7_shortest_18 (by decide) ?_
        refine lv_irem hx hb dX7_shortest_20 (by decide) ?_
        refine lv_icmp_ne (tgt := 28) hx hb dX7_shortest_21 (by decide) (fun c14 => ?_) (fun c14 => ?_)
        · have h := (if_neg c14).symm.trans h
          refine lv_ldc (v := (99999999)) hx hb hown (hts (.constant RX7 240 (99999999)) (by decide +kernel)) dX7_shortest_28 ?_
          obtain ⟨hi15, h⟩ := xb_some h
          refine va_iast hx hb hK hP hD hS 2 0 rfl rfl hi15 dX7_shortest_30 (fun H locs hP hD hS => ?_)
          have hP : va_P D vwCl [oX7 q v_size v_at v_begin v_token v_told v_undos v_changed v_felt v_wents v_wish v_trace, rA (q 8) cI 64 v_town, rA (q 32) cI 49 (upd v_minutes x2.toNatClampNeg (99999999 : Int32))] H := hP
          have hD : va_D A [oX7 q v_size v_at v_begin v_token v_told v_undos v_changed v_felt v_wents v_wish v_trace, rA (q 8) cI 64 v_town, rA (q 32) cI 49 (upd v_minutes x2.toNatClampNeg (99999999 : Int32))] := hD
          refine lv_iinc (v := x2 + 1) (lv' := [(2, .int (x2 + 1)), (0, .ref (q 0)), (1, .int x1)]) hx hb dX7_shortest_31 hl (k := 2) rfl rfl (by decide) rfl (fun ls hl => ?_)
          refine lv_goto (tgt := 2) hx hb dX7_shortest_34 (by decide) ?_
          exact ih2 (upd v_minutes x2.toNatClampNeg (99999999 : Int32)) x1 (x2 + 1) H locs ls h hP hD hS (lv_sub hl [1, 2, 0] rfl)
        · have h := (if_pos c14).symm.trans h
          refine lv_iconst (v := 0) hx hb dX7_shortest_24 (by decide) ?_
          refine lv_goto (tgt := 30) hx hb dX7_shortest_25 (by decide) ?_
          obtain ⟨hi16, h⟩ := xb_some h
          refine va_iast hx hb hK hP hD hS 2 0 rfl rfl hi16 dX7_shortest_30 (fun H locs hP hD hS => ?_)
          have hP : va_P D vwCl [oX7 q v_size v_at v_begin v_token v_told v_undos v_changed v_felt v_wents v_wish v_trace, rA (q 8) cI 64 v_town, rA (q 32) cI 49 (upd v_minutes x2.toNatClampNeg (0 : Int32))] H := hP
          have hD : va_D A [oX7 q v_size v_at v_begin v_token v_told v_undos v_changed v_felt v_wents v_wish v_trace, rA (q 8) cI 64 v_town, rA (q 32) cI 49 (upd v_minutes x2.toNatClampNeg (0 : Int32))] := hD
          refine lv_iinc (v := x2 + 1) (lv' := [(2, .int (x2 + 1)), (0, .ref (q 0)), (1, .int x1)]) hx hb dX7_shortest_31 hl (k := 2) rfl rfl (by decide) rfl (fun ls hl => ?_)
          refine lv_goto (tgt := 2) hx hb dX7_shortest_34 (by decide) ?_
          exact ih2 (upd v_minutes x2.toNatClampNeg (0 : Int32)) x1 (x2 + 1) H locs ls h hP hD hS (lv_sub hl [1, 2, 0] rfl)
  have h := hf
  unfold f_X7_shortest at h
  obtain ⟨H, eH⟩ : ∃ H, H = s.heap := ⟨_, rfl⟩
  rw [← eH] at hP ⊢
  obtain ⟨locs, el⟩ : ∃ locs : List Loc, locs = [] := ⟨_, rfl⟩
  rw [← el] at hS ⊢
  have hS : va_S A s.heap H locs := by rw [eH]; exact hS
  refine lv_iconst (v := 0) hx hb dX7_shortest_0 (by decide) ?_
  refine lv_istore_n (lv' := [(2, .int (0 : Int32)), (0, .ref (q 0)), (1, .int x1)]) hx hb dX7_shortest_1 rfl hl (by decide) rfl (fun ls hl => ?_)
  exact hL2 fu v_minutes x1 (0 : Int32) H locs ls h hP hD hS (lv_sub hl [1, 2, 0] rfl)
