abbrev rm_X7_route : Room := { frames := 4, cells := 0, slots := 0, locals := 99 }
set_option maxHeartbeats 4000000 in
set_option maxRecDepth 100000 in
theorem k_X7_route (l : Launch) (D : va_G) (cI cZ cT : ClassId) (q : Nat → Nat) (sz : Nat) (v_size : Int32) (v_at : Int32) (v_begin : Int32) (v_token : Int32) (v_told : Int32) (v_undos : Int32) (v_changed : Int32) (v_felt : Int32) (v_wents : Int32) (v_wish : Int32) (v_trace : Int64) (v_town : Nat → Int32) (v_firsts : Nat → Int32) (v_thens : Nat → Int32) (v_begins : Nat → Int32) (x1 : Int32) (x2 : Int32) (x3 : Int32) (x4 : Int32) (res : R_X7_route) (fu : Nat) (hf : f_X7_route fu v_town v_firsts v_thens v_begins v_changed x1 x2 x3 x4 = some res) : Met l yX7_route wsX7_route rm_X7_route (cPre D (tyz cI cZ cT) [.ref (q 0), .int x1, .int x2, .int x3, .int x4] sz [oX7 q v_size v_at v_begin v_token v_told v_undos v_changed v_felt v_wents v_wish v_trace, rA (q 8) cI 64 v_town, rA (q 12) cI 28 v_firsts, rA (q 13) cI 28 v_thens, rA (q 14) cI 28 v_begins]) (cPi D (tyz cI cZ cT) (fun (r : Int32) (u : (Nat → Int32) × (Nat → Int32) × (Nat → Int32) × Int32) => (r, u) = res) (fun u => [oX7 q v_size v_at v_begin v_token v_told v_undos u.2.2.2 v_felt v_wents v_wish v_trace, rA (q 8) cI 64 v_town, rA (q 12) cI 28 u.1, rA (q 13) cI 28 u.2.1, rA (q 14) cI 28 u.2.2.1]) [oX7 q v_size v_at v_begin v_token v_told v_undos v_changed v_felt v_wents v_wish v_trace, rA (q 8) cI 64 v_town, rA (q 12) cI 28 v_firsts, rA (q 13) cI 28 v_thens, rA (q 14) cI 28 v_begins] sz) 0 0 (va_A [oX7 q v_size v_at v_begin v_token v_told v_undos v_changed v_felt v_wents v_wish v_trace, rA (q 8) cI 64 v_town, rA (q 12) cI 28 v_firsts, rA (q 13) cI 28 v_thens, rA (q 14) cI 28 v_begins] sz) := by
  refine vx_meth_i (by decide) rfl (Nat.le_of_ble_eq_true rfl) ?_
  intro p e s m args below meth c A Q hx hb hml hown hts hK hP hD hA hS hret ls hl
  have hown : s.vm.findClass RX7 = some m.cls := hown
  have hl : lv_has ls 8 [(0, .ref (q 0)), (1, .int x1), (2, .int x2), (3, .int x3), (4, .int x4)] := hl
  have hFx : CallFix p m c cX7_route 8 s args wsX7_route RX7 := ⟨hx, hb, hml, hown, hts⟩
  have lk28 := hts (.fieldLink RX7 28 "FogGuidesModel" "thens" "[I") (by decide +kernel)
  have iw7 : ∀ w ∈ u_ws RX7 TX7 34, w ∈ wsX7_route := by decide +kernel
  have lk25 := hts (.fieldLink RX7 25 "FogGuidesModel" "firsts" "[I") (by decide +kernel)
  have lk16 := hts (.fieldLink RX7 16 "FogGuidesModel" "town" "[I") (by decide +kernel)
  have lk31 := hts (.fieldLink RX7 31 "FogGuidesModel" "begins" "[I") (by decide +kernel)
  have hJ178 : ∀ (v_firsts : (Nat → Int32)) (v_thens : (Nat → Int32)) (v_begins : (Nat → Int32)) (v_changed : Int32) (x4 : Int32) (x5 : Int32) (z0 : Int32) (H : Heap) (locs : List Loc) (ls : Array Slot), f_X7_route_J178 fu v_town v_firsts v_thens v_begins v_changed x4 x5 z0 = some res → va_P D vwCl [oX7 q v_size v_at v_begin v_token v_told v_undos v_changed v_felt v_wents v_wish v_trace, rA (q 8) cI 64 v_town, rA (q 12) cI 28 v_firsts, rA (q 13) cI 28 v_thens, rA (q 14) cI 28 v_begins] H → va_D A [oX7 q v_size v_at v_begin v_token v_told v_undos v_changed v_felt v_wents v_wish v_trace, rA (q 8) cI 64 v_town, rA (q 12) cI 28 v_firsts, rA (q 13) cI 28 v_thens, rA (q 14) cI 28 v_begins] → va_S A s.heap H locs → lv_has ls 8 [(0, .ref (q 0)), (4, .int x4), (5, .int x5)] → W p l e rm_X7_route s m args below meth c H locs 0 0 Q (F0 m 178 ls [.int z0]) := by
    intro v_firsts v_thens v_begins v_changed x4 x5 z0 H locs ls h hP hD hS hl
    unfold f_X7_route_J178 at h
    refine lv_iload hx hb dX7_route_178 (lv_at hl 1 rfl) ?_
    refine lv_icmp_ne (tgt := 193) hx hb dX7_route_180 (by decide) (fun c1 => ?_) (fun c1 => ?_)
    · have h := (if_neg c1).symm.trans h
      refine lv_aload_n hx hb dX7_route_193 rfl (lv_at hl 0 rfl) ?_
      refine va_get (C := RX7) (T := TX7) (N := 34) (v := .ref (q 13)) hx hb hts iw7 hown hK hP 0 rfl rfl 12 (Nat.le_of_ble_eq_true rfl) lk28 (fun _ h9 => h9) rfl dX7_route_194 ?_
      refine lv_iload hx hb dX7_route_197 (lv_at hl 2 rfl) ?_
      obtain ⟨hi2, h⟩ := xb_some h
      refine va_iald hx hb hK hP 3 0 rfl rfl hi2 dX7_route_199 ?_
      exact hret (v_thens x5.toNatClampNeg) (v_firsts, v_thens, v_begins, v_changed) H locs _ ls (Option.some.inj h) hP hD hS dX7_route_200
    · have h := (if_pos c1).symm.trans h
      refine lv_aload_n hx hb dX7_route_183 rfl (lv_at hl 0 rfl) ?_
      refine va_get (C := RX7) (T := TX7) (N := 34) (v := .ref (q 12)) hx hb hts iw7 hown hK hP 0 rfl rfl 11 (Nat.le_of_ble_eq_true rfl) lk25 (fun _ h9 => h9) rfl dX7_route_184 ?_
      refine lv_iload hx hb dX7_route_187 (lv_at hl 2 rfl) ?_
      obtain ⟨hi3, h⟩ := xb_some h
      refine va_iald hx hb hK hP 2 0 rfl rfl hi3 dX7_route_189 ?_
      refine lv_goto (tgt := 200) hx hb dX7_route_190 (by decide) ?_
      exact hret (v_firsts x5.toNatClampNeg) (v_firsts, v_thens, v_begins, v_changed) H locs _ ls (Option.some.inj h) hP hD hS dX7_route_200
  have hL61 : ∀ (n61 : Nat), ∀ (v_firsts : (Nat → Int32)) (v_thens : (Nat → Int32)) (v_begins : (Nat → Int32)) (v_changed : Int32) (x2 : Int32) (x3 : Int32) (x4 : Int32) (x5 : Int32) (x6 : Int32) (H : Heap) (locs : List Loc) (ls : Array Slot), f_X7_route_L61 fu n61 v_town v_firsts v_thens v_begins v_changed x2 x3 x4 x5 x6 = some res → va_P D vwCl [oX7 q v_size v_at v_begin v_token v_told v_undos v_changed v_felt v_wents v_wish v_trace, rA (q 8) cI 64 v_town, rA (q 12) cI 28 v_firsts, rA (q 13) cI 28 v_thens, rA (q 14) cI 28 v_begins] H → va_D A [oX7 q v_size v_at v_begin v_token v_told v_undos v_changed v_felt v_wents v_wish v_trace, rA (q 8) cI 64 v_town, rA (q 12) cI 28 v_firsts, rA (q 13) cI 28 v_thens, rA (q 14) cI 28 v_begins] → va_S A s.heap H locs → lv_has ls 8 [(0, .ref (q 0)), (2, .int x2), (3, .int x3), (4, .int x4), (5, .int x5), (6, .int x6)] → W p l e rm_X7_route s m args below meth c H locs 0 0 Q (F0 m 61 ls []) := by
    intro n61
    induction n61 with
    | zero =>
      intro v_firsts v_thens v_begins v_changed x2 x3 x4 x5 x6 H locs ls h hP hD hS hl
      cases (show (none : Option R_X7_route) = some res from h)
    | succ n61 ih61 =>
      intro v_firsts v_thens v_begins v_changed x2 x3 x4 x5 x6 H locs ls h hP hD hS hl
      have h : f_X7_route_L61b fu (f_X7_route_L61 fu n61) v_town v_firsts v_thens v_begins v_changed x2 x3 x4 x5 x6 = some res := h
      unfold f_X7_route_L61b at h
      refine lv_iload hx hb dX7_route_61 (lv_at hl 5 rfl) ?_
      refine lv_aload_n hx hb dX7_route_63 rfl (lv_at hl 0 rfl) ?_
      refine va_get (C := RX7) (T := TX7) (N := 34) (v := .ref (q 8)) hx hb hts iw7 hown hK hP 0 rfl rfl 7 (Nat.le_of_ble_eq_true rfl) lk16 (fun _ h9 => h9) rfl dX7_route_64 ?_
      refine lv_iconst (v := 2) hx hb dX7_route_67 (by decide) ?_
      obtain ⟨hi4, h⟩ := xb_some h
      refine va_iald hx hb hK hP 1 0 rfl rfl hi4 dX7_route_68 ?_
      refine lv_icmp_ge (tgt := 144) hx hb dX7_route_69 (by decide) (fun c5 => ?_) (fun c5 => ?_)
      · have h := (if_pos c5).symm.trans h
        refine lv_iload hx hb dX7_route_144 (lv_at hl 4 rfl) ?_
        refine lv_bipush (v := (-9)) hx hb dX7_route_146 (by decide) ?_
        refine lv_icmp_ne (tgt := 154) hx hb dX7_route_148 (by decide) (fun c6 => ?_) (fun c6 => ?_)
        · have h := (if_neg c6).symm.trans h
          refine lv_iload_n hx hb dX7_route_154 rfl (lv_at hl 2 rfl) ?_
          refine lv_iconst (v := 2) hx hb dX7_route_155 (by decide) ?_
          refine lv_icmp_ne (tgt := 169) hx hb dX7_route_156 (by decide) (fun c7 => ?_) (fun c7 => ?_)
          · have h := (if_neg c7).symm.trans h
            refine lv_iload_n hx hb dX7_route_169 rfl (lv_at hl 2 rfl) ?_
            refine lv_if_ne (tgt := 177) hx hb dX7_route_170 (by decide) (fun c8 => ?_) (fun c8 => ?_)
            · have h := (if_neg c8).symm.trans h
              refine lv_iconst (v := 0) hx hb dX7_route_177 (by decide) ?_
              exact hJ178 v_firsts v_thens v_begins v_changed x4 x5 (0 : Int32) H locs ls h hP hD hS (lv_sub hl [0, 3, 4] rfl)
            · have h := (if_pos c8).symm.trans h
              refine lv_iconst (v := 1) hx hb dX7_route_173 (by decide) ?_
              refine lv_goto (tgt := 178) hx hb dX7_route_174 (by decide) ?_
              exact hJ178 v_firsts v_thens v_begins v_changed x4 x5 (1 : Int32) H locs ls h hP hD hS (lv_sub hl [0, 3, 4] rfl)
          · have h := (if_pos c7).symm.trans h
            refine lv_aload_n hx hb dX7_route_159 rfl (lv_at hl 0 rfl) ?_
            refine va_get (C := RX7) (T := TX7) (N := 34) (v := .ref (q 14)) hx hb hts iw7 hown hK hP 0 rfl rfl 13 (Nat.le_of_ble_eq_true rfl) lk31 (fun _ h9 => h9) rfl dX7_route_160 ?_
            refine lv_iload hx hb dX7_route_163 (lv_at hl 4 rfl) ?_
            obtain ⟨hi9, h⟩ := xb_some h
            refine va_iald hx hb hK hP 4 0 rfl rfl hi9 dX7_route_165 ?_
            refine lv_goto (tgt := 200) hx hb dX7_route_166 (by decide) ?_
            exact hret (v_begins x5.toNatClampNeg) (v_firsts, v_thens, v_begins, v_changed) H locs _ ls (Option.some.inj h) hP hD hS dX7_route_200
        · have h := (if_pos c6).symm.trans h
          refine lv_bipush (v := (-9)) hx hb dX7_route_151 (by decide) ?_
          exact hret (-9 : Int32) (v_firsts, v_thens, v_begins, v_changed) H locs _ ls (Option.some.inj h) hP hD hS dX7_route_153
      · have h := (if_neg c5).symm.trans h
        refine lv_iconst (v := 4) hx hb dX7_route_72 (by decide) ?_
        refine lv_iload_n hx hb dX7_route_73 rfl (lv_at hl 1 rfl) ?_
        refine lv_imul hx hb dX7_route_74 ?_
        refine lv_iload hx hb dX7_route_75 (lv_at hl 5 rfl) ?_
        refine lv_iadd hx hb dX7_route_77 ?_
        refine lv_istore (lv' := [(7, .int (((4 : Int32) * x2) + x6)), (0, .ref (q 0)), (2, .int x2), (3, .int x3), (4, .int x4), (5, .int x5), (6, .int x6)]) hx hb dX7_route_78 hl (by decide) rfl (fun ls hl => ?_)
        refine lv_aload_n hx hb dX7_route_80 rfl (lv_at hl 1 rfl) ?_
        refine va_get (C := RX7) (T := TX7) (N := 34) (v := .ref (q 12)) hx hb hts iw7 hown hK hP 0 rfl rfl 11 (Nat.le_of_ble_eq_true rfl) lk25 (fun _ h9 => h9) rfl dX7_route_81 ?_
        refine lv_iload hx hb dX7_route_84 (lv_at hl 0 rfl) ?_
        obtain ⟨hi10, h⟩ := xb_some h
        refine va_iald hx hb hK hP 2 0 rfl rfl hi10 dX7_route_86 ?_
        refine lv_ldc (v := (99999999)) hx hb hown (hts (.constant RX7 240 (99999999)) (by decide +kernel)) dX7_route_87 ?_
        refine lv_icmp_ge (tgt := 134) hx hb dX7_route_89 (by decide) (fun c11 => ?_) (fun c11 => ?_)
        · have h := (if_pos c11).symm.trans h
          refine lv_iload hx hb dX7_route_134 (lv_at hl 5 rfl) ?_
          refine lv_istore (lv' := [(5, .int x5), (7, .int (((4 : Int32) * x2) + x6)), (0, .ref (q 0)), (2, .int x2), (3, .int x3), (4, .int x4), (6, .int x6)]) hx hb dX7_route_136 hl (by decide) rfl (fun ls hl => ?_)
          refine lv_iinc (v := x6 + 1) (lv' := [(6, .int (x6 + 1)), (5, .int x5), (7, .int (((4 : Int32) * x2) + x6)), (0, .ref (q 0)), (2, .int x2), (3, .int x3), (4, .int x4)]) hx hb dX7_route_138 hl (k := 6) rfl rfl (by decide) rfl (fun ls hl => ?_)
          refine lv_goto (tgt := 61) hx hb dX7_route_141 (by decide) ?_
          exact ih61 v_firsts v_thens v_begins v_changed x2 x3 x4 x5 (x6 + 1) H locs ls h hP hD hS (lv_sub hl [3, 4, 5, 6, 1, 0] rfl)
        · have h := (if_neg c11).symm.trans h
          refine lv_iload hx hb dX7_route_92 (lv_at hl 5 rfl) ?_
          refine lv_bipush (v := (-9)) hx hb dX7_route_94 (by decide) ?_
          refine lv_icmp_eq (tgt := 129) hx hb dX7_route_96 (by decide) (fun c12 => ?_) (fun c12 => ?_)
          · have h := (if_pos c12).symm.trans h
            refine lv_iload hx hb dX7_route_129 (lv_at hl 0 rfl) ?_
            refine lv_goto (tgt := 136) hx hb dX7_route_131 (by decide) ?_
            refine lv_istore (lv' := [(5, .int (((4 : Int32) * x2) + x6)), (7, .int (((4 : Int32) * x2) + x6)), (0, .ref (q 0)), (2, .int x2), (3, .int x3), (4, .int x4), (6, .int x6)]) hx hb dX7_route_136 hl (by decide) rfl (fun ls hl => ?_)
            refine lv_iinc (v := x6 + 1) (lv' := [(6, .int (x6 + 1)), (5, .int (((4 : Int32) * x2) + x6)), (7, .int (((4 : Int32) * x2) + x6)), (0, .ref (q 0)), (2, .int x2), (3, .int x3), (4, .int x4)]) hx hb dX7_route_138 hl (k := 6) rfl rfl (by decide) rfl (fun ls hl => ?_)
            refine lv_goto (tgt := 61) hx hb dX7_route_141 (by decide) ?_
            exact ih61 v_firsts v_thens v_begins v_changed x2 x3 x4 (((4 : Int32) * x2) + x6) (x6 + 1) H locs ls h hP hD hS (lv_sub hl [3, 4, 5, 6, 1, 0] rfl)
          · have h := (if_neg c12).symm.trans h
            refine lv_aload_n hx hb dX7_route_99 rfl (lv_at hl 1 rfl) ?_
            refine lv_aload_n hx hb dX7_route_100 rfl (lv_at hl 1 rfl) ?_
            refine va_get (C := RX7) (T := TX7) (N := 34) (v := .ref (q 12)) hx hb hts iw7 hown hK hP 0 rfl rfl 11 (Nat.le_of_ble_eq_true rfl) lk25 (fun _ h9 => h9) rfl dX7_route_101 ?_
            refine lv_iload hx hb dX7_route_104 (lv_at hl 0 rfl) ?_
            obtain ⟨hi13, h⟩ := xb_some h
            refine va_iald hx hb hK hP 2 0 rfl rfl hi13 dX7_route_106 ?_
            refine lv_aload_n hx hb dX7_route_107 rfl (lv_at hl 1 rfl) ?_
            refine va_get (C := RX7) (T := TX7) (N := 34) (v := .ref (q 13)) hx hb hts iw7 hown hK hP 0 rfl rfl 12 (Nat.le_of_ble_eq_true rfl) lk28 (fun _ h9 => h9) rfl dX7_route_108 ?_
            refine lv_iload hx hb dX7_route_111 (lv_at hl 0 rfl) ?_
            obtain ⟨hi14, h⟩ := xb_some h
            refine va_iald hx hb hK hP 3 0 rfl rfl hi14 dX7_route_113 ?_
            refine lv_aload_n hx hb dX7_route_114 rfl (lv_at hl 1 rfl) ?_
            refine va_get (C := RX7) (T := TX7) (N := 34) (v := .ref (q 14)) hx hb hts iw7 hown hK hP 0 rfl rfl 13 (Nat.le_of_ble_eq_true rfl) lk31 (fun _ h9 => h9) rfl dX7_route_115 ?_
            refine lv_iload hx hb dX7_route_118 (lv_at hl 0 rfl) ?_
            obtain ⟨hi15, h⟩ := xb_some h
            refine va_iald hx hb hK hP 4 0 rfl rfl hi15 dX7_route_120 ?_
            refine lv_iload hx hb dX7_route_121 (lv_at hl 5 rfl) ?_
            obtain ⟨r16, hr16, h⟩ := xk_some h
            refine vx_VJ (As := [.int (v_firsts (((4 : Int32) * x2) + x6).toNatClampNeg), .int (v_thens (((4 : Int32) * x2) + x6).toNatClampNeg), .int (v_begins (((4 : Int32) * x2) + x6).toNatClampNeg), .int x5]) (rest := []) hFx (k_X7_isLess l D cI cZ cT q H.size v_size v_at v_begin v_token v_told v_undos v_changed v_felt v_wents v_wish v_trace v_firsts v_thens v_begins (v_firsts (((4 : Int32) * x2) + x6).toNatClampNeg) (v_thens (((4 : Int32) * x2) + x6).toNatClampNeg) (v_begins (((4 : Int32) * x2) + x6).toNatClampNeg) x5 r16 hr16) (cwV 4 hts gX7_route_X7_isLess rfl rfl rfl (by decide +kernel) ⟨Nat.le_of_ble_eq_true rfl, Nat.le_of_ble_eq_true rfl⟩) hK hP hD hS hA [0, 2, 3, 4] rfl rfl 7 0 rfl rfl rfl hl.1 rfl (Nat.le_of_ble_eq_true rfl) dX7_route_123 ⟨Nat.zero_le _, Nat.zero_le _⟩ (fun H locs hP hS => ?_)
            refine lv_if_eq (tgt := 134) hx hb dX7_route_126 (by decide) (fun c17 => ?_) (fun c17 => ?_)
            · have h := (if_pos c17).symm.trans h
              refine lv_iload hx hb dX7_route_134 (lv_at hl 5 rfl) ?_
              refine lv_istore (lv' := [(5, .int x5), (7, .int (((4 : Int32) * x2) + x6)), (0, .ref (q 0)), (2, .int x2), (3, .int x3), (4, .int x4), (6, .int x6)]) hx hb dX7_route_136 hl (by decide) rfl (fun ls hl => ?_)
              refine lv_iinc (v := x6 + 1) (lv' := [(6, .int (x6 + 1)), (5, .int x5), (7, .int (((4 : Int32) * x2) + x6)), (0, .ref (q 0)), (2, .int x2), (3, .int x3), (4, .int x4)]) hx hb dX7_route_138 hl (k := 6) rfl rfl (by decide) rfl (fun ls hl => ?_)
              refine lv_goto (tgt := 61) hx hb dX7_route_141 (by decide) ?_
              exact ih61 v_firsts v_thens v_begins v_changed x2 x3 x4 x5 (x6 + 1) H locs ls h hP hD hS (lv_sub hl [3, 4, 5, 6, 1, 0] rfl)
            · have h := (if_neg c17).symm.trans h
              refine lv_iload hx hb dX7_route_129 (lv_at hl 0 rfl) ?_
              refine lv_goto (tgt := 136) hx hb dX7_route_131 (by decide) ?_
              refine lv_istore (lv' := [(5, .int (((4 : Int32) * x2) + x6)), (7, .int (((4 : Int32) * x2) + x6)), (0, .ref (q 0)), (2, .int x2), (3, .int x3), (4, .int x4), (6, .int x6)]) hx hb dX7_route_136 hl (by decide) rfl (fun ls hl => ?_)
              refine lv_iinc (v := x6 + 1) (lv' := [(6, .int (x6 + 1)), (5, .int (((4 : Int32) * x2) + x6)), (7, .int (((4 : Int32) * x2) + x6)), (0, .ref (q 0)), (2, .int x2), (3, .int x3), (4, .int x4)]) hx hb dX7_route_138 hl (k := 6) rfl rfl (by decide) rfl (fun ls hl => ?_)
              refine lv_goto (tgt := 61) hx hb dX7_route_141 (by decide) ?_
              exact ih61 v_firsts v_thens v_begins v_changed x2 x3 x4 (((4 : Int32) * x2) + x6) (x6 + 1) H locs ls h hP hD hS (lv_sub hl [3, 4, 5, 6, 1, 0] rfl)
  have h := hf
  unfold f_X7_route at h
  obtain ⟨H, eH⟩ : ∃ H, H = s.heap := ⟨_, rfl⟩
  rw [← eH] at hP ⊢
  obtain ⟨locs, el⟩ : ∃ locs : List Loc, locs = [] := ⟨_, rfl⟩
  rw [← el] at hS ⊢
  have hS : va_S A s.heap H locs := by rw [eH]; exact hS
  refine lv_aload_n hx hb dX7_route_0 rfl (lv_at hl 0 rfl) ?_
  refine lv_iload_n hx hb dX7_route_1 rfl (lv_at hl 1 rfl) ?_
  obtain ⟨r18, hr18, h⟩ := xk_some h
  refine vx_VJ (As := [.int x1]) (rest := []) hFx (k_X7_isCorner l D cI cZ cT q H.size v_size v_at v_begin v_token v_told v_undos v_changed v_felt v_wents v_wish v_trace v_town x1 r18 hr18) (cwV 1 hts gX7_route_X7_isCorner rfl rfl rfl (by decide +kernel) ⟨Nat.le_of_ble_eq_true rfl, Nat.le_of_ble_eq_true rfl⟩) hK hP hD hS hA [0, 1] rfl rfl 7 0 rfl rfl rfl hl.1 rfl (Nat.le_of_ble_eq_true rfl) dX7_route_2 ⟨Nat.zero_le _, Nat.zero_le _⟩ (fun H locs hP hS => ?_)
  refine lv_if_eq (tgt := 28) hx hb dX7_route_5 (by decide) (fun c19 => ?_) (fun c19 => ?_)
  · have h := (if_pos c19).symm.trans h
    refine lv_iconst (v := (-1)) hx hb dX7_route_28 (by decide) ?_
    exact hret (-1 : Int32) (v_firsts, v_thens, v_begins, v_changed) H locs _ ls (Option.some.inj h) hP hD hS dX7_route_29
  · have h := (if_neg c19).symm.trans h
    refine lv_aload_n hx hb dX7_route_8 rfl (lv_at hl 0 rfl) ?_
    refine lv_iload_n hx hb dX7_route_9 rfl (lv_at hl 2 rfl) ?_
    obtain ⟨r20, hr20, h⟩ := xk_some h
    refine vx_VJ (As := [.int x2]) (rest := []) hFx (k_X7_isCorner l D cI cZ cT q H.size v_size v_at v_begin v_token v_told v_undos v_changed v_felt v_wents v_wish v_trace v_town x2 r20 hr20) (cwV 1 hts gX7_route_X7_isCorner rfl rfl rfl (by decide +kernel) ⟨Nat.le_of_ble_eq_true rfl, Nat.le_of_ble_eq_true rfl⟩) hK hP hD hS hA [0, 1] rfl rfl 7 0 rfl rfl rfl hl.1 rfl (Nat.le_of_ble_eq_true rfl) dX7_route_10 ⟨Nat.zero_le _, Nat.zero_le _⟩ (fun H locs hP hS => ?_)
    refine lv_if_eq (tgt := 28) hx hb dX7_route_13 (by decide) (fun c21 => ?_) (fun c21 => ?_)
    · have h := (if_pos c21).symm.trans h
      refine lv_iconst (v := (-1)) hx hb dX7_route_28 (by decide) ?_
      exact hret (-1 : Int32) (v_firsts, v_thens, v_begins, v_changed) H locs _ ls (Option.some.inj h) hP hD hS dX7_route_29
    · have h := (if_neg c21).symm.trans h
      refine lv_iload_n hx hb dX7_route_16 rfl (lv_at hl 3 rfl) ?_
      refine lv_i2l hx hb dX7_route_17 rfl ?_
      refine lv_lconst (v := 0) hx hb dX7_route_18 (by decide) ?_
      refine lv_ldc2 (v := (2)) hx hb hown (hts (.constantLong RX7 179 (2)) (by decide +kernel)) dX7_route_19 ?_
      obtain ⟨r22, hr22, h⟩ := xk_some h
      refine vx_SJ (As := [.long x3.toInt64, .long (0 : Int64), .long (2 : Int64)]) (rest := []) hFx (k_X7_in l D cI cZ cT H.size x3.toInt64 (0 : Int64) (2 : Int64) r22 hr22) (vx_cwS 3 hts gX7_route_X7_in rfl rfl rfl (by decide +kernel) ⟨Nat.le_of_ble_eq_true rfl, Nat.le_of_ble_eq_true rfl⟩) hK hP hD hS hA rfl hl.1 rfl (Nat.le_of_ble_eq_true rfl) dX7_route_22 ⟨Nat.zero_le _, Nat.zero_le _⟩ (fun H locs hP hS => ?_)
      refine lv_if_ne (tgt := 30) hx hb dX7_route_25 (by decide) (fun c23 => ?_) (fun c23 => ?_)
      · have h := (if_neg c23).symm.trans h
        refine lv_iload_n hx hb dX7_route_30 rfl (lv_at hl 1 rfl) ?_
        refine lv_iload_n hx hb dX7_route_31 rfl (lv_at hl 2 rfl) ?_
        refine lv_icmp_ne (tgt := 47) hx hb dX7_route_32 (by decide) (fun c24 => ?_) (fun c24 => ?_)
        · have h := (if_neg c24).symm.trans h
          refine lv_aload_n hx hb dX7_route_47 rfl (lv_at hl 0 rfl) ?_
          refine lv_iload_n hx hb dX7_route_48 rfl (lv_at hl 1 rfl) ?_
          refine lv_iload hx hb dX7_route_49 (lv_at hl 4 rfl) ?_
          obtain ⟨r25, hr25, h⟩ := xk_some h
          refine vx_VV (As := [.int x1, .int x4]) (rest := []) (wr := []) (wn := [oX7 q v_size v_at v_begin v_token v_told v_undos r25.2.2.2 v_felt v_wents v_wish v_trace, rA (q 8) cI 64 v_town, rA (q 12) cI 28 r25.1, rA (q 13) cI 28 r25.2.1, rA (q 14) cI 28 r25.2.2.1]) hFx (k_X7_goes l D cI cZ cT q H.size v_size v_at v_begin v_token v_told v_undos v_changed v_felt v_wents v_wish v_trace v_town v_firsts v_thens v_begins x1 x4 r25 fu hr25) (cwV 2 hts gX7_route_X7_goes rfl rfl rfl (by decide +kernel) ⟨Nat.le_of_ble_eq_true rfl, Nat.le_of_ble_eq_true rfl⟩) hK hP hD hS hA [0, 1, 2, 3, 4] [] [0, 1, 2, 3, 4] rfl rfl rfl rfl (by decide) rfl rfl 7 0 rfl rfl rfl hl.1 rfl (Nat.le_of_ble_eq_true rfl) dX7_route_51 ⟨Nat.zero_le _, Nat.zero_le _⟩ (fun H locs hP hD hS => ?_)
          refine lv_bipush (v := (-9)) hx hb dX7_route_54 (by decide) ?_
          refine lv_istore (lv' := [(5, .int (-9 : Int32)), (0, .ref (q 0)), (1, .int x1), (2, .int x2), (3, .int x3), (4, .int x4)]) hx hb dX7_route_56 hl (by decide) rfl (fun ls hl => ?_)
          refine lv_iconst (v := 0) hx hb dX7_route_58 (by decide) ?_
          refine lv_istore (lv' := [(6, .int (0 : Int32)), (5, .int (-9 : Int32)), (0, .ref (q 0)), (1, .int x1), (2, .int x2), (3, .int x3), (4, .int x4)]) hx hb dX7_route_59 hl (by decide) rfl (fun ls hl => ?_)
          exact hL61 fu r25.1 r25.2.1 r25.2.2.1 r25.2.2.2 x2 x3 x4 (-9 : Int32) (0 : Int32) H locs ls h hP hD hS (lv_sub hl [2, 4, 5, 6, 1, 0] rfl)
        · have h := (if_pos c24).symm.trans h
          refine lv_iload_n hx hb dX7_route_35 rfl (lv_at hl 3 rfl) ?_
          refine lv_iconst (v := 2) hx hb dX7_route_36 (by decide) ?_
          refine lv_icmp_ne (tgt := 45) hx hb dX7_route_37 (by decide) (fun c26 => ?_) (fun c26 => ?_)
          · have h := (if_neg c26).symm.trans h
            refine lv_iconst (v := 0) hx hb dX7_route_45 (by decide) ?_
            exact hret (0 : Int32) (v_firsts, v_thens, v_begins, v_changed) H locs _ ls (Option.some.inj h) hP hD hS dX7_route_46
          · have h := (if_pos c26).symm.trans h
            refine lv_bipush (v := (-9)) hx hb dX7_route_40 (by decide) ?_
            refine lv_goto (tgt := 46) hx hb dX7_route_42 (by decide) ?_
            exact hret (-9 : Int32) (v_firsts, v_thens, v_begins, v_changed) H locs _ ls (Option.some.inj h) hP hD hS dX7_route_46
      · have h := (if_pos c23).symm.trans h
        refine lv_iconst (v := (-1)) hx hb dX7_route_28 (by decide) ?_
        exact hret (-1 : Int32) (v_firsts, v_thens, v_begins, v_changed) H locs _ ls (Option.some.inj h) hP hD hS dX7_route_29
abbrev rm_X7_soonest : Room := { frames := 5, cells := 0, slots := 0, locals := 126 }
set_option maxHeartbeats 4000000 in
set_option maxRecDepth 100000 in
theorem k_X7_soonest (l : Launch) (D : va_G) (cI cZ cT : ClassId) (q : Nat → Nat) (sz : Nat) (v_size : Int32) (v_at : Int32) (v_begin : Int32) (v_token : Int32) (v_told : Int32) (v_undos : Int32) (v_changed : Int32) (v_felt : Int32) (v_wents : Int32) (v_wish : Int32) (v_trace : Int64) (v_town : Nat → Int32) (v_firsts : Nat → Int32) (v_thens : Nat → Int32) (v_begins : Nat → Int32) (x1 : Int32) (x2 : Int32) (x3 : Int32) (res : R_X7_soonest) (fu : Nat) (hf : f_X7_soonest fu v_town v_firsts v_thens v_begins v_changed x1 x2 x3 = some res) : Met l yX7_soonest wsX7_soonest rm_X7_soonest (cPre D (tyz cI cZ cT) [.ref (q 0), .int x1, .int x2, .int x3] sz [oX7 q v_size v_at v_begin v_token v_told v_undos v_changed v_felt v_wents v_wish v_trace, rA (q 8) cI 64 v_town, rA (q 12) cI 28 v_firsts, rA (q 13) cI 28 v_thens, rA (q 14) cI 28 v_begins]) (cPi D (tyz cI cZ cT) (fun (r : Int32) (u : (Nat → Int32) × (Nat → Int32) × (Nat → Int32) × Int32) => (r, u) = res) (fun u => [oX7 q v_size v_at v_begin v_token v_told v_undos u.2.2.2 v_felt v_wents v_wish v_trace, rA (q 8) cI 64 v_town, rA (q 12) cI 28 u.1, rA (q 13) cI 28 u.2.1, rA (q 14) cI 28 u.2.2.1]) [oX7 q v_size v_at v_begin v_token v_told v_undos v_changed v_felt v_wents v_wish v_trace, rA (q 8) cI 64 v_town, rA (q 12) cI 28 v_firsts, rA (q 13) cI 28 v_thens, rA (q 14) cI 28 v_begins] sz) 0 0 (va_A [oX7 q v_size v_at v_begin v_token v_told v_undos v_changed v_felt v_wents v_wish v_trace, rA (q 8) cI 64 v_town, rA (q 12) cI 28 v_firsts, rA (q 13) cI 28 v_thens, rA (q 14) cI 28 v_begins] sz) := by
  refine vx_meth_i (by decide) rfl (Nat.le_of_ble_eq_true rfl) ?_
  intro p e s m args below meth c A Q hx hb hml hown hts hK hP hD hA hS hret ls hl
  have hown : s.vm.findClass RX7 = some m.cls := hown
  have hl : lv_has ls 4 [(0, .ref (q 0)), (1, .int x1), (2, .int x2), (3, .int x3)] := hl
  have hFx : CallFix p m c cX7_soonest 4 s args wsX7_soonest RX7 := ⟨hx, hb, hml, hown, hts⟩
  have h := hf
  unfold f_X7_soonest at h
  obtain ⟨H, eH⟩ : ∃ H, H = s.heap := ⟨_, rfl⟩
  rw [← eH] at hP ⊢
  obtain ⟨locs, el⟩ : ∃ locs : List Loc, locs = [] := ⟨_, rfl⟩
  rw [← el] at hS ⊢
  have hS : va_S A s.heap H locs := by rw [eH]; exact hS
  refine lv_aload_n hx hb dX7_soonest_0 rfl (lv_at hl 0 rfl) ?_
  refine lv_iload_n hx hb dX7_soonest_1 rfl (lv_at hl 1 rfl) ?_
  refine lv_iload_n hx hb dX7_soonest_2 rfl (lv_at hl 2 rfl) ?_
  refine lv_iload_n hx hb dX7_soonest_3 rfl (lv_at hl 3 rfl) ?_
  refine lv_iconst (v := 1) hx hb dX7_soonest_4 (by decide) ?_
  obtain ⟨r1, hr1, h⟩ := xk_some h
  refine vx_VI (As := [.int x1, .int x2, .int x3, .int (1 : Int32)]) (rest := []) (wr := []) (wn := [oX7 q v_size v_at v_begin v_token v_told v_undos r1.2.2.2.2 v_felt v_wents v_wish v_trace, rA (q 8) cI 64 v_town, rA (q 12) cI 28 r1.2.1, rA (q 13) cI 28 r1.2.2.1, rA (q 14) cI 28 r1.2.2.2.1]) hFx (k_X7_route l D cI cZ cT q H.size v_size v_at v_begin v_token v_told v_undos v_changed v_felt v_wents v_wish v_trace v_town v_firsts v_thens v_begins x1 x2 x3 (1 : Int32) r1 fu hr1) (cwV 4 hts gX7_soonest_X7_route rfl rfl rfl (by decide +kernel) ⟨Nat.le_of_ble_eq_true rfl, Nat.le_of_ble_eq_true rfl⟩) hK hP hD hS hA [0, 1, 2, 3, 4] [] [0, 1, 2, 3, 4] rfl rfl rfl rfl (by decide) rfl rfl 7 0 rfl rfl rfl hl.1 rfl (Nat.le_of_ble_eq_true rfl) dX7_soonest_5 ⟨Nat.zero_le _, Nat.zero_le _⟩ (fun H locs hP hD hS => ?_)
  exact hret r1.1 (r1.2.1, r1.2.2.1, r1.2.2.2.1, r1.2.2.2.2) H locs _ ls (Option.some.inj h) hP hD hS dX7_soonest_8
abbrev rm_X7_cheapest : Room := { frames := 5, cells := 0, slots := 0, locals := 126 }
set_option maxHeartbeats 4000000 in
set_option maxRecDepth 100000 in
theorem k_X7_cheapest (l : Launch) (D : va_G) (cI cZ cT : ClassId) (q : Nat → Nat) (sz : Nat) (v_size : Int32) (v_at : Int32) (v_begin : Int32) (v_token : Int32) (v_told : Int32) (v_undos : Int32) (v_changed : Int32) (v_felt : Int32) (v_wents : Int32) (v_wish : Int32) (v_trace : Int64) (v_town : Nat → Int32) (v_firsts : Nat → Int32) (v_thens : Nat → Int32) (v_begins : Nat → Int32) (x1 : Int32) (x2 : Int32) (x3 : Int32) (res : R_X7_cheapest) (fu : Nat) (hf : f_X7_cheapest fu v_town v_firsts v_thens v_begins v_changed x1 x2 x3 = some res) : Met l yX7_cheapest wsX7_cheapest rm_X7_cheapest (cPre D (tyz cI cZ cT) [.ref (q 0), .int x1, .int x2, .int x3] sz [oX7 q v_size v_at v_begin v_token v_told v_undos v_changed v_felt v_wents v_wish v_trace, rA (q 8) cI 64 v_town, rA (q 12) cI 28 v_firsts, rA (q 13) cI 28 v_thens, rA (q 14) cI 28 v_begins]) (cPi D (tyz cI cZ cT) (fun (r : Int32) (u : (Nat → Int32) × (Nat → Int32) × (Nat → Int32) × Int32) => (r, u) = res) (fun u => [oX7 q v_size v_at v_begin v_token v_told v_undos u.2.2.2 v_felt v_wents v_wish v_trace, rA (q 8) cI 64 v_town, rA (q 12) cI 28 u.1, rA (q 13) cI 28 u.2.1, rA (q 14) cI 28 u.2.2.1]) [oX7 q v_size v_at v_begin v_token v_told v_undos v_changed v_felt v_wents v_wish v_trace, rA (q 8) cI 64 v_town, rA (q 12) cI 28 v_firsts, rA (q 13) cI 28 v_thens, rA (q 14) cI 28 v_begins] sz) 0 0 (va_A [oX7 q v_size v_at v_begin v_token v_told v_undos v_changed v_felt v_wents v_wish v_trace, rA (q 8) cI 64 v_town, rA (q 12) cI 28 v_firsts, rA (q 13) cI 28 v_thens, rA (q 14) cI 28 v_begins] sz) := by
  refine vx_meth_i (by decide) rfl (Nat.le_of_ble_eq_true rfl) ?_
  intro p e s m args below meth c A Q hx hb hml hown hts hK hP hD hA hS hret ls hl
  have hown : s.vm.findClass RX7 = some m.cls := hown
  have hl : lv_has ls 4 [(0, .ref (q 0)), (1, .int x1), (2, .int x2), (3, .int x3)] := hl
  have hFx : CallFix p m c cX7_cheapest 4 s args wsX7_cheapest RX7 := ⟨hx, hb, hml, hown, hts⟩
  have h := hf
  unfold f_X7_cheapest at h
  obtain ⟨H, eH⟩ : ∃ H, H = s.heap := ⟨_, rfl⟩
  rw [← eH] at hP ⊢
  obtain ⟨locs, el⟩ : ∃ locs : List Loc, locs = [] := ⟨_, rfl⟩
  rw [← el] at hS ⊢
  have hS : va_S A s.heap H locs := by rw [eH]; exact hS
  refine lv_aload_n hx hb dX7_cheapest_0 rfl (lv_at hl 0 rfl) ?_
  refine lv_iload_n hx hb dX7_cheapest_1 rfl (lv_at hl 1 rfl) ?_
  refine lv_iload_n hx hb dX7_cheapest_2 rfl (lv_at hl 2 rfl) ?_
  refine lv_iload_n hx hb dX7_cheapest_3 rfl (lv_at hl 3 rfl) ?_
  refine lv_iconst (v := 0) hx hb dX7_cheapest_4 (by decide) ?_
  obtain ⟨r1, hr1, h⟩ := xk_some h
  refine vx_VI (As := [.int x1, .int x2, .int x3, .int (0 : Int32)]) (rest := []) (wr := []) (wn := [oX7 q v_size v_at v_begin v_token v_told v_undos r1.2.2.2.2 v_felt v_wents v_wish v_trace, rA (q 8) cI 64 v_town, rA (q 12) cI 28 r1.2.1, rA (q 13) cI 28 r1.2.2.1, rA (q 14) cI 28 r1.2.2.2.1]) hFx (k_X7_route l D cI cZ cT q H.size v_size v_at v_begin v_token v_told v_undos v_changed v_felt v_wents v_wish v_trace v_town v_firsts v_thens v_begins x1 x2 x3 (0 : Int32) r1 fu hr1) (cwV 4 hts gX7_cheapest_X7_route rfl rfl rfl (by decide +kernel) ⟨Nat.le_of_ble_eq_true rfl, Nat.le_of_ble_eq_true rfl⟩) hK hP hD hS hA [0, 1, 2, 3, 4] [] [0, 1, 2, 3, 4] rfl rfl rfl rfl (by decide) rfl rfl 7 0 rfl rfl rfl hl.1 rfl (Nat.le_of_ble_eq_true rfl) dX7_cheapest_5 ⟨Nat.zero_le _, Nat.zero_le _⟩ (fun H locs hP hD hS => ?_)
  exact hret r1.1 (r1.2.1, r1.2.2.1, r1.2.2.2.1, r1.2.2.2.2) H locs _ ls (Option.some.inj h) hP hD hS dX7_cheapest_8
abbrev rm_X7_reach : Room := { frames := 0, cells := 0, slots := 0, locals := 0 }
set_option maxHeartbeats 4000000 in
set_option maxRecDepth 100000 in
theorem k_X7_reach (l : Launch) (D : va_G) (cI cZ cT : ClassId) (q : Nat → Nat) (sz : Nat) (v_size : Int32) (v_at : Int32) (v_begin : Int32) (v_token : Int32) (v_told : Int32) (v_undos : Int32) (v_changed : Int32) (v_felt : Int32) (v_wents : Int32) (v_wish : Int32) (v_trace : Int64) (v_town : Nat → Int32) (x1 : Int32) (x2 : Int32) (res : R_X7_reach) (fu : Nat) (hf : f_X7_reach fu v_town x1 x2 = some res) : Met l yX7_reach wsX7_reach rm_X7_reach (cPre D (tyz cI cZ cT) [.ref (q 0), .int x1, .int x2] sz [oX7 q v_size v_at v_begin v_token v_told v_undos v_changed v_felt v_wents v_wish v_trace, rA (q 8) cI 64 v_town]) (cPi D (tyz cI cZ cT) (fun (r : Int32) (_ : Unit) => r = res) (fun _ => [oX7 q v_size v_at v_begin v_token v_told v_undos v_changed v_felt v_wents v_wish v_trace, rA (q 8) cI 64 v_town]) [oX7 q v_size v_at v_begin v_token v_told v_undos v_changed v_felt v_wents v_wish v_trace, rA (q 8) cI 64 v_town] sz) 0 0 (va_A [oX7 q v_size v_at v_begin v_token v_told v_undos v_changed v_felt v_wents v_wish v_trace, rA (q 8) cI 64 v_town] sz) := by
  refine vx_meth_i (by decide) rfl (Nat.le_of_ble_eq_true rfl) ?_
  intro p e s m args below meth c A Q hx hb hml hown hts hK hP hD hA hS hret ls hl
  have hown : s.vm.findClass RX7 = some m.cls := hown
  have hl : lv_has ls 7 [(0, .ref (q 0)), (1, .int x1), (2, .int x2)] := hl
  have hFx : CallFix p m c cX7_reach 7 s args wsX7_reach RX7 := ⟨hx, hb, hml, hown, hts⟩
  have lk16 := hts (.fieldLink RX7 16 "FogGuidesModel" "town" "[I") (by decide +kernel)
  have iw7 : ∀ w ∈ u_ws RX7 TX7 34, w ∈ wsX7_reach := by decide +kernel
  have hL5 : ∀ (n5 : Nat), ∀ (x2 : Int32) (x3 : Int32) (x4 : Int32) (H : Heap) (locs : List Loc) (ls : Array Slot), f_X7_reach_L5 fu n5 v_town x2 x3 x4 = some res → va_P D vwCl [oX7 q v_size v_at v_begin v_token v_told v_undos v_changed v_felt v_wents v_wish v_trace, rA (q 8) cI 64 v_town] H → va_D A [oX7 q v_size v_at v_begin v_token v_told v_undos v_changed v_felt v_wents v_wish v_trace, rA (q 8) cI 64 v_town] → va_S A s.heap H locs → lv_has ls 7 [(0, .ref (q 0)), (2, .int x2), (3, .int x3), (4, .int x4)] → W p l e rm_X7_reach s m args below meth c H locs 0 0 Q (F0 m 5 ls []) := by
    intro n5
    induction n5 with
    | zero =>
      intro x2 x3 x4 H locs ls h hP hD hS hl
      cases (show (none : Option R_X7_reach) = some res from h)
    | succ n5 ih5 =>
      have hL19 : ∀ (n19 : Nat), ∀ (x2 : Int32) (x3 : Int32) (x4 : Int32) (x5 : Int32) (H : Heap) (locs : List Loc) (ls : Array Slot), f_X7_reach_L19 fu (f_X7_reach_L5 fu n5) n19 v_town x2 x3 x4 x5 = some res → va_P D vwCl [oX7 q v_size v_at v_begin v_token v_told v_undos v_changed v_felt v_wents v_wish v_trace, rA (q 8) cI 64 v_town] H → va_D A [oX7 q v_size v_at v_begin v_token v_told v_undos v_changed v_felt v_wents v_wish v_trace, rA (q 8) cI 64 v_town] → va_S A s.heap H locs → lv_has ls 7 [(0, .ref (q 0)), (2, .int x2), (3, .int x3), (4, .int x4), (5, .int x5)] → W p l e rm_X7_reach s m args below meth c H locs 0 0 Q (F0 m 19 ls []) := by
        intro n19
        induction n19 with
        | zero =>
          intro x2 x3 x4 x5 H locs ls h hP hD hS hl
          cases (show (none : Option R_X7_reach) = some res from h)
        | succ n19 ih19 =>
          intro x2 x3 x4 x5 H locs ls h hP hD hS hl
          have h : f_X7_reach_L19b fu (f_X7_reach_L5 fu n5) (f_X7_reach_L19 fu (f_X7_reach_L5 fu n5) n19) v_town x2 x3 x4 x5 = some res := h
          unfold f_X7_reach_L19b at h
          refine lv_iload hx hb dX7_reach_19 (lv_at hl 4 rfl) ?_
          refine lv_aload_n hx hb dX7_reach_21 rfl (lv_at hl 0 rfl) ?_
          refine va_get (C := RX7) (T := TX7) (N := 34) (v := .ref (q 8)) hx hb hts iw7 hown hK hP 0 rfl rfl 7 (Nat.le_of_ble_eq_true rfl) lk16 (fun _ h9 => h9) rfl dX7_reach_22 ?_
          refine lv_iconst (v := 1) hx hb dX7_reach_25 (by decide) ?_
          obtain ⟨hi1, h⟩ := xb_some h
          refine va_iald hx hb hK hP 1 0 rfl rfl hi1 dX7_reach_26 ?_
          refine lv_icmp_ge (tgt := 95) hx hb dX7_reach_27 (by decide) (fun c2 => ?_) (fun c2 => ?_)
          · have h := (if_pos c2).symm.trans h
            refine lv_iinc (v := x4 + 1) (lv' := [(4, .int (x4 + 1)), (0, .ref (q 0)), (2, .int x2), (3, .int x3), (5, .int x5)]) hx hb dX7_reach_95 hl (k := 3) rfl rfl (by decide) rfl (fun ls hl => ?_)
            refine lv_goto (tgt := 5) hx hb dX7_reach_98 (by decide) ?_
            exact ih5 x2 x3 (x4 + 1) H locs ls h hP hD hS (lv_sub hl [1, 2, 3, 0] rfl)
          · have h := (if_neg c2).symm.trans h
            refine lv_iconst (v := 1) hx hb dX7_reach_30 (by decide) ?_
            refine lv_aload_n hx hb dX7_reach_31 rfl (lv_at hl 0 rfl) ?_
            refine va_get (C := RX7) (T := TX7) (N := 34) (v := .ref (q 8)) hx hb hts iw7 hown hK hP 0 rfl rfl 7 (Nat.le_of_ble_eq_true rfl) lk16 (fun _ h9 => h9) rfl dX7_reach_32 ?_
            refine lv_bipush (v := 13) hx hb dX7_reach_35 (by decide) ?_
            refine lv_iconst (v := 3) hx hb dX7_reach_37 (by decide) ?_
            refine lv_iload hx hb dX7_reach_38 (lv_at hl 4 rfl) ?_
            refine lv_imul hx hb dX7_reach_40 ?_
            refine lv_iadd hx hb dX7_reach_41 ?_
            obtain ⟨hi3, h⟩ := xb_some h
            refine va_iald hx hb hK hP 1 0 rfl rfl hi3 dX7_reach_42 ?_
            refine lv_ishl hx hb dX7_reach_43 ?_
            refine lv_iconst (v := 1) hx hb dX7_reach_44 (by decide) ?_
            refine lv_aload_n hx hb dX7_reach_45 rfl (lv_at hl 0 rfl) ?_
            refine va_get (C := RX7) (T := TX7) (N := 34) (v := .ref (q 8)) hx hb hts iw7 hown hK hP 0 rfl rfl 7 (Nat.le_of_ble_eq_true rfl) lk16 (fun _ h9 => h9) rfl dX7_reach_46 ?_
            refine lv_bipush (v := 13) hx hb dX7_reach_49 (by decide) ?_
            refine lv_iconst (v := 3) hx hb dX7_reach_51 (by decide) ?_
            refine lv_iload hx hb dX7_reach_52 (lv_at hl 4 rfl) ?_
            refine lv_imul hx hb dX7_reach_54 ?_
            refine lv_iadd hx hb dX7_reach_55 ?_
            refine lv_iconst (v := 1) hx hb dX7_reach_56 (by decide) ?_
            refine lv_iadd hx hb dX7_reach_57 ?_
            obtain ⟨hi4, h⟩ := xb_some h
            refine va_iald hx hb hK hP 1 0 rfl rfl hi4 dX7_reach_58 ?_
            refine lv_ishl hx hb dX7_reach_59 ?_
            refine lv_ior hx hb dX7_reach_60 ?_
            refine lv_istore (lv' := [(6, .int (((1 : Int32) <<< ((v_town ((13 : Int32) + ((3 : Int32) * x5)).toNatClampNeg) &&& 31)) ||| ((1 : Int32) <<< ((v_town (((13 : Int32) + ((3 : Int32) * x5)) + (1 : Int32)).toNatClampNeg) &&& 31)))), (0, .ref (q 0)), (2, .int x2), (3, .int x3), (4, .int x4), (5, .int x5)]) hx hb dX7_reach_61 hl (by decide) rfl (fun ls hl => ?_)
            refine lv_iload_n hx hb dX7_reach_63 rfl (lv_at hl 3 rfl) ?_
            refine lv_iload_n hx hb dX7_reach_64 rfl (lv_at hl 2 rfl) ?_
            refine lv_iload hx hb dX7_reach_65 (lv_at hl 5 rfl) ?_
            refine lv_ishr hx hb dX7_reach_67 ?_
            refine lv_iconst (v := 1) hx hb dX7_reach_68 (by decide) ?_
            refine lv_iand hx hb dX7_reach_69 ?_
            refine lv_iconst (v := 1) hx hb dX7_reach_70 (by decide) ?_
            refine lv_icmp_ne (tgt := 86) hx hb dX7_reach_71 (by decide) (fun c5 => ?_) (fun c5 => ?_)
            · have h := (if_neg c5).symm.trans h
              refine lv_iconst (v := 0) hx hb dX7_reach_86 (by decide) ?_
              refine lv_ior hx hb dX7_reach_87 ?_
              refine lv_istore_n (lv' := [(3, .int (x3 ||| (0 : Int32))), (6, .int (((1 : Int32) <<< ((v_town ((13 : Int32) + ((3 : Int32) * x5)).toNatClampNeg) &&& 31)) ||| ((1 : Int32) <<< ((v_town (((13 : Int32) + ((3 : Int32) * x5)) + (1 : Int32)).toNatClampNeg) &&& 31)))), (0, .ref (q 0)), (2, .int x2), (4, .int x4), (5, .int x5)]) hx hb dX7_reach_88 rfl hl (by decide) rfl (fun ls hl => ?_)
              refine lv_iinc (v := x5 + 1) (lv' := [(5, .int (x5 + 1)), (3, .int (x3 ||| (0 : Int32))), (6, .int (((1 : Int32) <<< ((v_town ((13 : Int32) + ((3 : Int32) * x5)).toNatClampNeg) &&& 31)) ||| ((1 : Int32) <<< ((v_town (((13 : Int32) + ((3 : Int32) * x5)) + (1 : Int32)).toNatClampNeg) &&& 31)))), (0, .ref (q 0)), (2, .int x2), (4, .int x4)]) hx hb dX7_reach_89 hl (k := 5) rfl rfl (by decide) rfl (fun ls hl => ?_)
              refine lv_goto (tgt := 19) hx hb dX7_reach_92 (by decide) ?_
              exact ih19 x2 (x3 ||| (0 : Int32)) x4 (x5 + 1) H locs ls h hP hD hS (lv_sub hl [3, 4, 1, 5, 0] rfl)
            · have h := (if_pos c5).symm.trans h
              refine lv_iload_n hx hb dX7_reach_74 rfl (lv_at hl 3 rfl) ?_
              refine lv_iload hx hb dX7_reach_75 (lv_at hl 0 rfl) ?_
              refine lv_iand hx hb dX7_reach_77 ?_
              refine lv_if_eq (tgt := 86) hx hb dX7_reach_78 (by decide) (fun c6 => ?_) (fun c6 => ?_)
              · have h := (if_pos c6).symm.trans h
                refine lv_iconst (v := 0) hx hb dX7_reach_86 (by decide) ?_
                refine lv_ior hx hb dX7_reach_87 ?_
                refine lv_istore_n (lv' := [(3, .int (x3 ||| (0 : Int32))), (6, .int (((1 : Int32) <<< ((v_town ((13 : Int32) + ((3 : Int32) * x5)).toNatClampNeg) &&& 31)) ||| ((1 : Int32) <<< ((v_town (((13 : Int32) + ((3 : Int32) * x5)) + (1 : Int32)).toNatClampNeg) &&& 31)))), (0, .ref (q 0)), (2, .int x2), (4, .int x4), (5, .int x5)]) hx hb dX7_reach_88 rfl hl (by decide) rfl (fun ls hl => ?_)
                refine lv_iinc (v := x5 + 1) (lv' := [(5, .int (x5 + 1)), (3, .int (x3 ||| (0 : Int32))), (6, .int (((1 : Int32) <<< ((v_town ((13 : Int32) + ((3 : Int32) * x5)).toNatClampNeg) &&& 31)) ||| ((1 : Int32) <<< ((v_town (((13 : Int32) + ((3 : Int32) * x5)) + (1 : Int32)).toNatClampNeg) &&& 31)))), (0, .ref (q 0)), (2, .int x2), (4, .int x4)]) hx hb dX7_reach_89 hl (k := 5) rfl rfl (by decide) rfl (fun ls hl => ?_)
                refine lv_goto (tgt := 19) hx hb dX7_reach_92 (by decide) ?_
                exact ih19 x2 (x3 ||| (0 : Int32)) x4 (x5 + 1) H locs ls h hP hD hS (lv_sub hl [3, 4, 1, 5, 0] rfl)
              · have h := (if_neg c6).symm.trans h
                refine lv_iload hx hb dX7_reach_81 (lv_at hl 0 rfl) ?_
                refine lv_goto (tgt := 87) hx hb dX7_reach_83 (by decide) ?_
                refine lv_ior hx hb dX7_reach_87 ?_
                refine lv_istore_n (lv' := [(3, .int (x3 ||| (((1 : Int32) <<< ((v_town ((13 : Int32) + ((3 : Int32) * x5)).toNatClampNeg) &&& 31)) ||| ((1 : Int32) <<< ((v_town (((13 : Int32) + ((3 : Int32) * x5)) + (1 : Int32)).toNatClampNeg) &&& 31))))), (6, .int (((1 : Int32) <<< ((v_town ((13 : Int32) + ((3 : Int32) * x5)).toNatClampNeg) &&& 31)) ||| ((1 : Int32) <<< ((v_town (((13 : Int32) + ((3 : Int32) * x5)) + (1 : Int32)).toNatClampNeg) &&& 31)))), (0, .ref (q 0)), (2, .int x2), (4, .int x4), (5, .int x5)]) hx hb dX7_reach_88 rfl hl (by decide) rfl (fun ls hl => ?_)
                refine lv_iinc (v := x5 + 1) (lv' := [(5, .int (x5 + 1)), (3, .int (x3 ||| (((1 : Int32) <<< ((v_town ((13 : Int32) + ((3 : Int32) * x5)).toNatClampNeg) &&& 31)) ||| ((1 : Int32) <<< ((v_town (((13 : Int32) + ((3 : Int32) * x5)) + (1 : Int32)).toNatClampNeg) &&& 31))))), (6, .int (((1 : Int32) <<< ((v_town ((13 : Int32) + ((3 : Int32) * x5)).toNatClampNeg) &&& 31)) ||| ((1 : Int32) <<< ((v_town (((13 : Int32) + ((3 : Int32) * x5)) + (1 : Int32)).toNatClampNeg) &&& 31)))), (0, .ref (q 0)), (2, .int x2), (4, .int x4)]) hx hb dX7_reach_89 hl (k := 5) rfl rfl (by decide) rfl (fun ls hl => ?_)
                refine lv_goto (tgt := 19) hx hb dX7_reach_92 (by decide) ?_
                exact ih19 x2 (x3 ||| (((1 : Int32) <<< ((v_town ((13 : Int32) + ((3 : Int32) * x5)).toNatClampNeg) &&& 31)) ||| ((1 : Int32) <<< ((v_town (((13 : Int32) + ((3 : Int32) * x5)) + (1 : Int32)).toNatClampNeg) &&& 31)))) x4 (x5 + 1) H locs ls h hP hD hS (lv_sub hl [3, 4, 1, 5, 0] rfl)
      intro x2 x3 x4 H locs ls h hP hD hS hl
      have h : f_X7_reach_L5b fu (f_X7_reach_L5 fu n5) v_town x2 x3 x4 = some res := h
      unfold f_X7_reach_L5b at h
      refine lv_iload hx hb dX7_reach_5 (lv_at hl 3 rfl) ?_
      refine lv_aload_n hx hb dX7_reach_7 rfl (lv_at hl 0 rfl) ?_
      refine va_get (C := RX7) (T := TX7) (N := 34) (v := .ref (q 8)) hx hb hts iw7 hown hK hP 0 rfl rfl 7 (Nat.le_of_ble_eq_true rfl) lk16 (fun _ h9 => h9) rfl dX7_reach_8 ?_
      refine lv_iconst (v := 0) hx hb dX7_reach_11 (by decide) ?_
      obtain ⟨hi7, h⟩ := xb_some h
      refine va_iald hx hb hK hP 1 0 rfl rfl hi7 dX7_reach_12 ?_
      refine lv_icmp_ge (tgt := 101) hx hb dX7_reach_13 (by decide) (fun c8 => ?_) (fun c8 => ?_)
      · have h := (if_pos c8).symm.trans h
        refine lv_iload_n hx hb dX7_reach_101 rfl (lv_at hl 2 rfl) ?_
        exact hret x3 () H locs _ ls (Option.some.inj h) hP hD hS dX7_reach_102
      · have h := (if_neg c8).symm.trans h
        refine lv_iconst (v := 0) hx hb dX7_reach_16 (by decide) ?_
        refine lv_istore (lv' := [(5, .int (0 : Int32)), (0, .ref (q 0)), (2, .int x2), (3, .int x3), (4, .int x4)]) hx hb dX7_reach_17 hl (by decide) rfl (fun ls hl => ?_)
        exact hL19 fu x2 x3 x4 (0 : Int32) H locs ls h hP hD hS (lv_sub hl [1, 2, 3, 4, 0] rfl)
  have h := hf
  unfold f_X7_reach at h
  obtain ⟨H, eH⟩ : ∃ H, H = s.heap := ⟨_, rfl⟩
  rw [← eH] at hP ⊢
  obtain ⟨locs, el⟩ : ∃ locs : List Loc, locs = [] := ⟨_, rfl⟩
  rw [← el] at hS ⊢
  have hS : va_S A s.heap H locs := by rw [eH]; exact hS
  refine lv_iload_n hx hb dX7_reach_0 rfl (lv_at hl 1 rfl) ?_
  refine lv_istore_n (lv' := [(3, .int x1), (0, .ref (q 0)), (1, .int x1), (2, .int x2)]) hx hb dX7_reach_1 rfl hl (by decide) rfl (fun ls hl => ?_)
  refine lv_iconst (v := 0) hx hb dX7_reach_2 (by decide) ?_
  refine lv_istore (lv' := [(4, .int (0 : Int32)), (3, .int x1), (0, .ref (q 0)), (1, .int x1), (2, .int x2)]) hx hb dX7_reach_3 hl (by decide) rfl (fun ls hl => ?_)
  exact hL5 fu x2 x1 (0 : Int32) H locs ls h hP hD hS (lv_sub hl [2, 4, 1, 0] rfl)
abbrev rm_X7_byOne : Room := { frames := 2, cells := 0, slots := 0, locals := 46 }
set_option maxHeartbeats 4000000 in
set_option maxRecDepth 100000 in
theorem k_X7_byOne (l : Launch) (D : va_G) (cI cZ cT : ClassId) (q : Nat → Nat) (sz : Nat) (v_size : Int32) (v_at : Int32) (v_begin : Int32) (v_token : Int32) (v_told : Int32) (v_undos : Int32) (v_changed : Int32) (v_felt : Int32) (v_wents : Int32) (v_wish : Int32) (v_trace : Int64) (v_town : Nat → Int32) (x1 : Int32) (x2 : Int32) (res : R_X7_byOne) (fu : Nat) (hf : f_X7_byOne fu v_town x1 x2 = some res) : Met l yX7_byOne wsX7_byOne rm_X7_byOne (cPre D (tyz cI cZ cT) [.ref (q 0), .int x1, .int x2] sz [oX7 q v_size v_at v_begin v_token v_told v_undos v_changed v_felt v_wents v_wish v_trace, rA (q 8) cI 64 v_town]) (cPi D (tyz cI cZ cT) (fun (r : Int32) (_ : Unit) => r = res) (fun _ => [oX7 q v_size v_at v_begin v_token v_told v_undos v_changed v_felt v_wents v_wish v_trace, rA (q 8) cI 64 v_town]) [oX7 q v_size v_at v_begin v_token v_told v_undos v_changed v_felt v_wents v_wish v_trace, rA (q 8) cI 64 v_town] sz) 0 0 (va_A [oX7 q v_size v_at v_begin v_token v_told v_undos v_changed v_felt v_wents v_wish v_trace, rA (q 8) cI 64 v_town] sz) := by
  refine vx_meth_i (by decide) rfl (Nat.le_of_ble_eq_true rfl) ?_
  intro p e s m args below meth c A Q hx hb hml hown hts hK hP hD hA hS hret ls hl
  have hown : s.vm.findClass RX7 = some m.cls := hown
  have hl : lv_has ls 5 [(0, .ref (q 0)), (1, .int x1), (2, .int x2)] := hl
  have hFx : CallFix p m c cX7_byOne 5 s args wsX7_byOne RX7 := ⟨hx, hb, hml, hown, hts⟩
  have lk16 := hts (.fieldLink RX7 16 "FogGuidesModel" "town" "[I") (by decide +kernel)
  have iw7 : ∀ w ∈ u_ws RX7 TX7 34, w ∈ wsX7_byOne := by decide +kernel
  have hL23 : ∀ (n23 : Nat), ∀ (x1 : Int32) (x2 : Int32) (x3 : Int32) (x4 : Int32) (H : Heap) (locs : List Loc) (ls : Array Slot), f_X7_byOne_L23 fu n23 v_town x1 x2 x3 x4 = some res → va_P D vwCl [oX7 q v_size v_at v_begin v_token v_told v_undos v_changed v_felt v_wents v_wish v_trace, rA (q 8) cI 64 v_town] H → va_D A [oX7 q v_size v_at v_begin v_token v_told v_undos v_changed v_felt v_wents v_wish v_trace, rA (q 8) cI 64 v_town] → va_S A s.heap H locs → lv_has ls 5 [(0, .ref (q 0)), (1, .int x1), (2, .int x2), (3, .int x3), (4, .int x4)] → W p l e rm_X7_byOne s m args below meth c H locs 0 0 Q (F0 m 23 ls []) := by
    intro n23
    induction n23 with
    | zero =>
      intro x1 x2 x3 x4 H locs ls h hP hD hS hl
      cases (show (none : Option R_X7_byOne) = some res from h)
    | succ n23 ih23 =>
      intro x1 x2 x3 x4 H locs ls h hP hD hS hl
      have h : f_X7_byOne_L23b fu (f_X7_byOne_L23 fu n23) v_town x1 x2 x3 x4 = some res := h
      unfold f_X7_byOne_L23b at h
      refine lv_iload hx hb dX7_byOne_23 (lv_at hl 4 rfl) ?_
      refine lv_aload_n hx hb dX7_byOne_25 rfl (lv_at hl 0 rfl) ?_
      refine va_get (C := RX7) (T := TX7) (N := 34) (v := .ref (q 8)) hx hb hts iw7 hown hK hP 0 rfl rfl 7 (Nat.le_of_ble_eq_true rfl) lk16 (fun _ h9 => h9) rfl dX7_byOne_26 ?_
      refine lv_iconst (v := 2) hx hb dX7_byOne_29 (by decide) ?_
      obtain ⟨hi1, h⟩ := xb_some h
      refine va_iald hx hb hK hP 1 0 rfl rfl hi1 dX7_byOne_30 ?_
      refine lv_icmp_ge (tgt := 82) hx hb dX7_byOne_31 (by decide) (fun c2 => ?_) (fun c2 => ?_)
      · have h := (if_pos c2).symm.trans h
        refine lv_iload_n hx hb dX7_byOne_82 rfl (lv_at hl 3 rfl) ?_
        exact hret x3 () H locs _ ls (Option.some.inj h) hP hD hS dX7_byOne_83
      · have h := (if_neg c2).symm.trans h
        refine lv_iload_n hx hb dX7_byOne_34 rfl (lv_at hl 3 rfl) ?_
        refine lv_aload_n hx hb dX7_byOne_35 rfl (lv_at hl 0 rfl) ?_
        refine lv_iload hx hb dX7_byOne_36 (lv_at hl 4 rfl) ?_
        refine lv_iload_n hx hb dX7_byOne_38 rfl (lv_at hl 1 rfl) ?_
        obtain ⟨r3, hr3, h⟩ := xk_some h
        refine vx_VJ (As := [.int x4, .int x1]) (rest := [.int x3]) hFx (k_X7_isHis l D cI cZ cT q H.size v_size v_at v_begin v_token v_told v_undos v_changed v_felt v_wents v_wish v_trace v_town x4 x1 r3 hr3) (cwV 2 hts gX7_byOne_X7_isHis rfl rfl rfl (by decide +kernel) ⟨Nat.le_of_ble_eq_true rfl, Nat.le_of_ble_eq_true rfl⟩) hK hP hD hS hA [0, 1] rfl rfl 7 0 rfl rfl rfl hl.1 rfl (Nat.le_of_ble_eq_true rfl) dX7_byOne_39 ⟨Nat.zero_le _, Nat.zero_le _⟩ (fun H locs hP hS => ?_)
        refine lv_if_eq (tgt := 73) hx hb dX7_byOne_42 (by decide) (fun c4 => ?_) (fun c4 => ?_)
        · have h := (if_pos c4).symm.trans h
          refine lv_iconst (v := 0) hx hb dX7_byOne_73 (by decide) ?_
          refine lv_ior hx hb dX7_byOne_74 ?_
          refine lv_istore_n (lv' := [(3, .int (x3 ||| (0 : Int32))), (0, .ref (q 0)), (1, .int x1), (2, .int x2), (4, .int x4)]) hx hb dX7_byOne_75 rfl hl (by decide) rfl (fun ls hl => ?_)
          refine lv_iinc (v := x4 + 1) (lv' := [(4, .int (x4 + 1)), (3, .int (x3 ||| (0 : Int32))), (0, .ref (q 0)), (1, .int x1), (2, .int x2)]) hx hb dX7_byOne_76 hl (k := 4) rfl rfl (by decide) rfl (fun ls hl => ?_)
          refine lv_goto (tgt := 23) hx hb dX7_byOne_79 (by decide) ?_
          exact ih23 x1 x2 (x3 ||| (0 : Int32)) (x4 + 1) H locs ls h hP hD hS (lv_sub hl [2, 3, 4, 1, 0] rfl)
        · have h := (if_neg c4).symm.trans h
          refine lv_aload_n hx hb dX7_byOne_45 rfl (lv_at hl 0 rfl) ?_
          refine lv_iconst (v := 1) hx hb dX7_byOne_46 (by decide) ?_
          refine lv_iload_n hx hb dX7_byOne_47 rfl (lv_at hl 1 rfl) ?_
          refine lv_ishl hx hb dX7_byOne_48 ?_
          refine lv_aload_n hx hb dX7_byOne_49 rfl (lv_at hl 0 rfl) ?_
          refine lv_iload hx hb dX7_byOne_50 (lv_at hl 4 rfl) ?_
          obtain ⟨r5, hr5, h⟩ := xk_some h
          refine vx_VJ (As := [.int x4]) (rest := [.int ((1 : Int32) <<< (x1 &&& 31)), .ref (q 0), .int x3]) hFx (k_X7_known l D cI cZ cT q H.size v_size v_at v_begin v_token v_told v_undos v_changed v_felt v_wents v_wish v_trace v_town x4 r5 hr5) (cwV 1 hts gX7_byOne_X7_known rfl rfl rfl (by decide +kernel) ⟨Nat.le_of_ble_eq_true rfl, Nat.le_of_ble_eq_true rfl⟩) hK hP hD hS hA [0, 1] rfl rfl 7 0 rfl rfl rfl hl.1 rfl (Nat.le_of_ble_eq_true rfl) dX7_byOne_52 ⟨Nat.zero_le _, Nat.zero_le _⟩ (fun H locs hP hS => ?_)
          obtain ⟨r6, hr6, h⟩ := xk_some h
          refine vx_VJ (As := [.int ((1 : Int32) <<< (x1 &&& 31)), .int r5]) (rest := [.int x3]) hFx (k_X7_reach l D cI cZ cT q H.size v_size v_at v_begin v_token v_told v_undos v_changed v_felt v_wents v_wish v_trace v_town ((1 : Int32) <<< (x1 &&& 31)) r5 r6 fu hr6) (cwV 2 hts gX7_byOne_X7_reach rfl rfl rfl (by decide +kernel) ⟨Nat.le_of_ble_eq_true rfl, Nat.le_of_ble_eq_true rfl⟩) hK hP hD hS hA [0, 1] rfl rfl 7 0 rfl rfl rfl hl.1 rfl (Nat.le_of_ble_eq_true rfl) dX7_byOne_55 ⟨Nat.zero_le _, Nat.zero_le _⟩ (fun H locs hP hS => ?_)
          refine lv_iload_n hx hb dX7_byOne_58 rfl (lv_at hl 2 rfl) ?_
          refine lv_ishr hx hb dX7_byOne_59 ?_
          refine lv_iconst (v := 1) hx hb dX7_byOne_60 (by decide) ?_
          refine lv_iand hx hb dX7_byOne_61 ?_
          refine lv_iconst (v := 1) hx hb dX7_byOne_62 (by decide) ?_
          refine lv_icmp_ne (tgt := 73) hx hb dX7_byOne_63 (by decide) (fun c7 => ?_) (fun c7 => ?_)
          · have h := (if_neg c7).symm.trans h
            refine lv_iconst (v := 0) hx hb dX7_byOne_73 (by decide) ?_
            refine lv_ior hx hb dX7_byOne_74 ?_
            refine lv_istore_n (lv' := [(3, .int (x3 ||| (0 : Int32))), (0, .ref (q 0)), (1, .int x1), (2, .int x2), (4, .int x4)]) hx hb dX7_byOne_75 rfl hl (by decide) rfl (fun ls hl => ?_)
            refine lv_iinc (v := x4 + 1) (lv' := [(4, .int (x4 + 1)), (3, .int (x3 ||| (0 : Int32))), (0, .ref (q 0)), (1, .int x1), (2, .int x2)]) hx hb dX7_byOne_76 hl (k := 4) rfl rfl (by decide) rfl (fun ls hl => ?_)
            refine lv_goto (tgt := 23) hx hb dX7_byOne_79 (by decide) ?_
            exact ih23 x1 x2 (x3 ||| (0 : Int32)) (x4 + 1) H locs ls h hP hD hS (lv_sub hl [2, 3, 4, 1, 0] rfl)
          · have h := (if_pos c7).symm.trans h
            refine lv_iconst (v := 1) hx hb dX7_byOne_66 (by decide) ?_
            refine lv_iload hx hb dX7_byOne_67 (lv_at hl 4 rfl) ?_
            refine lv_ishl hx hb dX7_byOne_69 ?_
            refine lv_goto (tgt := 74) hx hb dX7_byOne_70 (by decide) ?_
            refine lv_ior hx hb dX7_byOne_74 ?_
            refine lv_istore_n (lv' := [(3, .int (x3 ||| ((1 : Int32) <<< (x4 &&& 31)))), (0, .ref (q 0)), (1, .int x1), (2, .int x2), (4, .int x4)]) hx hb dX7_byOne_75 rfl hl (by decide) rfl (fun ls hl => ?_)
            refine lv_iinc (v := x4 + 1) (lv' := [(4, .int (x4 + 1)), (3, .int (x3 ||| ((1 : Int32) <<< (x4 &&& 31)))), (0, .ref (q 0)), (1, .int x1), (2, .int x2)]) hx hb dX7_byOne_76 hl (k := 4) rfl rfl (by decide) rfl (fun ls hl => ?_)
            refine lv_goto (tgt := 23) hx hb dX7_byOne_79 (by decide) ?_
            exact ih23 x1 x2 (x3 ||| ((1 : Int32) <<< (x4 &&& 31))) (x4 + 1) H locs ls h hP hD hS (lv_sub hl [2, 3, 4, 1, 0] rfl)
  have h := hf
  unfold f_X7_byOne at h
  obtain ⟨H, eH⟩ : ∃ H, H = s.heap := ⟨_, rfl⟩
  rw [← eH] at hP ⊢
  obtain ⟨locs, el⟩ : ∃ locs : List Loc, locs = [] := ⟨_, rfl⟩
  rw [← el] at hS ⊢
  have hS : va_S A s.heap H locs := by rw [eH]; exact hS
  refine lv_aload_n hx hb dX7_byOne_0 rfl (lv_at hl 0 rfl) ?_
  refine lv_iload_n hx hb dX7_byOne_1 rfl (lv_at hl 1 rfl) ?_
  obtain ⟨r8, hr8, h⟩ := xk_some h
  refine vx_VJ (As := [.int x1]) (rest := []) hFx (k_X7_isCorner l D cI cZ cT q H.size v_size v_at v_begin v_token v_told v_undos v_changed v_felt v_wents v_wish v_trace v_town x1 r8 hr8) (cwV 1 hts gX7_byOne_X7_isCorner rfl rfl rfl (by decide +kernel) ⟨Nat.le_of_ble_eq_true rfl, Nat.le_of_ble_eq_true rfl⟩) hK hP hD hS hA [0, 1] rfl rfl 7 0 rfl rfl rfl hl.1 rfl (Nat.le_of_ble_eq_true rfl) dX7_byOne_2 ⟨Nat.zero_le _, Nat.zero_le _⟩ (fun H locs hP hS => ?_)
  refine lv_if_eq (tgt := 16) hx hb dX7_byOne_5 (by decide) (fun c9 => ?_) (fun c9 => ?_)
  · have h := (if_pos c9).symm.trans h
    refine lv_iconst (v := (-1)) hx hb dX7_byOne_16 (by decide) ?_
    exact hret (-1 : Int32) () H locs _ ls (Option.some.inj h) hP hD hS dX7_byOne_17
  · have h := (if_neg c9).symm.trans h
    refine lv_aload_n hx hb dX7_byOne_8 rfl (lv_at hl 0 rfl) ?_
    refine lv_iload_n hx hb dX7_byOne_9 rfl (lv_at hl 2 rfl) ?_
    obtain ⟨r10, hr10, h⟩ := xk_some h
    refine vx_VJ (As := [.int x2]) (rest := []) hFx (k_X7_isCorner l D cI cZ cT q H.size v_size v_at v_begin v_token v_told v_undos v_changed v_felt v_wents v_wish v_trace v_town x2 r10 hr10) (cwV 1 hts gX7_byOne_X7_isCorner rfl rfl rfl (by decide +kernel) ⟨Nat.le_of_ble_eq_true rfl, Nat.le_of_ble_eq_true rfl⟩) hK hP hD hS hA [0, 1] rfl rfl 7 0 rfl rfl rfl hl.1 rfl (Nat.le_of_ble_eq_true rfl) dX7_byOne_10 ⟨Nat.zero_le _, Nat.zero_le _⟩ (fun H locs hP hS => ?_)
    refine lv_if_ne (tgt := 18) hx hb dX7_byOne_13 (by decide) (fun c11 => ?_) (fun c11 => ?_)
    · have h := (if_neg c11).symm.trans h
      refine lv_iconst (v := 0) hx hb dX7_byOne_18 (by decide) ?_
      refine lv_istore_n (lv' := [(3, .int (0 : Int32)), (0, .ref (q 0)), (1, .int x1), (2, .int x2)]) hx hb dX7_byOne_19 rfl hl (by decide) rfl (fun ls hl => ?_)
      refine lv_iconst (v := 0) hx hb dX7_byOne_20 (by decide) ?_
      refine lv_istore (lv' := [(4, .int (0 : Int32)), (3, .int (0 : Int32)), (0, .ref (q 0)), (1, .int x1), (2, .int x2)]) hx hb dX7_byOne_21 hl (by decide) rfl (fun ls hl => ?_)
      exact hL23 fu x1 x2 (0 : Int32) (0 : Int32) H locs ls h hP hD hS (lv_sub hl [2, 3, 4, 1, 0] rfl)
    · have h := (if_pos c11).symm.trans h
      refine lv_iconst (v := (-1)) hx hb dX7_byOne_16 (by decide) ?_
      exact hret (-1 : Int32) () H locs _ ls (Option.some.inj h) hP hD hS dX7_byOne_17
abbrev rm_X7_isFor : Room := { frames := 1, cells := 0, slots := 0, locals := 24 }
set_option maxHeartbeats 4000000 in
set_option maxRecDepth 100000 in
theorem k_X7_isFor (l : Launch) (D : va_G) (cI cZ cT : ClassId) (q : Nat → Nat) (sz : Nat) (v_size : Int32) (v_at : Int32) (v_begin : Int32) (v_token : Int32) (v_told : Int32) (v_undos : Int32) (v_changed : Int32) (v_felt : Int32) (v_wents : Int32) (v_wish : Int32) (v_trace : Int64) (v_town : Nat → Int32) (v_tried : Nat → Int32) (v_places : Nat → Int32) (v_spent : Nat → Int32) (x1 : Int32) (x2 : Int32) (x3 : Int32) (x4 : Int32) (res : R_X7_isFor) (fu : Nat) (hf : f_X7_isFor fu v_town v_tried v_places v_spent x1 x2 x3 x4 = some res) : Met l yX7_isFor wsX7_isFor rm_X7_isFor (cPre D (tyz cI cZ cT) [.ref (q 0), .int x1, .int x2, .int x3, .int x4] sz [oX7 q v_size v_at v_begin v_token v_told v_undos v_changed v_felt v_wents v_wish v_trace, rA (q 8) cI 64 v_town, rA (q 16) cI 8 v_tried, rA (q 17) cI 8 v_places, rA (q 18) cI 8 v_spent]) (cPi D (tyz cI cZ cT) (fun (r : Int32) (u : (Nat → Int32) × (Nat → Int32) × (Nat → Int32)) => (r, u) = res) (fun u => [oX7 q v_size v_at v_begin v_token v_told v_undos v_changed v_felt v_wents v_wish v_trace, rA (q 8) cI 64 v_town, rA (q 16) cI 8 u.1, rA (q 17) cI 8 u.2.1, rA (q 18) cI 8 u.2.2]) [oX7 q v_size v_at v_begin v_token v_told v_undos v_changed v_felt v_wents v_wish v_trace, rA (q 8) cI 64 v_town, rA (q 16) cI 8 v_tried, rA (q 17) cI 8 v_places, rA (q 18) cI 8 v_spent] sz) 0 0 (va_A [oX7 q v_size v_at v_begin v_token v_told v_undos v_changed v_felt v_wents v_wish v_trace, rA (q 8) cI 64 v_town, rA (q 16) cI 8 v_tried, rA (q 17) cI 8 v_places, rA (q 18) cI 8 v_spent] sz) := by
  refine vx_meth_z (by decide) rfl (Nat.le_of_ble_eq_true rfl) ?_
  intro p e s m args below meth c A Q hx hb hml hown hts hK hP hD hA hS hret ls hl
  have hown : s.vm.findClass RX7 = some m.cls := hown
  have hl : lv_has ls 10 [(0, .ref (q 0)), (1, .int x1), (2, .int x2), (3, .int x3), (4, .int x4)] := hl
  have hFx : CallFix p m c cX7_isFor 10 s args wsX7_isFor RX7 := ⟨hx, hb, hml, hown, hts⟩
  have lk34 := hts (.fieldLink RX7 34 "FogGuidesModel" "tried" "[I") (by decide +kernel)
  have iw7 : ∀ w ∈ u_ws RX7 TX7 34, w ∈ wsX7_isFor := by decide +kernel
  have lk16 := hts (.fieldLink RX7 16 "FogGuidesModel" "town" "[I") (by decide +kernel)
  have lk37 := hts (.fieldLink RX7 37 "FogGuidesModel" "places" "[I") (by decide +kernel)
  have lk40 := hts (.fieldLink RX7 40 "FogGuidesModel" "spent" "[I") (by decide +kernel)
  have hL46 : ∀ (n46 : Nat), ∀ (v_tried : (Nat → Int32)) (v_places : (Nat → Int32)) (v_spent : (Nat → Int32)) (x1 : Int32) (x3 : Int32) (x4 : Int32) (x5 : Int32) (x6 : Int32) (x7 : Int32) (H : Heap) (locs : List Loc) (ls : Array Slot), f_X7_isFor_L46 fu n46 v_town v_tried v_places v_spent x1 x3 x4 x5 x6 x7 = some res → va_P D vwCl [oX7 q v_size v_at v_begin v_token v_told v_undos v_changed v_felt v_wents v_wish v_trace, rA (q 8) cI 64 v_town, rA (q 16) cI 8 v_tried, rA (q 17) cI 8 v_places, rA (q 18) cI 8 v_spent] H → va_D A [oX7 q v_size v_at v_begin v_token v_told v_undos v_changed v_felt v_wents v_wish v_trace, rA (q 8) cI 64 v_town, rA (q 16) cI 8 v_tried, rA (q 17) cI 8 v_places, rA (q 18) cI 8 v_spent] → va_S A s.heap H locs → lv_has ls 10 [(0, .ref (q 0)), (1, .int x1), (3, .int x3), (4, .int x4), (5, .int x5), (6, .int x6), (7, .int x7)] → W p l e rm_X7_isFor s m args below meth c H locs 0 0 Q (F0 m 46 ls []) := by
    intro n46
    induction n46 with
    | zero =>
      intro v_tried v_places v_spent x1 x3 x4 x5 x6 x7 H locs ls h hP hD hS hl
      cases (show (none : Option R_X7_isFor) = some res from h)
    | succ n46 ih46 =>
      intro v_tried v_places v_spent x1 x3 x4 x5 x6 x7 H locs ls h hP hD hS hl
      have h : f_X7_isFor_L46b fu (f_X7_isFor_L46 fu n46) v_town v_tried v_places v_spent x1 x3 x4 x5 x6 x7 = some res := h
      unfold f_X7_isFor_L46b at h
      refine lv_iload hx hb dX7_isFor_46 (lv_at hl 4 rfl) ?_
      refine lv_if_lt (tgt := 258) hx hb dX7_isFor_48 (by decide) (fun c1 => ?_) (fun c1 => ?_)
      · have h := (if_pos c1).symm.trans h
        refine lv_iload hx hb dX7_isFor_258 (lv_at hl 6 rfl) ?_
        obtain ⟨hz2, h⟩ := xz_some h
        exact hret x7 (v_tried, v_places, v_spent) H locs _ ls hz2 (Option.some.inj h) hP hD hS dX7_isFor_260
      · have h := (if_neg c1).symm.trans h
        refine lv_iload hx hb dX7_isFor_51 (lv_at hl 6 rfl) ?_
        refine lv_if_ne (tgt := 258) hx hb dX7_isFor_53 (by decide) (fun c3 => ?_) (fun c3 => ?_)
        · have h := (if_neg c3).symm.trans h
          refine lv_iload hx hb dX7_isFor_258 (lv_at hl 6 rfl) ?_
          obtain ⟨hz4, h⟩ := xz_some h
          exact hret x7 (v_tried, v_places, v_spent) H locs _ ls hz4 (Option.some.inj h) hP hD hS dX7_isFor_260
        · have h := (if_pos c3).symm.trans h
          refine lv_aload_n hx hb dX7_isFor_56 rfl (lv_at hl 0 rfl) ?_
          refine va_get (C := RX7) (T := TX7) (N := 34) (v := .ref (q 16)) hx hb hts iw7 hown hK hP 0 rfl rfl 15 (Nat.le_of_ble_eq_true rfl) lk34 (fun _ h9 => h9) rfl dX7_isFor_57 ?_
          refine lv_iload hx hb dX7_isFor_60 (lv_at hl 4 rfl) ?_
          refine lv_dup2_11 hx hb dX7_isFor_62 rfl rfl ?_
          obtain ⟨hi5, h⟩ := xb_some h
          refine va_iald hx hb hK hP 2 0 rfl rfl hi5 dX7_isFor_63 ?_
          refine lv_iconst (v := 1) hx hb dX7_isFor_64 (by decide) ?_
          refine lv_iadd hx hb dX7_isFor_65 ?_
          obtain ⟨hi6, h⟩ := xb_some h
          refine va_iast hx hb hK hP hD hS 2 0 rfl rfl hi6 dX7_isFor_66 (fun H locs hP hD hS => ?_)
          have hP : va_P D vwCl [oX7 q v_size v_at v_begin v_token v_told v_undos v_changed v_felt v_wents v_wish v_trace, rA (q 8) cI 64 v_town, rA (q 16) cI 8 (upd v_tried x5.toNatClampNeg ((v_tried x5.toNatClampNeg) + (1 : Int32))), rA (q 17) cI 8 v_places, rA (q 18) cI 8 v_spent] H := hP
          have hD : va_D A [oX7 q v_size v_at v_begin v_token v_told v_undos v_changed v_felt v_wents v_wish v_trace, rA (q 8) cI 64 v_town, rA (q 16) cI 8 (upd v_tried x5.toNatClampNeg ((v_tried x5.toNatClampNeg) + (1 : Int32))), rA (q 17) cI 8 v_places, rA (q 18) cI 8 v_spent] := hD
          refine lv_aload_n hx hb dX7_isFor_67 rfl (lv_at hl 0 rfl) ?_
          refine va_get (C := RX7) (T := TX7) (N := 34) (v := .ref (q 16)) hx hb hts iw7 hown hK hP 0 rfl rfl 15 (Nat.le_of_ble_eq_true rfl) lk34 (fun _ h9 => h9) rfl dX7_isFor_68 ?_
          refine lv_iload hx hb dX7_isFor_71 (lv_at hl 4 rfl) ?_
          obtain ⟨hi7, h⟩ := xb_some h
          refine va_iald hx hb hK hP 2 0 rfl rfl hi7 dX7_isFor_73 ?_
          refine lv_istore (lv' := [(8, .int ((upd v_tried x5.toNatClampNeg ((v_tried x5.toNatClampNeg) + (1 : Int32))) x5.toNatClampNeg)), (0, .ref (q 0)), (1, .int x1), (3, .int x3), (4, .int x4), (5, .int x5), (6, .int x6), (7, .int x7)]) hx hb dX7_isFor_74 hl (by decide) rfl (fun ls hl => ?_)
          refine lv_iload hx hb dX7_isFor_76 (lv_at hl 0 rfl) ?_
          refine lv_aload_n hx hb dX7_isFor_78 rfl (lv_at hl 1 rfl) ?_
          refine va_get (C := RX7) (T := TX7) (N := 34) (v := .ref (q 8)) hx hb hts iw7 hown hK hP 0 rfl rfl 7 (Nat.le_of_ble_eq_true rfl) lk16 (fun _ h9 => h9) rfl dX7_isFor_79 ?_
          refine lv_iconst (v := 1) hx hb dX7_isFor_82 (by decide) ?_
          obtain ⟨hi8, h⟩ := xb_some h
          refine va_iald hx hb hK hP 1 0 rfl rfl hi8 dX7_isFor_83 ?_
          refine lv_icmp_ne (tgt := 109) hx hb dX7_isFor_84 (by decide) (fun c9 => ?_) (fun c9 => ?_)
          · have h := (if_neg c9).symm.trans h
            refine lv_aload_n hx hb dX7_isFor_109 rfl (lv_at hl 1 rfl) ?_
            refine lv_iload hx hb dX7_isFor_110 (lv_at hl 0 rfl) ?_
            refine lv_aload_n hx hb dX7_isFor_112 rfl (lv_at hl 1 rfl) ?_
            refine va_get (C := RX7) (T := TX7) (N := 34) (v := .ref (q 17)) hx hb hts iw7 hown hK hP 0 rfl rfl 16 (Nat.le_of_ble_eq_true rfl) lk37 (fun _ h9 => h9) rfl dX7_isFor_113 ?_
            refine lv_iload hx hb dX7_isFor_116 (lv_at hl 5 rfl) ?_
            obtain ⟨hi10, h⟩ := xb_some h
            refine va_iald hx hb hK hP 3 0 rfl rfl hi10 dX7_isFor_118 ?_
            obtain ⟨r11, hr11, h⟩ := xk_some h
            refine vx_VJ (As := [.int ((upd v_tried x5.toNatClampNeg ((v_tried x5.toNatClampNeg) + (1 : Int32))) x5.toNatClampNeg), .int (v_places x5.toNatClampNeg)]) (rest := []) hFx (k_X7_over l D cI cZ cT q H.size v_size v_at v_begin v_token v_told v_undos v_changed v_felt v_wents v_wish v_trace v_town ((upd v_tried x5.toNatClampNeg ((v_tried x5.toNatClampNeg) + (1 : Int32))) x5.toNatClampNeg) (v_places x5.toNatClampNeg) r11 hr11) (cwV 2 hts gX7_isFor_X7_over rfl rfl rfl (by decide +kernel) ⟨Nat.le_of_ble_eq_true rfl, Nat.le_of_ble_eq_true rfl⟩) hK hP hD hS hA [0, 1] rfl rfl 7 0 rfl rfl rfl hl.1 rfl (Nat.le_of_ble_eq_true rfl) dX7_isFor_119 ⟨Nat.zero_le _, Nat.zero_le _⟩ (fun H locs hP hS => ?_)
            refine lv_istore (lv' := [(9, .int r11), (8, .int ((upd v_tried x5.toNatClampNeg ((v_tried x5.toNatClampNeg) + (1 : Int32))) x5.toNatClampNeg)), (0, .ref (q 0)), (1, .int x1), (3, .int x3), (4, .int x4), (5, .int x5), (6, .int x6), (7, .int x7)]) hx hb dX7_isFor_122 hl (by decide) rfl (fun ls hl => ?_)
            refine lv_iload hx hb dX7_isFor_124 (lv_at hl 0 rfl) ?_
            refine lv_bipush (v := (-9)) hx hb dX7_isFor_126 (by decide) ?_
            refine lv_icmp_eq (tgt := 255) hx hb dX7_isFor_128 (by decide) (fun c12 => ?_) (fun c12 => ?_)
            · have h := (if_pos c12).symm.trans h
              refine lv_goto (tgt := 46) hx hb dX7_isFor_255 (by decide) ?_
              exact ih46 (upd v_tried x5.toNatClampNeg ((v_tried x5.toNatClampNeg) + (1 : Int32))) v_places v_spent x1 x3 x4 x5 x6 x7 H locs ls h hP hD hS (lv_sub hl [2, 3, 4, 5, 6, 7, 8] rfl)
            · have h := (if_neg c12).symm.trans h
              refine lv_aload_n hx hb dX7_isFor_131 rfl (lv_at hl 2 rfl) ?_
              refine lv_iload_n hx hb dX7_isFor_132 rfl (lv_at hl 3 rfl) ?_
              obtain ⟨r13, hr13, h⟩ := xk_some h
              refine vx_VJ (As := [.int x1]) (rest := []) hFx (k_X7_known l D cI cZ cT q H.size v_size v_at v_begin v_token v_told v_undos v_changed v_felt v_wents v_wish v_trace v_town x1 r13 hr13) (cwV 1 hts gX7_isFor_X7_known rfl rfl rfl (by decide +kernel) ⟨Nat.le_of_ble_eq_true rfl, Nat.le_of_ble_eq_true rfl⟩) hK hP hD hS hA [0, 1] rfl rfl 7 0 rfl rfl rfl hl.1 rfl (Nat.le_of_ble_eq_true rfl) dX7_isFor_133 ⟨Nat.zero_le _, Nat.zero_le _⟩ (fun H locs hP hS => ?_)
              refine lv_iload hx hb dX7_isFor_136 (lv_at hl 1 rfl) ?_
              refine lv_ishr hx hb dX7_isFor_138 ?_
              refine lv_iconst (v := 1) hx hb dX7_isFor_139 (by decide) ?_
              refine lv_iand hx hb dX7_isFor_140 ?_
              refine lv_iconst (v := 1) hx hb dX7_isFor_141 (by decide) ?_
              refine lv_icmp_ne (tgt := 255) hx hb dX7_isFor_142 (by decide) (fun c14 => ?_) (fun c14 => ?_)
              · have h := (if_neg c14).symm.trans h
                refine lv_goto (tgt := 46) hx hb dX7_isFor_255 (by decide) ?_
                exact ih46 (upd v_tried x5.toNatClampNeg ((v_tried x5.toNatClampNeg) + (1 : Int32))) v_places v_spent x1 x3 x4 x5 x6 x7 H locs ls h hP hD hS (lv_sub hl [2, 3, 4, 5, 6, 7, 8] rfl)
              · have h := (if_pos c14).symm.trans h
                refine lv_iload hx hb dX7_isFor_145 (lv_at hl 7 rfl) ?_
                refine lv_iload hx hb dX7_isFor_147 (lv_at hl 0 rfl) ?_
                refine lv_ishr hx hb dX7_isFor_149 ?_
                refine lv_iconst (v := 1) hx hb dX7_isFor_150 (by decide) ?_
                refine lv_iand hx hb dX7_isFor_151 ?_
                refine lv_if_ne (tgt := 255) hx hb dX7_isFor_152 (by decide) (fun c15 => ?_) (fun c15 => ?_)
                · have h := (if_neg c15).symm.trans h
                  refine lv_goto (tgt := 46) hx hb dX7_isFor_255 (by decide) ?_
                  exact ih46 (upd v_tried x5.toNatClampNeg ((v_tried x5.toNatClampNeg) + (1 : Int32))) v_places v_spent x1 x3 x4 x5 x6 x7 H locs ls h hP hD hS (lv_sub hl [2, 3, 4, 5, 6, 7, 8] rfl)
                · have h := (if_pos c15).symm.trans h
                  refine lv_aload_n hx hb dX7_isFor_155 rfl (lv_at hl 2 rfl) ?_
                  refine va_get (C := RX7) (T := TX7) (N := 34) (v := .ref (q 17)) hx hb hts iw7 hown hK hP 0 rfl rfl 16 (Nat.le_of_ble_eq_true rfl) lk37 (fun _ h9 => h9) rfl dX7_isFor_156 ?_
                  refine lv_iload hx hb dX7_isFor_159 (lv_at hl 6 rfl) ?_
                  obtain ⟨hi16, h⟩ := xb_some h
                  refine va_iald hx hb hK hP 3 0 rfl rfl hi16 dX7_isFor_161 ?_
                  refine lv_iload_n hx hb dX7_isFor_162 rfl (lv_at hl 4 rfl) ?_
                  refine lv_icmp_eq (tgt := 255) hx hb dX7_isFor_163 (by decide) (fun c17 => ?_) (fun c17 => ?_)
                  · have h := (if_pos c17).symm.trans h
                    refine lv_goto (tgt := 46) hx hb dX7_isFor_255 (by decide) ?_
                    exact ih46 (upd v_tried x5.toNatClampNeg ((v_tried x5.toNatClampNeg) + (1 : Int32))) v_places v_spent x1 x3 x4 x5 x6 x7 H locs ls h hP hD hS (lv_sub hl [2, 3, 4, 5, 6, 7, 8] rfl)
                  · have h := (if_neg c17).symm.trans h
                    refine lv_iinc (v := x5 + 1) (lv' := [(5, .int (x5 + 1)), (9, .int r11), (8, .int ((upd v_tried x5.toNatClampNeg ((v_tried x5.toNatClampNeg) + (1 : Int32))) x5.toNatClampNeg)), (0, .ref (q 0)), (1, .int x1), (3, .int x3), (4, .int x4), (6, .int x6), (7, .int x7)]) hx hb dX7_isFor_166 hl (k := 6) rfl rfl (by decide) rfl (fun ls hl => ?_)
                    refine lv_aload_n hx hb dX7_isFor_169 rfl (lv_at hl 3 rfl) ?_
                    refine va_get (C := RX7) (T := TX7) (N := 34) (v := .ref (q 17)) hx hb hts iw7 hown hK hP 0 rfl rfl 16 (Nat.le_of_ble_eq_true rfl) lk37 (fun _ h9 => h9) rfl dX7_isFor_170 ?_
                    refine lv_iload hx hb dX7_isFor_173 (lv_at hl 0 rfl) ?_
                    refine lv_iload hx hb dX7_isFor_175 (lv_at hl 1 rfl) ?_
                    obtain ⟨hi18, h⟩ := xb_some h
                    refine va_iast hx hb hK hP hD hS 3 0 rfl rfl hi18 dX7_isFor_177 (fun H locs hP hD hS => ?_)
                    have hP : va_P D vwCl [oX7 q v_size v_at v_begin v_token v_told v_undos v_changed v_felt v_wents v_wish v_trace, rA (q 8) cI 64 v_town, rA (q 16) cI 8 (upd v_tried x5.toNatClampNeg ((v_tried x5.toNatClampNeg) + (1 : Int32))), rA (q 17) cI 8 (upd v_places (x5 + 1).toNatClampNeg r11), rA (q 18) cI 8 v_spent] H := hP
                    have hD : va_D A [oX7 q v_size v_at v_begin v_token v_told v_undos v_changed v_felt v_wents v_wish v_trace, rA (q 8) cI 64 v_town, rA (q 16) cI 8 (upd v_tried x5.toNatClampNeg ((v_tried x5.toNatClampNeg) + (1 : Int32))), rA (q 17) cI 8 (upd v_places (x5 + 1).toNatClampNeg r11), rA (q 18) cI 8 v_spent] := hD
                    refine lv_aload_n hx hb dX7_isFor_178 rfl (lv_at hl 3 rfl) ?_
                    refine va_get (C := RX7) (T := TX7) (N := 34) (v := .ref (q 18)) hx hb hts iw7 hown hK hP 0 rfl rfl 17 (Nat.le_of_ble_eq_true rfl) lk40 (fun _ h9 => h9) rfl dX7_isFor_179 ?_
                    refine lv_iload hx hb dX7_isFor_182 (lv_at hl 0 rfl) ?_
                    refine lv_aload_n hx hb dX7_isFor_184 rfl (lv_at hl 3 rfl) ?_
                    refine va_get (C := RX7) (T := TX7) (N := 34) (v := .ref (q 18)) hx hb hts iw7 hown hK hP 0 rfl rfl 17 (Nat.le_of_ble_eq_true rfl) lk40 (fun _ h9 => h9) rfl dX7_isFor_185 ?_
                    refine lv_iload hx hb dX7_isFor_188 (lv_at hl 0 rfl) ?_
                    refine lv_iconst (v := 1) hx hb dX7_isFor_190 (by decide) ?_
                    refine lv_isub hx hb dX7_isFor_191 ?_
                    obtain ⟨hi19, h⟩ := xb_some h
                    refine va_iald hx hb hK hP 4 0 rfl rfl hi19 dX7_isFor_192 ?_
                    refine lv_aload_n hx hb dX7_isFor_193 rfl (lv_at hl 3 rfl) ?_
                    refine lv_iload hx hb dX7_isFor_194 (lv_at hl 2 rfl) ?_
                    obtain ⟨r20, hr20, h⟩ := xk_some h
                    refine vx_VJ (As := [.int ((upd v_tried x5.toNatClampNeg ((v_tried x5.toNatClampNeg) + (1 : Int32))) x5.toNatClampNeg)]) (rest := [.int (v_spent ((x5 + 1) - (1 : Int32)).toNatClampNeg), .int (x5 + 1), .ref (q 18)]) hFx (k_X7_length l D cI cZ cT q H.size v_size v_at v_begin v_token v_told v_undos v_changed v_felt v_wents v_wish v_trace v_town ((upd v_tried x5.toNatClampNeg ((v_tried x5.toNatClampNeg) + (1 : Int32))) x5.toNatClampNeg) r20 hr20) (cwV 1 hts gX7_isFor_X7_length rfl rfl rfl (by decide +kernel) ⟨Nat.le_of_ble_eq_true rfl, Nat.le_of_ble_eq_true rfl⟩) hK hP hD hS hA [0, 1] rfl rfl 7 0 rfl rfl rfl hl.1 rfl (Nat.le_of_ble_eq_true rfl) dX7_isFor_196 ⟨Nat.zero_le _, Nat.zero_le _⟩ (fun H locs hP hS => ?_)
                    refine lv_iadd hx hb dX7_isFor_199 ?_
                    refine lv_aload_n hx hb dX7_isFor_200 rfl (lv_at hl 3 rfl) ?_
                    refine lv_iload_n hx hb dX7_isFor_201 rfl (lv_at hl 4 rfl) ?_
                    obtain ⟨r21, hr21, h⟩ := xk_some h
                    refine vx_VJ (As := [.int x1]) (rest := [.int ((v_spent ((x5 + 1) - (1 : Int32)).toNatClampNeg) + r20), .int (x5 + 1), .ref (q 18)]) hFx (k_X7_pace l D cI cZ cT q H.size v_size v_at v_begin v_token v_told v_undos v_changed v_felt v_wents v_wish v_trace v_town x1 r21 hr21) (cwV 1 hts gX7_isFor_X7_pace rfl rfl rfl (by decide +kernel) ⟨Nat.le_of_ble_eq_true rfl, Nat.le_of_ble_eq_true rfl⟩) hK hP hD hS hA [0, 1] rfl rfl 7 0 rfl rfl rfl hl.1 rfl (Nat.le_of_ble_eq_true rfl) dX7_isFor_202 ⟨Nat.zero_le _, Nat.zero_le _⟩ (fun H locs hP hS => ?_)
                    refine lv_iadd hx hb dX7_isFor_205 ?_
                    obtain ⟨hi22, h⟩ := xb_some h
                    refine va_iast hx hb hK hP hD hS 4 0 rfl rfl hi22 dX7_isFor_206 (fun H locs hP hD hS => ?_)
                    have hP : va_P D vwCl [oX7 q v_size v_at v_begin v_token v_told v_undos v_changed v_felt v_wents v_wish v_trace, rA (q 8) cI 64 v_town, rA (q 16) cI 8 (upd v_tried x5.toNatClampNeg ((v_tried x5.toNatClampNeg) + (1 : Int32))), rA (q 17) cI 8 (upd v_places (x5 + 1).toNatClampNeg r11), rA (q 18) cI 8 (upd v_spent (x5 + 1).toNatClampNeg (((v_spent ((x5 + 1) - (1 : Int32)).toNatClampNeg) + r20) + r21))] H := hP
                    have hD : va_D A [oX7 q v_size v_at v_begin v_token v_told v_undos v_changed v_felt v_wents v_wish v_trace, rA (q 8) cI 64 v_town, rA (q 16) cI 8 (upd v_tried x5.toNatClampNeg ((v_tried x5.toNatClampNeg) + (1 : Int32))), rA (q 17) cI 8 (upd v_places (x5 + 1).toNatClampNeg r11), rA (q 18) cI 8 (upd v_spent (x5 + 1).toNatClampNeg (((v_spent ((x5 + 1) - (1 : Int32)).toNatClampNeg) + r20) + r21))] := hD
                    refine lv_aload_n hx hb dX7_isFor_207 rfl (lv_at hl 3 rfl) ?_
                    refine va_get (C := RX7) (T := TX7) (N := 34) (v := .ref (q 16)) hx hb hts iw7 hown hK hP 0 rfl rfl 15 (Nat.le_of_ble_eq_true rfl) lk34 (fun _ h9 => h9) rfl dX7_isFor_208 ?_
                    refine lv_iload hx hb dX7_isFor_211 (lv_at hl 0 rfl) ?_
                    refine lv_iconst (v := (-1)) hx hb dX7_isFor_213 (by decide) ?_
                    obtain ⟨hi23, h⟩ := xb_some h
                    refine va_iast hx hb hK hP hD hS 2 0 rfl rfl hi23 dX7_isFor_214 (fun H locs hP hD hS => ?_)
                    have hP : va_P D vwCl [oX7 q v_size v_at v_begin v_token v_told v_undos v_changed v_felt v_wents v_wish v_trace, rA (q 8) cI 64 v_town, rA (q 16) cI 8 (upd (upd v_tried x5.toNatClampNeg ((v_tried x5.toNatClampNeg) + (1 : Int32))) (x5 + 1).toNatClampNeg (-1 : Int32)), rA (q 17) cI 8 (upd v_places (x5 + 1).toNatClampNeg r11), rA (q 18) cI 8 (upd v_spent (x5 + 1).toNatClampNeg (((v_spent ((x5 + 1) - (1 : Int32)).toNatClampNeg) + r20) + r21))] H := hP
                    have hD : va_D A [oX7 q v_size v_at v_begin v_token v_told v_undos v_changed v_felt v_wents v_wish v_trace, rA (q 8) cI 64 v_town, rA (q 16) cI 8 (upd (upd v_tried x5.toNatClampNeg ((v_tried x5.toNatClampNeg) + (1 : Int32))) (x5 + 1).toNatClampNeg (-1 : Int32)), rA (q 17) cI 8 (upd v_places (x5 + 1).toNatClampNeg r11), rA (q 18) cI 8 (upd v_spent (x5 + 1).toNatClampNeg (((v_spent ((x5 + 1) - (1 : Int32)).toNatClampNeg) + r20) + r21))] := hD
                    refine lv_iload hx hb dX7_isFor_215 (lv_at hl 7 rfl) ?_
                    refine lv_iconst (v := 1) hx hb dX7_isFor_217 (by decide) ?_
                    refine lv_iload hx hb dX7_isFor_218 (lv_at hl 1 rfl) ?_
                    refine lv_ishl hx hb dX7_isFor_220 ?_
                    refine lv_ior hx hb dX7_isFor_221 ?_
                    refine lv_istore (lv' := [(6, .int (x6 ||| ((1 : Int32) <<< (r11 &&& 31)))), (5, .int (x5 + 1)), (9, .int r11), (8, .int ((upd v_tried x5.toNatClampNeg ((v_tried x5.toNatClampNeg) + (1 : Int32))) x5.toNatClampNeg)), (0, .ref (q 0)), (1, .int x1), (3, .int x3), (4, .int x4), (7, .int x7)]) hx hb dX7_isFor_222 hl (by decide) rfl (fun ls hl => ?_)
                    refine lv_iload hx hb dX7_isFor_224 (lv_at hl 2 rfl) ?_
                    refine lv_iload_n hx hb dX7_isFor_226 rfl (lv_at hl 6 rfl) ?_
                    refine lv_icmp_ne (tgt := 252) hx hb dX7_isFor_227 (by decide) (fun c24 => ?_) (fun c24 => ?_)
                    · have h := (if_neg c24).symm.trans h
                      refine lv_iconst (v := 0) hx hb dX7_isFor_252 (by decide) ?_
                      refine lv_istore (lv' := [(7, .int (0 : Int32)), (6, .int (x6 ||| ((1 : Int32) <<< (r11 &&& 31)))), (5, .int (x5 + 1)), (9, .int r11), (8, .int ((upd v_tried x5.toNatClampNeg ((v_tried x5.toNatClampNeg) + (1 : Int32))) x5.toNatClampNeg)), (0, .ref (q 0)), (1, .int x1), (3, .int x3), (4, .int x4)]) hx hb dX7_isFor_253 hl (by decide) rfl (fun ls hl => ?_)
                      refine lv_goto (tgt := 46) hx hb dX7_isFor_255 (by decide) ?_
                      exact ih46 (upd (upd v_tried x5.toNatClampNeg ((v_tried x5.toNatClampNeg) + (1 : Int32))) (x5 + 1).toNatClampNeg (-1 : Int32)) (upd v_places (x5 + 1).toNatClampNeg r11) (upd v_spent (x5 + 1).toNatClampNeg (((v_spent ((x5 + 1) - (1 : Int32)).toNatClampNeg) + r20) + r21)) x1 x3 x4 (x5 + 1) (x6 ||| ((1 : Int32) <<< (r11 &&& 31))) (0 : Int32) H locs ls h hP hD hS (lv_sub hl [5, 6, 7, 8, 2, 1, 0] rfl)
                    · have h := (if_pos c24).symm.trans h
                      refine lv_aload_n hx hb dX7_isFor_230 rfl (lv_at hl 4 rfl) ?_
                      refine lv_iload_n hx hb dX7_isFor_231 rfl (lv_at hl 5 rfl) ?_
                      obtain ⟨r25, hr25, h⟩ := xk_some h
                      refine vx_VJ (As := [.int x1]) (rest := []) hFx (k_X7_fee l D cI cZ cT q H.size v_size v_at v_begin v_token v_told v_undos v_changed v_felt v_wents v_wish v_trace v_town x1 r25 hr25) (cwV 1 hts gX7_isFor_X7_fee rfl rfl rfl (by decide +kernel) ⟨Nat.le_of_ble_eq_true rfl, Nat.le_of_ble_eq_true rfl⟩) hK hP hD hS hA [0, 1] rfl rfl 7 0 rfl rfl rfl hl.1 rfl (Nat.le_of_ble_eq_true rfl) dX7_isFor_232 ⟨Nat.zero_le _, Nat.zero_le _⟩ (fun H locs hP hS => ?_)
                      refine lv_aload_n hx hb dX7_isFor_235 rfl (lv_at hl 4 rfl) ?_
                      refine va_get (C := RX7) (T := TX7) (N := 34) (v := .ref (q 18)) hx hb hts iw7 hown hK hP 0 rfl rfl 17 (Nat.le_of_ble_eq_true rfl) lk40 (fun _ h9 => h9) rfl dX7_isFor_236 ?_
                      refine lv_iload hx hb dX7_isFor_239 (lv_at hl 1 rfl) ?_
                      obtain ⟨hi26, h⟩ := xb_some h
                      refine va_iald hx hb hK hP 4 0 rfl rfl hi26 dX7_isFor_241 ?_
                      refine lv_imul hx hb dX7_isFor_242 ?_
                      refine lv_iload hx hb dX7_isFor_243 (lv_at hl 7 rfl) ?_
                      refine lv_icmp_ne (tgt := 252) hx hb dX7_isFor_245 (by decide) (fun c27 => ?_) (fun c27 => ?_)
                      · have h := (if_neg c27).symm.trans h
                        refine lv_iconst (v := 0) hx hb dX7_isFor_252 (by decide) ?_
                        refine lv_istore (lv' := [(7, .int (0 : Int32)), (6, .int (x6 ||| ((1 : Int32) <<< (r11 &&& 31)))), (5, .int (x5 + 1)), (9, .int r11), (8, .int ((upd v_tried x5.toNatClampNeg ((v_tried x5.toNatClampNeg) + (1 : Int32))) x5.toNatClampNeg)), (0, .ref (q 0)), (1, .int x1), (3, .int x3), (4, .int x4)]) hx hb dX7_isFor_253 hl (by decide) rfl (fun ls hl => ?_)
                        refine lv_goto (tgt := 46) hx hb dX7_isFor_255 (by decide) ?_
                        exact ih46 (upd (upd v_tried x5.toNatClampNeg ((v_tried x5.toNatClampNeg) + (1 : Int32))) (x5 + 1).toNatClampNeg (-1 : Int32)) (upd v_places (x5 + 1).toNatClampNeg r11) (upd v_spent (x5 + 1).toNatClampNeg (((v_spent ((x5 + 1) - (1 : Int32)).toNatClampNeg) + r20) + r21)) x1 x3 x4 (x5 + 1) (x6 ||| ((1 : Int32) <<< (r11 &&& 31))) (0 : Int32) H locs ls h hP hD hS (lv_sub hl [5, 6, 7, 8, 2, 1, 0] rfl)
                      · have h := (if_pos c27).symm.trans h
                        refine lv_iconst (v := 1) hx hb dX7_isFor_248 (by decide) ?_
                        refine lv_goto (tgt := 253) hx hb dX7_isFor_249 (by decide) ?_
                        refine lv_istore (lv' := [(7, .int (1 : Int32)), (6, .int (x6 ||| ((1 : Int32) <<< (r11 &&& 31)))), (5, .int (x5 + 1)), (9, .int r11), (8, .int ((upd v_tried x5.toNatClampNeg ((v_tried x5.toNatClampNeg) + (1 : Int32))) x5.toNatClampNeg)), (0, .ref (q 0)), (1, .int x1), (3, .int x3), (4, .int x4)]) hx hb dX7_isFor_253 hl (by decide) rfl (fun ls hl => ?_)
                        refine lv_goto (tgt := 46) hx hb dX7_isFor_255 (by decide) ?_
                        exact ih46 (upd (upd v_tried x5.toNatClampNeg ((v_tried x5.toNatClampNeg) + (1 : Int32))) (x5 + 1).toNatClampNeg (-1 : Int32)) (upd v_places (x5 + 1).toNatClampNeg r11) (upd v_spent (x5 + 1).toNatClampNeg (((v_spent ((x5 + 1) - (1 : Int32)).toNatClampNeg) + r20) + r21)) x1 x3 x4 (x5 + 1) (x6 ||| ((1 : Int32) <<< (r11 &&& 31))) (1 : Int32) H locs ls h hP hD hS (lv_sub hl [5, 6, 7, 8, 2, 1, 0] rfl)
          · have h := (if_pos c9).symm.trans h
            refine lv_iload hx hb dX7_isFor_87 (lv_at hl 6 rfl) ?_
            refine lv_iconst (v := 1) hx hb dX7_isFor_89 (by decide) ?_
            refine lv_aload_n hx hb dX7_isFor_90 rfl (lv_at hl 1 rfl) ?_
            refine va_get (C := RX7) (T := TX7) (N := 34) (v := .ref (q 17)) hx hb hts iw7 hown hK hP 0 rfl rfl 16 (Nat.le_of_ble_eq_true rfl) lk37 (fun _ h9 => h9) rfl dX7_isFor_91 ?_
            refine lv_iload hx hb dX7_isFor_94 (lv_at hl 5 rfl) ?_
            obtain ⟨hi28, h⟩ := xb_some h
            refine va_iald hx hb hK hP 3 0 rfl rfl hi28 dX7_isFor_96 ?_
            refine lv_ishl hx hb dX7_isFor_97 ?_
            refine lv_iconst (v := (-1)) hx hb dX7_isFor_98 (by decide) ?_
            refine lv_ixor hx hb dX7_isFor_99 ?_
            refine lv_iand hx hb dX7_isFor_100 ?_
            refine lv_istore (lv' := [(6, .int (x6 &&& (((1 : Int32) <<< ((v_places x5.toNatClampNeg) &&& 31)) ^^^ (-1 : Int32)))), (8, .int ((upd v_tried x5.toNatClampNeg ((v_tried x5.toNatClampNeg) + (1 : Int32))) x5.toNatClampNeg)), (0, .ref (q 0)), (1, .int x1), (3, .int x3), (4, .int x4), (5, .int x5), (7, .int x7)]) hx hb dX7_isFor_101 hl (by decide) rfl (fun ls hl => ?_)
            refine lv_iinc (v := x5 + (-1)) (lv' := [(5, .int (x5 + (-1))), (6, .int (x6 &&& (((1 : Int32) <<< ((v_places x5.toNatClampNeg) &&& 31)) ^^^ (-1 : Int32)))), (8, .int ((upd v_tried x5.toNatClampNeg ((v_tried x5.toNatClampNeg) + (1 : Int32))) x5.toNatClampNeg)), (0, .ref (q 0)), (1, .int x1), (3, .int x3), (4, .int x4), (7, .int x7)]) hx hb dX7_isFor_103 hl (k := 6) rfl rfl (by decide) rfl (fun ls hl => ?_)
            refine lv_goto (tgt := 255) hx hb dX7_isFor_106 (by decide) ?_
            refine lv_goto (tgt := 46) hx hb dX7_isFor_255 (by decide) ?_
            exact ih46 (upd v_tried x5.toNatClampNeg ((v_tried x5.toNatClampNeg) + (1 : Int32))) v_places v_spent x1 x3 x4 (x5 + (-1)) (x6 &&& (((1 : Int32) <<< ((v_places x5.toNatClampNeg) &&& 31)) ^^^ (-1 : Int32))) x7 H locs ls h hP hD hS (lv_sub hl [3, 4, 5, 6, 0, 1, 7] rfl)
  have h := hf
  unfold f_X7_isFor at h
  obtain ⟨H, eH⟩ : ∃ H, H = s.heap := ⟨_, rfl⟩
  rw [← eH] at hP ⊢
  obtain ⟨locs, el⟩ : ∃ locs : List Loc, locs = [] := ⟨_, rfl⟩
  rw [← el] at hS ⊢
  have hS : va_S A s.heap H locs := by rw [eH]; exact hS
  refine lv_iconst (v := 0) hx hb dX7_isFor_0 (by decide) ?_
  refine lv_istore (lv' := [(5, .int (0 : Int32)), (0, .ref (q 0)), (1, .int x1), (2, .int x2), (3, .int x3), (4, .int x4)]) hx hb dX7_isFor_1 hl (by decide) rfl (fun ls hl => ?_)
  refine lv_iconst (v := 1) hx hb dX7_isFor_3 (by decide) ?_
  refine lv_iload_n hx hb dX7_isFor_4 rfl (lv_at hl 3 rfl) ?_
  refine lv_ishl hx hb dX7_isFor_5 ?_
  refine lv_istore (lv' := [(6, .int ((1 : Int32) <<< (x2 &&& 31))), (5, .int (0 : Int32)), (0, .ref (q 0)), (1, .int x1), (2, .int x2), (3, .int x3), (4, .int x4)]) hx hb dX7_isFor_6 hl (by decide) rfl (fun ls hl => ?_)
  refine lv_aload_n hx hb dX7_isFor_8 rfl (lv_at hl 2 rfl) ?_
  refine va_get (C := RX7) (T := TX7) (N := 34) (v := .ref (q 17)) hx hb hts iw7 hown hK hP 0 rfl rfl 16 (Nat.le_of_ble_eq_true rfl) lk37 (fun _ h9 => h9) rfl dX7_isFor_9 ?_
  refine lv_iconst (v := 0) hx hb dX7_isFor_12 (by decide) ?_
  refine lv_iload_n hx hb dX7_isFor_13 rfl (lv_at hl 4 rfl) ?_
  obtain ⟨hi29, h⟩ := xb_some h
  refine va_iast hx hb hK hP hD hS 3 0 rfl rfl hi29 dX7_isFor_14 (fun H locs hP hD hS => ?_)
  have hP : va_P D vwCl [oX7 q v_size v_at v_begin v_token v_told v_undos v_changed v_felt v_wents v_wish v_trace, rA (q 8) cI 64 v_town, rA (q 16) cI 8 v_tried, rA (q 17) cI 8 (upd v_places (0 : Int32).toNatClampNeg x2), rA (q 18) cI 8 v_spent] H := hP
  have hD : va_D A [oX7 q v_size v_at v_begin v_token v_told v_undos v_changed v_felt v_wents v_wish v_trace, rA (q 8) cI 64 v_town, rA (q 16) cI 8 v_tried, rA (q 17) cI 8 (upd v_places (0 : Int32).toNatClampNeg x2), rA (q 18) cI 8 v_spent] := hD
  refine lv_aload_n hx hb dX7_isFor_15 rfl (lv_at hl 2 rfl) ?_
  refine va_get (C := RX7) (T := TX7) (N := 34) (v := .ref (q 18)) hx hb hts iw7 hown hK hP 0 rfl rfl 17 (Nat.le_of_ble_eq_true rfl) lk40 (fun _ h9 => h9) rfl dX7_isFor_16 ?_
  refine lv_iconst (v := 0) hx hb dX7_isFor_19 (by decide) ?_
  refine lv_iconst (v := 0) hx hb dX7_isFor_20 (by decide) ?_
  obtain ⟨hi30, h⟩ := xb_some h
  refine va_iast hx hb hK hP hD hS 4 0 rfl rfl hi30 dX7_isFor_21 (fun H locs hP hD hS => ?_)
  have hP : va_P D vwCl [oX7 q v_size v_at v_begin v_token v_told v_undos v_changed v_felt v_wents v_wish v_trace, rA (q 8) cI 64 v_town, rA (q 16) cI 8 v_tried, rA (q 17) cI 8 (upd v_places (0 : Int32).toNatClampNeg x2), rA (q 18) cI 8 (upd v_spent (0 : Int32).toNatClampNeg (0 : Int32))] H := hP
  have hD : va_D A [oX7 q v_size v_at v_begin v_token v_told v_undos v_changed v_felt v_wents v_wish v_trace, rA (q 8) cI 64 v_town, rA (q 16) cI 8 v_tried, rA (q 17) cI 8 (upd v_places (0 : Int32).toNatClampNeg x2), rA (q 18) cI 8 (upd v_spent (0 : Int32).toNatClampNeg (0 : Int32))] := hD
  refine lv_aload_n hx hb dX7_isFor_22 rfl (lv_at hl 2 rfl) ?_
  refine va_get (C := RX7) (T := TX7) (N := 34) (v := .ref (q 16)) hx hb hts iw7 hown hK hP 0 rfl rfl 15 (Nat.le_of_ble_eq_true rfl) lk34 (fun _ h9 => h9) rfl dX7_isFor_23 ?_
  refine lv_iconst (v := 0) hx hb dX7_isFor_26 (by decide) ?_
  refine lv_iconst (v := (-1)) hx hb dX7_isFor_27 (by decide) ?_
  obtain ⟨hi31, h⟩ := xb_some h
  refine va_iast hx hb hK hP hD hS 2 0 rfl rfl hi31 dX7_isFor_28 (fun H locs hP hD hS => ?_)
  have hP : va_P D vwCl [oX7 q v_size v_at v_begin v_token v_told v_undos v_changed v_felt v_wents v_wish v_trace, rA (q 8) cI 64 v_town, rA (q 16) cI 8 (upd v_tried (0 : Int32).toNatClampNeg (-1 : Int32)), rA (q 17) cI 8 (upd v_places (0 : Int32).toNatClampNeg x2), rA (q 18) cI 8 (upd v_spent (0 : Int32).toNatClampNeg (0 : Int32))] H := hP
  have hD : va_D A [oX7 q v_size v_at v_begin v_token v_told v_undos v_changed v_felt v_wents v_wish v_trace, rA (q 8) cI 64 v_town, rA (q 16) cI 8 (upd v_tried (0 : Int32).toNatClampNeg (-1 : Int32)), rA (q 17) cI 8 (upd v_places (0 : Int32).toNatClampNeg x2), rA (q 18) cI 8 (upd v_spent (0 : Int32).toNatClampNeg (0 : Int32))] := hD
  refine lv_iload_n hx hb dX7_isFor_29 rfl (lv_at hl 4 rfl) ?_
  refine lv_iload_n hx hb dX7_isFor_30 rfl (lv_at hl 5 rfl) ?_
  refine lv_icmp_ne (tgt := 43) hx hb dX7_isFor_31 (by decide) (fun c32 => ?_) (fun c32 => ?_)
  · have h := (if_neg c32).symm.trans h
    refine lv_iconst (v := 0) hx hb dX7_isFor_43 (by decide) ?_
    refine lv_istore (lv' := [(7, .int (0 : Int32)), (6, .int ((1 : Int32) <<< (x2 &&& 31))), (5, .int (0 : Int32)), (0, .ref (q 0)), (1, .int x1), (2, .int x2), (3, .int x3), (4, .int x4)]) hx hb dX7_isFor_44 hl (by decide) rfl (fun ls hl => ?_)
    exact hL46 fu (upd v_tried (0 : Int32).toNatClampNeg (-1 : Int32)) (upd v_places (0 : Int32).toNatClampNeg x2) (upd v_spent (0 : Int32).toNatClampNeg (0 : Int32)) x1 x3 x4 (0 : Int32) ((1 : Int32) <<< (x2 &&& 31)) (0 : Int32) H locs ls h hP hD hS (lv_sub hl [3, 4, 6, 7, 2, 1, 0] rfl)
  · have h := (if_pos c32).symm.trans h
    refine lv_iload hx hb dX7_isFor_34 (lv_at hl 6 rfl) ?_
    refine lv_if_ne (tgt := 43) hx hb dX7_isFor_36 (by decide) (fun c33 => ?_) (fun c33 => ?_)
    · have h := (if_neg c33).symm.trans h
      refine lv_iconst (v := 0) hx hb dX7_isFor_43 (by decide) ?_
      refine lv_istore (lv' := [(7, .int (0 : Int32)), (6, .int ((1 : Int32) <<< (x2 &&& 31))), (5, .int (0 : Int32)), (0, .ref (q 0)), (1, .int x1), (2, .int x2), (3, .int x3), (4, .int x4)]) hx hb dX7_isFor_44 hl (by decide) rfl (fun ls hl => ?_)
      exact hL46 fu (upd v_tried (0 : Int32).toNatClampNeg (-1 : Int32)) (upd v_places (0 : Int32).toNatClampNeg x2) (upd v_spent (0 : Int32).toNatClampNeg (0 : Int32)) x1 x3 x4 (0 : Int32) ((1 : Int32) <<< (x2 &&& 31)) (0 : Int32) H locs ls h hP hD hS (lv_sub hl [3, 4, 6, 7, 2, 1, 0] rfl)
    · have h := (if_pos c33).symm.trans h
      refine lv_iconst (v := 1) hx hb dX7_isFor_39 (by decide) ?_
      refine lv_goto (tgt := 44) hx hb dX7_isFor_40 (by decide) ?_
      refine lv_istore (lv' := [(7, .int (1 : Int32)), (6, .int ((1 : Int32) <<< (x2 &&& 31))), (5, .int (0 : Int32)), (0, .ref (q 0)), (1, .int x1), (2, .int x2), (3, .int x3), (4, .int x4)]) hx hb dX7_isFor_44 hl (by decide) rfl (fun ls hl => ?_)
      exact hL46 fu (upd v_tried (0 : Int32).toNatClampNeg (-1 : Int32)) (upd v_places (0 : Int32).toNatClampNeg x2) (upd v_spent (0 : Int32).toNatClampNeg (0 : Int32)) x1 x3 x4 (0 : Int32) ((1 : Int32) <<< (x2 &&& 31)) (1 : Int32) H locs ls h hP hD hS (lv_sub hl [3, 4, 6, 7, 2, 1, 0] rfl)
abbrev rm_X7_forFee : Room := { frames := 2, cells := 0, slots := 0, locals := 53 }
set_option maxHeartbeats 4000000 in
set_option maxRecDepth 100000 in
theorem k_X7_forFee (l : Launch) (D : va_G) (cI cZ cT : ClassId) (q : Nat → Nat) (sz : Nat) (v_size : Int32) (v_at : Int32) (v_begin : Int32) (v_token : Int32) (v_told : Int32) (v_undos : Int32) (v_changed : Int32) (v_felt : Int32) (v_wents : Int32) (v_wish : Int32) (v_trace : Int64) (v_town : Nat → Int32) (v_tried : Nat → Int32) (v_places : Nat → Int32) (v_spent : Nat → Int32) (x1 : Int32) (x2 : Int32) (x3 : Int32) (res : R_X7_forFee) (fu : Nat) (hf : f_X7_forFee fu v_town v_tried v_places v_spent x1 x2 x3 = some res) : Met l yX7_forFee wsX7_forFee rm_X7_forFee (cPre D (tyz cI cZ cT) [.ref (q 0), .int x1, .int x2, .int x3] sz [oX7 q v_size v_at v_begin v_token v_told v_undos v_changed v_felt v_wents v_wish v_trace, rA (q 8) cI 64 v_town, rA (q 16) cI 8 v_tried, rA (q 17) cI 8 v_places, rA (q 18) cI 8 v_spent]) (cPi D (tyz cI cZ cT) (fun (r : Int32) (u : (Nat → Int32) × (Nat → Int32) × (Nat → Int32)) => (r, u) = res) (fun u => [oX7 q v_size v_at v_begin v_token v_told v_undos v_changed v_felt v_wents v_wish v_trace, rA (q 8) cI 64 v_town, rA (q 16) cI 8 u.1, rA (q 17) cI 8 u.2.1, rA (q 18) cI 8 u.2.2]) [oX7 q v_size v_at v_begin v_token v_told v_undos v_changed v_felt v_wents v_wish v_trace, rA (q 8) cI 64 v_town, rA (q 16) cI 8 v_tried, rA (q 17) cI 8 v_places, rA (q 18) cI 8 v_spent] sz) 0 0 (va_A [oX7 q v_size v_at v_begin v_token v_told v_undos v_changed v_felt v_wents v_wish v_trace, rA (q 8) cI 64 v_town, rA (q 16) cI 8 v_tried, rA (q 17) cI 8 v_places, rA (q 18) cI 8 v_spent] sz) := by
  refine vx_meth_i (by decide) rfl (Nat.le_of_ble_eq_true rfl) ?_
  intro p e s m args below meth c A Q hx hb hml hown hts hK hP hD hA hS hret ls hl
  have hown : s.vm.findClass RX7 = some m.cls := hown
  have hl : lv_has ls 6 [(0, .ref (q 0)), (1, .int x1), (2, .int x2), (3, .int x3)] := hl
  have hFx : CallFix p m c cX7_forFee 6 s args wsX7_forFee RX7 := ⟨hx, hb, hml, hown, hts⟩
  have lk16 := hts (.fieldLink RX7 16 "FogGuidesModel" "town" "[I") (by decide +kernel)
  have iw7 : ∀ w ∈ u_ws RX7 TX7 34, w ∈ wsX7_forFee := by decide +kernel
  have hL36 : ∀ (n36 : Nat), ∀ (v_tried : (Nat → Int32)) (v_places : (Nat → Int32)) (v_spent : (Nat → Int32)) (x1 : Int32) (x2 : Int32) (x3 : Int32) (x4 : Int32) (x5 : Int32) (H : Heap) (locs : List Loc) (ls : Array Slot), f_X7_forFee_L36 fu n36 v_town v_tried v_places v_spent x1 x2 x3 x4 x5 = some res → va_P D vwCl [oX7 q v_size v_at v_begin v_token v_told v_undos v_changed v_felt v_wents v_wish v_trace, rA (q 8) cI 64 v_town, rA (q 16) cI 8 v_tried, rA (q 17) cI 8 v_places, rA (q 18) cI 8 v_spent] H → va_D A [oX7 q v_size v_at v_begin v_token v_told v_undos v_changed v_felt v_wents v_wish v_trace, rA (q 8) cI 64 v_town, rA (q 16) cI 8 v_tried, rA (q 17) cI 8 v_places, rA (q 18) cI 8 v_spent] → va_S A s.heap H locs → lv_has ls 6 [(0, .ref (q 0)), (1, .int x1), (2, .int x2), (3, .int x3), (4, .int x4), (5, .int x5)] → W p l e rm_X7_forFee s m args below meth c H locs 0 0 Q (F0 m 36 ls []) := by
    intro n36
    induction n36 with
    | zero =>
      intro v_tried v_places v_spent x1 x2 x3 x4 x5 H locs ls h hP hD hS hl
      cases (show (none : Option R_X7_forFee) = some res from h)
    | succ n36 ih36 =>
      intro v_tried v_places v_spent x1 x2 x3 x4 x5 H locs ls h hP hD hS hl
      have h : f_X7_forFee_L36b fu (f_X7_forFee_L36 fu n36) v_town v_tried v_places v_spent x1 x2 x3 x4 x5 = some res := h
      unfold f_X7_forFee_L36b at h
      refine lv_iload hx hb dX7_forFee_36 (lv_at hl 5 rfl) ?_
      refine lv_aload_n hx hb dX7_forFee_38 rfl (lv_at hl 0 rfl) ?_
      refine va_get (C := RX7) (T := TX7) (N := 34) (v := .ref (q 8)) hx hb hts iw7 hown hK hP 0 rfl rfl 7 (Nat.le_of_ble_eq_true rfl) lk16 (fun _ h9 => h9) rfl dX7_forFee_39 ?_
      refine lv_iconst (v := 2) hx hb dX7_forFee_42 (by decide) ?_
      obtain ⟨hi1, h⟩ := xb_some h
      refine va_iald hx hb hK hP 1 0 rfl rfl hi1 dX7_forFee_43 ?_
      refine lv_icmp_ge (tgt := 88) hx hb dX7_forFee_44 (by decide) (fun c2 => ?_) (fun c2 => ?_)
      · have h := (if_pos c2).symm.trans h
        refine lv_iload hx hb dX7_forFee_88 (lv_at hl 4 rfl) ?_
        exact hret x4 (v_tried, v_places, v_spent) H locs _ ls (Option.some.inj h) hP hD hS dX7_forFee_90
      · have h := (if_neg c2).symm.trans h
        refine lv_iload hx hb dX7_forFee_47 (lv_at hl 4 rfl) ?_
        refine lv_aload_n hx hb dX7_forFee_49 rfl (lv_at hl 0 rfl) ?_
        refine lv_iload hx hb dX7_forFee_50 (lv_at hl 5 rfl) ?_
        refine lv_iload_n hx hb dX7_forFee_52 rfl (lv_at hl 1 rfl) ?_
        obtain ⟨r3, hr3, h⟩ := xk_some h
        refine vx_VJ (As := [.int x5, .int x1]) (rest := [.int x4]) hFx (k_X7_isHis l D cI cZ cT q H.size v_size v_at v_begin v_token v_told v_undos v_changed v_felt v_wents v_wish v_trace v_town x5 x1 r3 hr3) (cwV 2 hts gX7_forFee_X7_isHis rfl rfl rfl (by decide +kernel) ⟨Nat.le_of_ble_eq_true rfl, Nat.le_of_ble_eq_true rfl⟩) hK hP hD hS hA [0, 1] rfl rfl 7 0 rfl rfl rfl hl.1 rfl (Nat.le_of_ble_eq_true rfl) dX7_forFee_53 ⟨Nat.zero_le _, Nat.zero_le _⟩ (fun H locs hP hS => ?_)
        refine lv_if_eq (tgt := 78) hx hb dX7_forFee_56 (by decide) (fun c4 => ?_) (fun c4 => ?_)
        · have h := (if_pos c4).symm.trans h
          refine lv_iconst (v := 0) hx hb dX7_forFee_78 (by decide) ?_
          refine lv_ior hx hb dX7_forFee_79 ?_
          refine lv_istore (lv' := [(4, .int (x4 ||| (0 : Int32))), (0, .ref (q 0)), (1, .int x1), (2, .int x2), (3, .int x3), (5, .int x5)]) hx hb dX7_forFee_80 hl (by decide) rfl (fun ls hl => ?_)
          refine lv_iinc (v := x5 + 1) (lv' := [(5, .int (x5 + 1)), (4, .int (x4 ||| (0 : Int32))), (0, .ref (q 0)), (1, .int x1), (2, .int x2), (3, .int x3)]) hx hb dX7_forFee_82 hl (k := 5) rfl rfl (by decide) rfl (fun ls hl => ?_)
          refine lv_goto (tgt := 36) hx hb dX7_forFee_85 (by decide) ?_
          exact ih36 v_tried v_places v_spent x1 x2 x3 (x4 ||| (0 : Int32)) (x5 + 1) H locs ls h hP hD hS (lv_sub hl [2, 3, 4, 5, 1, 0] rfl)
        · have h := (if_neg c4).symm.trans h
          refine lv_aload_n hx hb dX7_forFee_59 rfl (lv_at hl 0 rfl) ?_
          refine lv_iload hx hb dX7_forFee_60 (lv_at hl 5 rfl) ?_
          refine lv_iload_n hx hb dX7_forFee_62 rfl (lv_at hl 1 rfl) ?_
          refine lv_iload_n hx hb dX7_forFee_63 rfl (lv_at hl 2 rfl) ?_
          refine lv_iload_n hx hb dX7_forFee_64 rfl (lv_at hl 3 rfl) ?_
          obtain ⟨r5, hr5, h⟩ := xk_some h
          refine vx_VI (As := [.int x5, .int x1, .int x2, .int x3]) (rest := [.int x4]) (wr := []) (wn := [oX7 q v_size v_at v_begin v_token v_told v_undos v_changed v_felt v_wents v_wish v_trace, rA (q 8) cI 64 v_town, rA (q 16) cI 8 r5.2.1, rA (q 17) cI 8 r5.2.2.1, rA (q 18) cI 8 r5.2.2.2]) hFx (k_X7_isFor l D cI cZ cT q H.size v_size v_at v_begin v_token v_told v_undos v_changed v_felt v_wents v_wish v_trace v_town v_tried v_places v_spent x5 x1 x2 x3 r5 fu hr5) (cwV 4 hts gX7_forFee_X7_isFor rfl rfl rfl (by decide +kernel) ⟨Nat.le_of_ble_eq_true rfl, Nat.le_of_ble_eq_true rfl⟩) hK hP hD hS hA [0, 1, 2, 3, 4] [] [0, 1, 2, 3, 4] rfl rfl rfl rfl (by decide) rfl rfl 7 0 rfl rfl rfl hl.1 rfl (Nat.le_of_ble_eq_true rfl) dX7_forFee_65 ⟨Nat.zero_le _, Nat.zero_le _⟩ (fun H locs hP hD hS => ?_)
          refine lv_if_eq (tgt := 78) hx hb dX7_forFee_68 (by decide) (fun c6 => ?_) (fun c6 => ?_)
          · have h := (if_pos c6).symm.trans h
            refine lv_iconst (v := 0) hx hb dX7_forFee_78 (by decide) ?_
            refine lv_ior hx hb dX7_forFee_79 ?_
            refine lv_istore (lv' := [(4, .int (x4 ||| (0 : Int32))), (0, .ref (q 0)), (1, .int x1), (2, .int x2), (3, .int x3), (5, .int x5)]) hx hb dX7_forFee_80 hl (by decide) rfl (fun ls hl => ?_)
            refine lv_iinc (v := x5 + 1) (lv' := [(5, .int (x5 + 1)), (4, .int (x4 ||| (0 : Int32))), (0, .ref (q 0)), (1, .int x1), (2, .int x2), (3, .int x3)]) hx hb dX7_forFee_82 hl (k := 5) rfl rfl (by decide) rfl (fun ls hl => ?_)
            refine lv_goto (tgt := 36) hx hb dX7_forFee_85 (by decide) ?_
            exact ih36 r5.2.1 r5.2.2.1 r5.2.2.2 x1 x2 x3 (x4 ||| (0 : Int32)) (x5 + 1) H locs ls h hP hD hS (lv_sub hl [2, 3, 4, 5, 1, 0] rfl)
          · have h := (if_neg c6).symm.trans h
            refine lv_iconst (v := 1) hx hb dX7_forFee_71 (by decide) ?_
            refine lv_iload hx hb dX7_forFee_72 (lv_at hl 5 rfl) ?_
            refine lv_ishl hx hb dX7_forFee_74 ?_
            refine lv_goto (tgt := 79) hx hb dX7_forFee_75 (by decide) ?_
            refine lv_ior hx hb dX7_forFee_79 ?_
            refine lv_istore (lv' := [(4, .int (x4 ||| ((1 : Int32) <<< (x5 &&& 31)))), (0, .ref (q 0)), (1, .int x1), (2, .int x2), (3, .int x3), (5, .int x5)]) hx hb dX7_forFee_80 hl (by decide) rfl (fun ls hl => ?_)
            refine lv_iinc (v := x5 + 1) (lv' := [(5, .int (x5 + 1)), (4, .int (x4 ||| ((1 : Int32) <<< (x5 &&& 31)))), (0, .ref (q 0)), (1, .int x1), (2, .int x2), (3, .int x3)]) hx hb dX7_forFee_82 hl (k := 5) rfl rfl (by decide) rfl (fun ls hl => ?_)
            refine lv_goto (tgt := 36) hx hb dX7_forFee_85 (by decide) ?_
            exact ih36 r5.2.1 r5.2.2.1 r5.2.2.2 x1 x2 x3 (x4 ||| ((1 : Int32) <<< (x5 &&& 31))) (x5 + 1) H locs ls h hP hD hS (lv_sub hl [2, 3, 4, 5, 1, 0] rfl)
  have h := hf
  unfold f_X7_forFee at h
  obtain ⟨H, eH⟩ : ∃ H, H = s.heap := ⟨_, rfl⟩
  rw [← eH] at hP ⊢
  obtain ⟨locs, el⟩ : ∃ locs : List Loc, locs = [] := ⟨_, rfl⟩
  rw [← el] at hS ⊢
  have hS : va_S A s.heap H locs := by rw [eH]; exact hS
  refine lv_aload_n hx hb dX7_forFee_0 rfl (lv_at hl 0 rfl) ?_
  refine lv_iload_n hx hb dX7_forFee_1 rfl (lv_at hl 1 rfl) ?_
  obtain ⟨r7, hr7, h⟩ := xk_some h
  refine vx_VJ (As := [.int x1]) (rest := []) hFx (k_X7_isCorner l D cI cZ cT q H.size v_size v_at v_begin v_token v_told v_undos v_changed v_felt v_wents v_wish v_trace v_town x1 r7 hr7) (cwV 1 hts gX7_forFee_X7_isCorner rfl rfl rfl (by decide +kernel) ⟨Nat.le_of_ble_eq_true rfl, Nat.le_of_ble_eq_true rfl⟩) hK hP hD hS hA [0, 1] rfl rfl 7 0 rfl rfl rfl hl.1 rfl (Nat.le_of_ble_eq_true rfl) dX7_forFee_2 ⟨Nat.zero_le _, Nat.zero_le _⟩ (fun H locs hP hS => ?_)
  refine lv_if_eq (tgt := 28) hx hb dX7_forFee_5 (by decide) (fun c8 => ?_) (fun c8 => ?_)
  · have h := (if_pos c8).symm.trans h
    refine lv_iconst (v := (-1)) hx hb dX7_forFee_28 (by decide) ?_
    exact hret (-1 : Int32) (v_tried, v_places, v_spent) H locs _ ls (Option.some.inj h) hP hD hS dX7_forFee_29
  · have h := (if_neg c8).symm.trans h
    refine lv_aload_n hx hb dX7_forFee_8 rfl (lv_at hl 0 rfl) ?_
    refine lv_iload_n hx hb dX7_forFee_9 rfl (lv_at hl 2 rfl) ?_
    obtain ⟨r9, hr9, h⟩ := xk_some h
    refine vx_VJ (As := [.int x2]) (rest := []) hFx (k_X7_isCorner l D cI cZ cT q H.size v_size v_at v_begin v_token v_told v_undos v_changed v_felt v_wents v_wish v_trace v_town x2 r9 hr9) (cwV 1 hts gX7_forFee_X7_isCorner rfl rfl rfl (by decide +kernel) ⟨Nat.le_of_ble_eq_true rfl, Nat.le_of_ble_eq_true rfl⟩) hK hP hD hS hA [0, 1] rfl rfl 7 0 rfl rfl rfl hl.1 rfl (Nat.le_of_ble_eq_true rfl) dX7_forFee_10 ⟨Nat.zero_le _, Nat.zero_le _⟩ (fun H locs hP hS => ?_)
    refine lv_if_eq (tgt := 28) hx hb dX7_forFee_13 (by decide) (fun c10 => ?_) (fun c10 => ?_)
    · have h := (if_pos c10).symm.trans h
      refine lv_iconst (v := (-1)) hx hb dX7_forFee_28 (by decide) ?_
      exact hret (-1 : Int32) (v_tried, v_places, v_spent) H locs _ ls (Option.some.inj h) hP hD hS dX7_forFee_29
    · have h := (if_neg c10).symm.trans h
      refine lv_iload_n hx hb dX7_forFee_16 rfl (lv_at hl 3 rfl) ?_
      refine lv_i2l hx hb dX7_forFee_17 rfl ?_
      refine lv_lconst (v := 0) hx hb dX7_forFee_18 (by decide) ?_
      refine lv_ldc2 (v := (999)) hx hb hown (hts (.constantLong RX7 260 (999)) (by decide +kernel)) dX7_forFee_19 ?_
      obtain ⟨r11, hr11, h⟩ := xk_some h
      refine vx_SJ (As := [.long x3.toInt64, .long (0 : Int64), .long (999 : Int64)]) (rest := []) hFx (k_X7_in l D cI cZ cT H.size x3.toInt64 (0 : Int64) (999 : Int64) r11 hr11) (vx_cwS 3 hts gX7_forFee_X7_in rfl rfl rfl (by decide +kernel) ⟨Nat.le_of_ble_eq_true rfl, Nat.le_of_ble_eq_true rfl⟩) hK hP hD hS hA rfl hl.1 rfl (Nat.le_of_ble_eq_true rfl) dX7_forFee_22 ⟨Nat.zero_le _, Nat.zero_le _⟩ (fun H locs hP hS => ?_)
      refine lv_if_ne (tgt := 30) hx hb dX7_forFee_25 (by decide) (fun c12 => ?_) (fun c12 => ?_)
      · have h := (if_neg c12).symm.trans h
        refine lv_iconst (v := 0) hx hb dX7_forFee_30 (by decide) ?_
        refine lv_istore (lv' := [(4, .int (0 : Int32)), (0, .ref (q 0)), (1, .int x1), (2, .int x2), (3, .int x3)]) hx hb dX7_forFee_31 hl (by decide) rfl (fun ls hl => ?_)
        refine lv_iconst (v := 0) hx hb dX7_forFee_33 (by decide) ?_
        refine lv_istore (lv' := [(5, .int (0 : Int32)), (4, .int (0 : Int32)), (0, .ref (q 0)), (1, .int x1), (2, .int x2), (3, .int x3)]) hx hb dX7_forFee_34 hl (by decide) rfl (fun ls hl => ?_)
        exact hL36 fu v_tried v_places v_spent x1 x2 x3 (0 : Int32) (0 : Int32) H locs ls h hP hD hS (lv_sub hl [2, 3, 4, 5, 1, 0] rfl)
      · have h := (if_pos c12).symm.trans h
        refine lv_iconst (v := (-1)) hx hb dX7_forFee_28 (by decide) ?_
        exact hret (-1 : Int32) (v_tried, v_places, v_spent) H locs _ ls (Option.some.inj h) hP hD hS dX7_forFee_29
