abbrev rm_X7_byBells : Room := { frames := 2, cells := 0, slots := 0, locals := 46 }
set_option maxHeartbeats 4000000 in
set_option maxRecDepth 100000 in
theorem k_X7_byBells (l : Launch) (D : va_G) (cI cZ cT : ClassId) (q : Nat → Nat) (sz : Nat) (v_size : Int32) (v_at : Int32) (v_begin : Int32) (v_token : Int32) (v_told : Int32) (v_undos : Int32) (v_changed : Int32) (v_felt : Int32) (v_wents : Int32) (v_wish : Int32) (v_trace : Int64) (v_town : Nat → Int32) (v_there : Nat → Int32) (x1 : Int32) (x2 : Int32) (x3 : Int32) (res : R_X7_byBells) (fu : Nat) (hf : f_X7_byBells fu v_town v_there x1 x2 x3 = some res) : Met l yX7_byBells wsX7_byBells rm_X7_byBells (cPre D (tyz cI cZ cT) [.ref (q 0), .int x1, .int x2, .int x3] sz [oX7 q v_size v_at v_begin v_token v_told v_undos v_changed v_felt v_wents v_wish v_trace, rA (q 8) cI 64 v_town, rA (q 19) cI 512 v_there]) (cPi D (tyz cI cZ cT) (fun (r : Int32) (u : (Nat → Int32)) => (r, u) = res) (fun u => [oX7 q v_size v_at v_begin v_token v_told v_undos v_changed v_felt v_wents v_wish v_trace, rA (q 8) cI 64 v_town, rA (q 19) cI 512 u]) [oX7 q v_size v_at v_begin v_token v_told v_undos v_changed v_felt v_wents v_wish v_trace, rA (q 8) cI 64 v_town, rA (q 19) cI 512 v_there] sz) 0 0 (va_A [oX7 q v_size v_at v_begin v_token v_told v_undos v_changed v_felt v_wents v_wish v_trace, rA (q 8) cI 64 v_town, rA (q 19) cI 512 v_there] sz) := by
  refine vx_meth_i (by decide) rfl (Nat.le_of_ble_eq_true rfl) ?_
  intro p e s m args below meth c A Q hx hb hml hown hts hK hP hD hA hS hret ls hl
  have hown : s.vm.findClass RX7 = some m.cls := hown
  have hl : lv_has ls 8 [(0, .ref (q 0)), (1, .int x1), (2, .int x2), (3, .int x3)] := hl
  have hFx : CallFix p m c cX7_byBells 8 s args wsX7_byBells RX7 := ⟨hx, hb, hml, hown, hts⟩
  have lk16 := hts (.fieldLink RX7 16 "FogGuidesModel" "town" "[I") (by decide +kernel)
  have iw7 : ∀ w ∈ u_ws RX7 TX7 34, w ∈ wsX7_byBells := by decide +kernel
  have lk43 := hts (.fieldLink RX7 43 "FogGuidesModel" "there" "[I") (by decide +kernel)
  have hL67 : ∀ (n67 : Nat), ∀ (v_there : (Nat → Int32)) (x2 : Int32) (x3 : Int32) (x4 : Int32) (H : Heap) (locs : List Loc) (ls : Array Slot), f_X7_byBells_L67 fu n67 v_town v_there x2 x3 x4 = some res → va_P D vwCl [oX7 q v_size v_at v_begin v_token v_told v_undos v_changed v_felt v_wents v_wish v_trace, rA (q 8) cI 64 v_town, rA (q 19) cI 512 v_there] H → va_D A [oX7 q v_size v_at v_begin v_token v_told v_undos v_changed v_felt v_wents v_wish v_trace, rA (q 8) cI 64 v_town, rA (q 19) cI 512 v_there] → va_S A s.heap H locs → lv_has ls 8 [(0, .ref (q 0)), (2, .int x2), (3, .int x3), (4, .int x4)] → W p l e rm_X7_byBells s m args below meth c H locs 0 0 Q (F0 m 67 ls []) := by
    intro n67
    induction n67 with
    | zero =>
      intro v_there x2 x3 x4 H locs ls h hP hD hS hl
      cases (show (none : Option R_X7_byBells) = some res from h)
    | succ n67 ih67 =>
      have hL115 : ∀ (n115 : Nat), ∀ (v_there : (Nat → Int32)) (x2 : Int32) (x3 : Int32) (x4 : Int32) (x5 : Int32) (H : Heap) (locs : List Loc) (ls : Array Slot), f_X7_byBells_L115 fu (f_X7_byBells_L67 fu n67) n115 v_town v_there x2 x3 x4 x5 = some res → va_P D vwCl [oX7 q v_size v_at v_begin v_token v_told v_undos v_changed v_felt v_wents v_wish v_trace, rA (q 8) cI 64 v_town, rA (q 19) cI 512 v_there] H → va_D A [oX7 q v_size v_at v_begin v_token v_told v_undos v_changed v_felt v_wents v_wish v_trace, rA (q 8) cI 64 v_town, rA (q 19) cI 512 v_there] → va_S A s.heap H locs → lv_has ls 8 [(0, .ref (q 0)), (2, .int x2), (3, .int x3), (4, .int x4), (5, .int x5)] → W p l e rm_X7_byBells s m args below meth c H locs 0 0 Q (F0 m 115 ls []) := by
        intro n115
        induction n115 with
        | zero =>
          intro v_there x2 x3 x4 x5 H locs ls h hP hD hS hl
          cases (show (none : Option R_X7_byBells) = some res from h)
        | succ n115 ih115 =>
          intro v_there x2 x3 x4 x5 H locs ls h hP hD hS hl
          have h : f_X7_byBells_L115b fu (f_X7_byBells_L67 fu n67) (f_X7_byBells_L115 fu (f_X7_byBells_L67 fu n67) n115) v_town v_there x2 x3 x4 x5 = some res := h
          unfold f_X7_byBells_L115b at h
          refine lv_iload hx hb dX7_byBells_115 (lv_at hl 4 rfl) ?_
          refine lv_aload_n hx hb dX7_byBells_117 rfl (lv_at hl 0 rfl) ?_
          refine va_get (C := RX7) (T := TX7) (N := 34) (v := .ref (q 8)) hx hb hts iw7 hown hK hP 0 rfl rfl 7 (Nat.le_of_ble_eq_true rfl) lk16 (fun _ h9 => h9) rfl dX7_byBells_118 ?_
          refine lv_iconst (v := 1) hx hb dX7_byBells_121 (by decide) ?_
          obtain ⟨hi1, h⟩ := xb_some h
          refine va_iald hx hb hK hP 1 0 rfl rfl hi1 dX7_byBells_122 ?_
          refine lv_icmp_ge (tgt := 227) hx hb dX7_byBells_123 (by decide) (fun c2 => ?_) (fun c2 => ?_)
          · have h := (if_pos c2).symm.trans h
            refine lv_iinc (v := x4 + 1) (lv' := [(4, .int (x4 + 1)), (0, .ref (q 0)), (2, .int x2), (3, .int x3), (5, .int x5)]) hx hb dX7_byBells_227 hl (k := 3) rfl rfl (by decide) rfl (fun ls hl => ?_)
            refine lv_goto (tgt := 67) hx hb dX7_byBells_230 (by decide) ?_
            exact ih67 v_there x2 x3 (x4 + 1) H locs ls h hP hD hS (lv_sub hl [1, 2, 3, 0] rfl)
          · have h := (if_neg c2).symm.trans h
            refine lv_aload_n hx hb dX7_byBells_126 rfl (lv_at hl 0 rfl) ?_
            refine lv_iload_n hx hb dX7_byBells_127 rfl (lv_at hl 1 rfl) ?_
            refine lv_iload hx hb dX7_byBells_128 (lv_at hl 3 rfl) ?_
            refine lv_iadd hx hb dX7_byBells_130 ?_
            refine lv_aload_n hx hb dX7_byBells_131 rfl (lv_at hl 0 rfl) ?_
            refine lv_iload hx hb dX7_byBells_132 (lv_at hl 4 rfl) ?_
            obtain ⟨r3, hr3, h⟩ := xk_some h
            refine vx_VJ (As := [.int x5]) (rest := [.int (x2 + x4), .ref (q 0)]) hFx (k_X7_length l D cI cZ cT q H.size v_size v_at v_begin v_token v_told v_undos v_changed v_felt v_wents v_wish v_trace v_town x5 r3 hr3) (cwV 1 hts gX7_byBells_X7_length rfl rfl rfl (by decide +kernel) ⟨Nat.le_of_ble_eq_true rfl, Nat.le_of_ble_eq_true rfl⟩) hK hP hD hS hA [0, 1] rfl rfl 7 0 rfl rfl rfl hl.1 rfl (Nat.le_of_ble_eq_true rfl) dX7_byBells_134 ⟨Nat.zero_le _, Nat.zero_le _⟩ (fun H locs hP hS => ?_)
            obtain ⟨r4, hr4, h⟩ := xk_some h
            refine vx_VJ (As := [.int (x2 + x4), .int r3]) (rest := []) hFx (k_X7_isThin l D cI cZ cT q H.size v_size v_at v_begin v_token v_told v_undos v_changed v_felt v_wents v_wish v_trace v_town (x2 + x4) r3 r4 fu hr4) (cwV 2 hts gX7_byBells_X7_isThin rfl rfl rfl (by decide +kernel) ⟨Nat.le_of_ble_eq_true rfl, Nat.le_of_ble_eq_true rfl⟩) hK hP hD hS hA [0, 1] rfl rfl 7 0 rfl rfl rfl hl.1 rfl (Nat.le_of_ble_eq_true rfl) dX7_byBells_137 ⟨Nat.zero_le _, Nat.zero_le _⟩ (fun H locs hP hS => ?_)
            refine lv_if_eq (tgt := 221) hx hb dX7_byBells_140 (by decide) (fun c5 => ?_) (fun c5 => ?_)
            · have h := (if_pos c5).symm.trans h
              refine lv_iinc (v := x5 + 1) (lv' := [(5, .int (x5 + 1)), (0, .ref (q 0)), (2, .int x2), (3, .int x3), (4, .int x4)]) hx hb dX7_byBells_221 hl (k := 4) rfl rfl (by decide) rfl (fun ls hl => ?_)
              refine lv_goto (tgt := 115) hx hb dX7_byBells_224 (by decide) ?_
              exact ih115 v_there x2 x3 x4 (x5 + 1) H locs ls h hP hD hS (lv_sub hl [1, 2, 3, 4, 0] rfl)
            · have h := (if_neg c5).symm.trans h
              refine lv_aload_n hx hb dX7_byBells_143 rfl (lv_at hl 0 rfl) ?_
              refine va_get (C := RX7) (T := TX7) (N := 34) (v := .ref (q 8)) hx hb hts iw7 hown hK hP 0 rfl rfl 7 (Nat.le_of_ble_eq_true rfl) lk16 (fun _ h9 => h9) rfl dX7_byBells_144 ?_
              refine lv_bipush (v := 13) hx hb dX7_byBells_147 (by decide) ?_
              refine lv_iconst (v := 3) hx hb dX7_byBells_149 (by decide) ?_
              refine lv_iload hx hb dX7_byBells_150 (lv_at hl 4 rfl) ?_
              refine lv_imul hx hb dX7_byBells_152 ?_
              refine lv_iadd hx hb dX7_byBells_153 ?_
              obtain ⟨hi6, h⟩ := xb_some h
              refine va_iald hx hb hK hP 1 0 rfl rfl hi6 dX7_byBells_154 ?_
              refine lv_istore (lv' := [(6, .int (v_town ((13 : Int32) + ((3 : Int32) * x5)).toNatClampNeg)), (0, .ref (q 0)), (2, .int x2), (3, .int x3), (4, .int x4), (5, .int x5)]) hx hb dX7_byBells_155 hl (by decide) rfl (fun ls hl => ?_)
              refine lv_aload_n hx hb dX7_byBells_157 rfl (lv_at hl 1 rfl) ?_
              refine va_get (C := RX7) (T := TX7) (N := 34) (v := .ref (q 8)) hx hb hts iw7 hown hK hP 0 rfl rfl 7 (Nat.le_of_ble_eq_true rfl) lk16 (fun _ h9 => h9) rfl dX7_byBells_158 ?_
              refine lv_bipush (v := 13) hx hb dX7_byBells_161 (by decide) ?_
              refine lv_iconst (v := 3) hx hb dX7_byBells_163 (by decide) ?_
              refine lv_iload hx hb dX7_byBells_164 (lv_at hl 5 rfl) ?_
              refine lv_imul hx hb dX7_byBells_166 ?_
              refine lv_iadd hx hb dX7_byBells_167 ?_
              refine lv_iconst (v := 1) hx hb dX7_byBells_168 (by decide) ?_
              refine lv_iadd hx hb dX7_byBells_169 ?_
              obtain ⟨hi7, h⟩ := xb_some h
              refine va_iald hx hb hK hP 1 0 rfl rfl hi7 dX7_byBells_170 ?_
              refine lv_istore (lv' := [(7, .int (v_town (((13 : Int32) + ((3 : Int32) * x5)) + (1 : Int32)).toNatClampNeg)), (6, .int (v_town ((13 : Int32) + ((3 : Int32) * x5)).toNatClampNeg)), (0, .ref (q 0)), (2, .int x2), (3, .int x3), (4, .int x4), (5, .int x5)]) hx hb dX7_byBells_171 hl (by decide) rfl (fun ls hl => ?_)
              refine lv_aload_n hx hb dX7_byBells_173 rfl (lv_at hl 2 rfl) ?_
              refine va_get (C := RX7) (T := TX7) (N := 34) (v := .ref (q 19)) hx hb hts iw7 hown hK hP 0 rfl rfl 18 (Nat.le_of_ble_eq_true rfl) lk43 (fun _ h9 => h9) rfl dX7_byBells_174 ?_
              refine lv_iload hx hb dX7_byBells_177 (lv_at hl 5 rfl) ?_
              refine lv_aload_n hx hb dX7_byBells_179 rfl (lv_at hl 2 rfl) ?_
              refine lv_iload hx hb dX7_byBells_180 (lv_at hl 6 rfl) ?_
              obtain ⟨r8, hr8, h⟩ := xk_some h
              refine vx_VJ (As := [.int x5]) (rest := [.int x4, .ref (q 19)]) hFx (k_X7_length l D cI cZ cT q H.size v_size v_at v_begin v_token v_told v_undos v_changed v_felt v_wents v_wish v_trace v_town x5 r8 hr8) (cwV 1 hts gX7_byBells_X7_length rfl rfl rfl (by decide +kernel) ⟨Nat.le_of_ble_eq_true rfl, Nat.le_of_ble_eq_true rfl⟩) hK hP hD hS hA [0, 1] rfl rfl 7 0 rfl rfl rfl hl.1 rfl (Nat.le_of_ble_eq_true rfl) dX7_byBells_182 ⟨Nat.zero_le _, Nat.zero_le _⟩ (fun H locs hP hS => ?_)
              refine lv_iadd hx hb dX7_byBells_185 ?_
              refine lv_dup2_11 hx hb dX7_byBells_186 rfl rfl ?_
              obtain ⟨hi9, h⟩ := xb_some h
              refine va_iald hx hb hK hP 2 0 rfl rfl hi9 dX7_byBells_187 ?_
              refine lv_aload_n hx hb dX7_byBells_188 rfl (lv_at hl 2 rfl) ?_
              refine va_get (C := RX7) (T := TX7) (N := 34) (v := .ref (q 19)) hx hb hts iw7 hown hK hP 0 rfl rfl 18 (Nat.le_of_ble_eq_true rfl) lk43 (fun _ h9 => h9) rfl dX7_byBells_189 ?_
              refine lv_iload hx hb dX7_byBells_192 (lv_at hl 5 rfl) ?_
              obtain ⟨hi10, h⟩ := xb_some h
              refine va_iald hx hb hK hP 2 0 rfl rfl hi10 dX7_byBells_194 ?_
              refine lv_iload hx hb dX7_byBells_195 (lv_at hl 1 rfl) ?_
              refine lv_ishr hx hb dX7_byBells_197 ?_
              refine lv_iconst (v := 1) hx hb dX7_byBells_198 (by decide) ?_
              refine lv_iand hx hb dX7_byBells_199 ?_
              refine lv_iload hx hb dX7_byBells_200 (lv_at hl 0 rfl) ?_
              refine lv_ishl hx hb dX7_byBells_202 ?_
              refine lv_aload_n hx hb dX7_byBells_203 rfl (lv_at hl 2 rfl) ?_
              refine va_get (C := RX7) (T := TX7) (N := 34) (v := .ref (q 19)) hx hb hts iw7 hown hK hP 0 rfl rfl 18 (Nat.le_of_ble_eq_true rfl) lk43 (fun _ h9 => h9) rfl dX7_byBells_204 ?_
              refine lv_iload hx hb dX7_byBells_207 (lv_at hl 5 rfl) ?_
              obtain ⟨hi11, h⟩ := xb_some h
              refine va_iald hx hb hK hP 2 0 rfl rfl hi11 dX7_byBells_209 ?_
              refine lv_iload hx hb dX7_byBells_210 (lv_at hl 0 rfl) ?_
              refine lv_ishr hx hb dX7_byBells_212 ?_
              refine lv_iconst (v := 1) hx hb dX7_byBells_213 (by decide) ?_
              refine lv_iand hx hb dX7_byBells_214 ?_
              refine lv_iload hx hb dX7_byBells_215 (lv_at hl 1 rfl) ?_
              refine lv_ishl hx hb dX7_byBells_217 ?_
              refine lv_ior hx hb dX7_byBells_218 ?_
              refine lv_ior hx hb dX7_byBells_219 ?_
              obtain ⟨hi12, h⟩ := xb_some h
              refine va_iast hx hb hK hP hD hS 2 0 rfl rfl hi12 dX7_byBells_220 (fun H locs hP hD hS => ?_)
              have hP : va_P D vwCl [oX7 q v_size v_at v_begin v_token v_told v_undos v_changed v_felt v_wents v_wish v_trace, rA (q 8) cI 64 v_town, rA (q 19) cI 512 (upd v_there (x4 + r8).toNatClampNeg ((v_there (x4 + r8).toNatClampNeg) ||| (((((v_there x4.toNatClampNeg) >>> ((v_town ((13 : Int32) + ((3 : Int32) * x5)).toNatClampNeg) &&& 31)) &&& (1 : Int32)) <<< ((v_town (((13 : Int32) + ((3 : Int32) * x5)) + (1 : Int32)).toNatClampNeg) &&& 31)) ||| ((((v_there x4.toNatClampNeg) >>> ((v_town (((13 : Int32) + ((3 : Int32) * x5)) + (1 : Int32)).toNatClampNeg) &&& 31)) &&& (1 : Int32)) <<< ((v_town ((13 : Int32) + ((3 : Int32) * x5)).toNatClampNeg) &&& 31)))))] H := hP
              have hD : va_D A [oX7 q v_size v_at v_begin v_token v_told v_undos v_changed v_felt v_wents v_wish v_trace, rA (q 8) cI 64 v_town, rA (q 19) cI 512 (upd v_there (x4 + r8).toNatClampNeg ((v_there (x4 + r8).toNatClampNeg) ||| (((((v_there x4.toNatClampNeg) >>> ((v_town ((13 : Int32) + ((3 : Int32) * x5)).toNatClampNeg) &&& 31)) &&& (1 : Int32)) <<< ((v_town (((13 : Int32) + ((3 : Int32) * x5)) + (1 : Int32)).toNatClampNeg) &&& 31)) ||| ((((v_there x4.toNatClampNeg) >>> ((v_town (((13 : Int32) + ((3 : Int32) * x5)) + (1 : Int32)).toNatClampNeg) &&& 31)) &&& (1 : Int32)) <<< ((v_town ((13 : Int32) + ((3 : Int32) * x5)).toNatClampNeg) &&& 31)))))] := hD
              refine lv_iinc (v := x5 + 1) (lv' := [(5, .int (x5 + 1)), (7, .int (v_town (((13 : Int32) + ((3 : Int32) * x5)) + (1 : Int32)).toNatClampNeg)), (6, .int (v_town ((13 : Int32) + ((3 : Int32) * x5)).toNatClampNeg)), (0, .ref (q 0)), (2, .int x2), (3, .int x3), (4, .int x4)]) hx hb dX7_byBells_221 hl (k := 6) rfl rfl (by decide) rfl (fun ls hl => ?_)
              refine lv_goto (tgt := 115) hx hb dX7_byBells_224 (by decide) ?_
              exact ih115 (upd v_there (x4 + r8).toNatClampNeg ((v_there (x4 + r8).toNatClampNeg) ||| (((((v_there x4.toNatClampNeg) >>> ((v_town ((13 : Int32) + ((3 : Int32) * x5)).toNatClampNeg) &&& 31)) &&& (1 : Int32)) <<< ((v_town (((13 : Int32) + ((3 : Int32) * x5)) + (1 : Int32)).toNatClampNeg) &&& 31)) ||| ((((v_there x4.toNatClampNeg) >>> ((v_town (((13 : Int32) + ((3 : Int32) * x5)) + (1 : Int32)).toNatClampNeg) &&& 31)) &&& (1 : Int32)) <<< ((v_town ((13 : Int32) + ((3 : Int32) * x5)).toNatClampNeg) &&& 31))))) x2 x3 x4 (x5 + 1) H locs ls h hP hD hS (lv_sub hl [3, 4, 5, 6, 0] rfl)
      intro v_there x2 x3 x4 H locs ls h hP hD hS hl
      have h : f_X7_byBells_L67b fu (f_X7_byBells_L67 fu n67) v_town v_there x2 x3 x4 = some res := h
      unfold f_X7_byBells_L67b at h
      refine lv_iload hx hb dX7_byBells_67 (lv_at hl 3 rfl) ?_
      refine lv_sipush (v := 501) hx hb dX7_byBells_69 (by decide) ?_
      refine lv_icmp_ge (tgt := 233) hx hb dX7_byBells_72 (by decide) (fun c13 => ?_) (fun c13 => ?_)
      · have h := (if_pos c13).symm.trans h
        refine lv_bipush (v := (-9)) hx hb dX7_byBells_233 (by decide) ?_
        exact hret (-9 : Int32) v_there H locs _ ls (Option.some.inj h) hP hD hS dX7_byBells_235
      · have h := (if_neg c13).symm.trans h
        refine lv_aload_n hx hb dX7_byBells_75 rfl (lv_at hl 0 rfl) ?_
        refine va_get (C := RX7) (T := TX7) (N := 34) (v := .ref (q 19)) hx hb hts iw7 hown hK hP 0 rfl rfl 18 (Nat.le_of_ble_eq_true rfl) lk43 (fun _ h9 => h9) rfl dX7_byBells_76 ?_
        refine lv_iload hx hb dX7_byBells_79 (lv_at hl 3 rfl) ?_
        obtain ⟨hi14, h⟩ := xb_some h
        refine va_iald hx hb hK hP 2 0 rfl rfl hi14 dX7_byBells_81 ?_
        refine lv_iload_n hx hb dX7_byBells_82 rfl (lv_at hl 2 rfl) ?_
        refine lv_ishr hx hb dX7_byBells_83 ?_
        refine lv_iconst (v := 1) hx hb dX7_byBells_84 (by decide) ?_
        refine lv_iand hx hb dX7_byBells_85 ?_
        refine lv_iconst (v := 1) hx hb dX7_byBells_86 (by decide) ?_
        refine lv_icmp_ne (tgt := 93) hx hb dX7_byBells_87 (by decide) (fun c15 => ?_) (fun c15 => ?_)
        · have h := (if_neg c15).symm.trans h
          refine lv_aload_n hx hb dX7_byBells_93 rfl (lv_at hl 0 rfl) ?_
          refine va_get (C := RX7) (T := TX7) (N := 34) (v := .ref (q 19)) hx hb hts iw7 hown hK hP 0 rfl rfl 18 (Nat.le_of_ble_eq_true rfl) lk43 (fun _ h9 => h9) rfl dX7_byBells_94 ?_
          refine lv_iload hx hb dX7_byBells_97 (lv_at hl 3 rfl) ?_
          refine lv_iconst (v := 1) hx hb dX7_byBells_99 (by decide) ?_
          refine lv_iadd hx hb dX7_byBells_100 ?_
          refine lv_dup2_11 hx hb dX7_byBells_101 rfl rfl ?_
          obtain ⟨hi16, h⟩ := xb_some h
          refine va_iald hx hb hK hP 2 0 rfl rfl hi16 dX7_byBells_102 ?_
          refine lv_aload_n hx hb dX7_byBells_103 rfl (lv_at hl 0 rfl) ?_
          refine va_get (C := RX7) (T := TX7) (N := 34) (v := .ref (q 19)) hx hb hts iw7 hown hK hP 0 rfl rfl 18 (Nat.le_of_ble_eq_true rfl) lk43 (fun _ h9 => h9) rfl dX7_byBells_104 ?_
          refine lv_iload hx hb dX7_byBells_107 (lv_at hl 3 rfl) ?_
          obtain ⟨hi17, h⟩ := xb_some h
          refine va_iald hx hb hK hP 2 0 rfl rfl hi17 dX7_byBells_109 ?_
          refine lv_ior hx hb dX7_byBells_110 ?_
          obtain ⟨hi18, h⟩ := xb_some h
          refine va_iast hx hb hK hP hD hS 2 0 rfl rfl hi18 dX7_byBells_111 (fun H locs hP hD hS => ?_)
          have hP : va_P D vwCl [oX7 q v_size v_at v_begin v_token v_told v_undos v_changed v_felt v_wents v_wish v_trace, rA (q 8) cI 64 v_town, rA (q 19) cI 512 (upd v_there (x4 + (1 : Int32)).toNatClampNeg ((v_there (x4 + (1 : Int32)).toNatClampNeg) ||| (v_there x4.toNatClampNeg)))] H := hP
          have hD : va_D A [oX7 q v_size v_at v_begin v_token v_told v_undos v_changed v_felt v_wents v_wish v_trace, rA (q 8) cI 64 v_town, rA (q 19) cI 512 (upd v_there (x4 + (1 : Int32)).toNatClampNeg ((v_there (x4 + (1 : Int32)).toNatClampNeg) ||| (v_there x4.toNatClampNeg)))] := hD
          refine lv_iconst (v := 0) hx hb dX7_byBells_112 (by decide) ?_
          refine lv_istore (lv' := [(5, .int (0 : Int32)), (0, .ref (q 0)), (2, .int x2), (3, .int x3), (4, .int x4)]) hx hb dX7_byBells_113 hl (by decide) rfl (fun ls hl => ?_)
          exact hL115 fu (upd v_there (x4 + (1 : Int32)).toNatClampNeg ((v_there (x4 + (1 : Int32)).toNatClampNeg) ||| (v_there x4.toNatClampNeg))) x2 x3 x4 (0 : Int32) H locs ls h hP hD hS (lv_sub hl [1, 2, 3, 4, 0] rfl)
        · have h := (if_pos c15).symm.trans h
          refine lv_iload hx hb dX7_byBells_90 (lv_at hl 3 rfl) ?_
          exact hret x4 v_there H locs _ ls (Option.some.inj h) hP hD hS dX7_byBells_92
  have hL33 : ∀ (n33 : Nat), ∀ (v_there : (Nat → Int32)) (x1 : Int32) (x2 : Int32) (x3 : Int32) (x4 : Int32) (H : Heap) (locs : List Loc) (ls : Array Slot), f_X7_byBells_L33 fu n33 v_town v_there x1 x2 x3 x4 = some res → va_P D vwCl [oX7 q v_size v_at v_begin v_token v_told v_undos v_changed v_felt v_wents v_wish v_trace, rA (q 8) cI 64 v_town, rA (q 19) cI 512 v_there] H → va_D A [oX7 q v_size v_at v_begin v_token v_told v_undos v_changed v_felt v_wents v_wish v_trace, rA (q 8) cI 64 v_town, rA (q 19) cI 512 v_there] → va_S A s.heap H locs → lv_has ls 8 [(0, .ref (q 0)), (1, .int x1), (2, .int x2), (3, .int x3), (4, .int x4)] → W p l e rm_X7_byBells s m args below meth c H locs 0 0 Q (F0 m 33 ls []) := by
    intro n33
    induction n33 with
    | zero =>
      intro v_there x1 x2 x3 x4 H locs ls h hP hD hS hl
      cases (show (none : Option R_X7_byBells) = some res from h)
    | succ n33 ih33 =>
      intro v_there x1 x2 x3 x4 H locs ls h hP hD hS hl
      have h : f_X7_byBells_L33b fu (f_X7_byBells_L33 fu n33) v_town v_there x1 x2 x3 x4 = some res := h
      unfold f_X7_byBells_L33b at h
      refine lv_iload hx hb dX7_byBells_33 (lv_at hl 4 rfl) ?_
      refine lv_sipush (v := 512) hx hb dX7_byBells_35 (by decide) ?_
      refine lv_icmp_ge (tgt := 55) hx hb dX7_byBells_38 (by decide) (fun c19 => ?_) (fun c19 => ?_)
      · have h := (if_pos c19).symm.trans h
        refine lv_aload_n hx hb dX7_byBells_55 rfl (lv_at hl 0 rfl) ?_
        refine va_get (C := RX7) (T := TX7) (N := 34) (v := .ref (q 19)) hx hb hts iw7 hown hK hP 0 rfl rfl 18 (Nat.le_of_ble_eq_true rfl) lk43 (fun _ h9 => h9) rfl dX7_byBells_56 ?_
        refine lv_iconst (v := 0) hx hb dX7_byBells_59 (by decide) ?_
        refine lv_iconst (v := 1) hx hb dX7_byBells_60 (by decide) ?_
        refine lv_iload_n hx hb dX7_byBells_61 rfl (lv_at hl 1 rfl) ?_
        refine lv_ishl hx hb dX7_byBells_62 ?_
        obtain ⟨hi20, h⟩ := xb_some h
        refine va_iast hx hb hK hP hD hS 2 0 rfl rfl hi20 dX7_byBells_63 (fun H locs hP hD hS => ?_)
        have hP : va_P D vwCl [oX7 q v_size v_at v_begin v_token v_told v_undos v_changed v_felt v_wents v_wish v_trace, rA (q 8) cI 64 v_town, rA (q 19) cI 512 (upd v_there (0 : Int32).toNatClampNeg ((1 : Int32) <<< (x1 &&& 31)))] H := hP
        have hD : va_D A [oX7 q v_size v_at v_begin v_token v_told v_undos v_changed v_felt v_wents v_wish v_trace, rA (q 8) cI 64 v_town, rA (q 19) cI 512 (upd v_there (0 : Int32).toNatClampNeg ((1 : Int32) <<< (x1 &&& 31)))] := hD
        refine lv_iconst (v := 0) hx hb dX7_byBells_64 (by decide) ?_
        refine lv_istore (lv' := [(4, .int (0 : Int32)), (0, .ref (q 0)), (1, .int x1), (2, .int x2), (3, .int x3)]) hx hb dX7_byBells_65 hl (by decide) rfl (fun ls hl => ?_)
        exact hL67 fu (upd v_there (0 : Int32).toNatClampNeg ((1 : Int32) <<< (x1 &&& 31))) x2 x3 (0 : Int32) H locs ls h hP hD hS (lv_sub hl [1, 3, 4, 0] rfl)
      · have h := (if_neg c19).symm.trans h
        refine lv_aload_n hx hb dX7_byBells_41 rfl (lv_at hl 0 rfl) ?_
        refine va_get (C := RX7) (T := TX7) (N := 34) (v := .ref (q 19)) hx hb hts iw7 hown hK hP 0 rfl rfl 18 (Nat.le_of_ble_eq_true rfl) lk43 (fun _ h9 => h9) rfl dX7_byBells_42 ?_
        refine lv_iload hx hb dX7_byBells_45 (lv_at hl 4 rfl) ?_
        refine lv_iconst (v := 0) hx hb dX7_byBells_47 (by decide) ?_
        obtain ⟨hi21, h⟩ := xb_some h
        refine va_iast hx hb hK hP hD hS 2 0 rfl rfl hi21 dX7_byBells_48 (fun H locs hP hD hS => ?_)
        have hP : va_P D vwCl [oX7 q v_size v_at v_begin v_token v_told v_undos v_changed v_felt v_wents v_wish v_trace, rA (q 8) cI 64 v_town, rA (q 19) cI 512 (upd v_there x4.toNatClampNeg (0 : Int32))] H := hP
        have hD : va_D A [oX7 q v_size v_at v_begin v_token v_told v_undos v_changed v_felt v_wents v_wish v_trace, rA (q 8) cI 64 v_town, rA (q 19) cI 512 (upd v_there x4.toNatClampNeg (0 : Int32))] := hD
        refine lv_iinc (v := x4 + 1) (lv' := [(4, .int (x4 + 1)), (0, .ref (q 0)), (1, .int x1), (2, .int x2), (3, .int x3)]) hx hb dX7_byBells_49 hl (k := 4) rfl rfl (by decide) rfl (fun ls hl => ?_)
        refine lv_goto (tgt := 33) hx hb dX7_byBells_52 (by decide) ?_
        exact ih33 (upd v_there x4.toNatClampNeg (0 : Int32)) x1 x2 x3 (x4 + 1) H locs ls h hP hD hS (lv_sub hl [1, 2, 3, 4, 0] rfl)
  have h := hf
  unfold f_X7_byBells at h
  obtain ⟨H, eH⟩ : ∃ H, H = s.heap := ⟨_, rfl⟩
  rw [← eH] at hP ⊢
  obtain ⟨locs, el⟩ : ∃ locs : List Loc, locs = [] := ⟨_, rfl⟩
  rw [← el] at hS ⊢
  have hS : va_S A s.heap H locs := by rw [eH]; exact hS
  refine lv_aload_n hx hb dX7_byBells_0 rfl (lv_at hl 0 rfl) ?_
  refine lv_iload_n hx hb dX7_byBells_1 rfl (lv_at hl 1 rfl) ?_
  obtain ⟨r22, hr22, h⟩ := xk_some h
  refine vx_VJ (As := [.int x1]) (rest := []) hFx (k_X7_isCorner l D cI cZ cT q H.size v_size v_at v_begin v_token v_told v_undos v_changed v_felt v_wents v_wish v_trace v_town x1 r22 hr22) (cwV 1 hts gX7_byBells_X7_isCorner rfl rfl rfl (by decide +kernel) ⟨Nat.le_of_ble_eq_true rfl, Nat.le_of_ble_eq_true rfl⟩) hK hP hD hS hA [0, 1] rfl rfl 7 0 rfl rfl rfl hl.1 rfl (Nat.le_of_ble_eq_true rfl) dX7_byBells_2 ⟨Nat.zero_le _, Nat.zero_le _⟩ (fun H locs hP hS => ?_)
  refine lv_if_eq (tgt := 28) hx hb dX7_byBells_5 (by decide) (fun c23 => ?_) (fun c23 => ?_)
  · have h := (if_pos c23).symm.trans h
    refine lv_iconst (v := (-1)) hx hb dX7_byBells_28 (by decide) ?_
    exact hret (-1 : Int32) v_there H locs _ ls (Option.some.inj h) hP hD hS dX7_byBells_29
  · have h := (if_neg c23).symm.trans h
    refine lv_iload_n hx hb dX7_byBells_8 rfl (lv_at hl 2 rfl) ?_
    refine lv_i2l hx hb dX7_byBells_9 rfl ?_
    refine lv_lconst (v := 0) hx hb dX7_byBells_10 (by decide) ?_
    refine lv_ldc2 (v := (9999)) hx hb hown (hts (.constantLong RX7 198 (9999)) (by decide +kernel)) dX7_byBells_11 ?_
    obtain ⟨r24, hr24, h⟩ := xk_some h
    refine vx_SJ (As := [.long x2.toInt64, .long (0 : Int64), .long (9999 : Int64)]) (rest := []) hFx (k_X7_in l D cI cZ cT H.size x2.toInt64 (0 : Int64) (9999 : Int64) r24 hr24) (vx_cwS 3 hts gX7_byBells_X7_in rfl rfl rfl (by decide +kernel) ⟨Nat.le_of_ble_eq_true rfl, Nat.le_of_ble_eq_true rfl⟩) hK hP hD hS hA rfl hl.1 rfl (Nat.le_of_ble_eq_true rfl) dX7_byBells_14 ⟨Nat.zero_le _, Nat.zero_le _⟩ (fun H locs hP hS => ?_)
    refine lv_if_eq (tgt := 28) hx hb dX7_byBells_17 (by decide) (fun c25 => ?_) (fun c25 => ?_)
    · have h := (if_pos c25).symm.trans h
      refine lv_iconst (v := (-1)) hx hb dX7_byBells_28 (by decide) ?_
      exact hret (-1 : Int32) v_there H locs _ ls (Option.some.inj h) hP hD hS dX7_byBells_29
    · have h := (if_neg c25).symm.trans h
      refine lv_aload_n hx hb dX7_byBells_20 rfl (lv_at hl 0 rfl) ?_
      refine lv_iload_n hx hb dX7_byBells_21 rfl (lv_at hl 3 rfl) ?_
      obtain ⟨r26, hr26, h⟩ := xk_some h
      refine vx_VJ (As := [.int x3]) (rest := []) hFx (k_X7_isCorner l D cI cZ cT q H.size v_size v_at v_begin v_token v_told v_undos v_changed v_felt v_wents v_wish v_trace v_town x3 r26 hr26) (cwV 1 hts gX7_byBells_X7_isCorner rfl rfl rfl (by decide +kernel) ⟨Nat.le_of_ble_eq_true rfl, Nat.le_of_ble_eq_true rfl⟩) hK hP hD hS hA [0, 1] rfl rfl 7 0 rfl rfl rfl hl.1 rfl (Nat.le_of_ble_eq_true rfl) dX7_byBells_22 ⟨Nat.zero_le _, Nat.zero_le _⟩ (fun H locs hP hS => ?_)
      refine lv_if_ne (tgt := 30) hx hb dX7_byBells_25 (by decide) (fun c27 => ?_) (fun c27 => ?_)
      · have h := (if_neg c27).symm.trans h
        refine lv_iconst (v := 0) hx hb dX7_byBells_30 (by decide) ?_
        refine lv_istore (lv' := [(4, .int (0 : Int32)), (0, .ref (q 0)), (1, .int x1), (2, .int x2), (3, .int x3)]) hx hb dX7_byBells_31 hl (by decide) rfl (fun ls hl => ?_)
        exact hL33 fu v_there x1 x2 x3 (0 : Int32) H locs ls h hP hD hS (lv_sub hl [1, 2, 3, 4, 0] rfl)
      · have h := (if_pos c27).symm.trans h
        refine lv_iconst (v := (-1)) hx hb dX7_byBells_28 (by decide) ?_
        exact hret (-1 : Int32) v_there H locs _ ls (Option.some.inj h) hP hD hS dX7_byBells_29
abbrev rm_X7_taught : Room := { frames := 2, cells := 0, slots := 0, locals := 46 }
set_option maxHeartbeats 4000000 in
set_option maxRecDepth 100000 in
theorem k_X7_taught (l : Launch) (D : va_G) (cI cZ cT : ClassId) (q : Nat → Nat) (sz : Nat) (v_size : Int32) (v_at : Int32) (v_begin : Int32) (v_token : Int32) (v_told : Int32) (v_undos : Int32) (v_changed : Int32) (v_felt : Int32) (v_wents : Int32) (v_wish : Int32) (v_trace : Int64) (v_town : Nat → Int32) (x1 : Int32) (x2 : Int32) (res : R_X7_taught) (fu : Nat) (hf : f_X7_taught fu v_town x1 x2 = some res) : Met l yX7_taught wsX7_taught rm_X7_taught (cPre D (tyz cI cZ cT) [.ref (q 0), .int x1, .int x2] sz [oX7 q v_size v_at v_begin v_token v_told v_undos v_changed v_felt v_wents v_wish v_trace, rA (q 8) cI 64 v_town]) (cPi D (tyz cI cZ cT) (fun (r : Int32) (_ : Unit) => r = res) (fun _ => [oX7 q v_size v_at v_begin v_token v_told v_undos v_changed v_felt v_wents v_wish v_trace, rA (q 8) cI 64 v_town]) [oX7 q v_size v_at v_begin v_token v_told v_undos v_changed v_felt v_wents v_wish v_trace, rA (q 8) cI 64 v_town] sz) 0 0 (va_A [oX7 q v_size v_at v_begin v_token v_told v_undos v_changed v_felt v_wents v_wish v_trace, rA (q 8) cI 64 v_town] sz) := by
  refine vx_meth_i (by decide) rfl (Nat.le_of_ble_eq_true rfl) ?_
  intro p e s m args below meth c A Q hx hb hml hown hts hK hP hD hA hS hret ls hl
  have hown : s.vm.findClass RX7 = some m.cls := hown
  have hl : lv_has ls 7 [(0, .ref (q 0)), (1, .int x1), (2, .int x2)] := hl
  have hFx : CallFix p m c cX7_taught 7 s args wsX7_taught RX7 := ⟨hx, hb, hml, hown, hts⟩
  have lk16 := hts (.fieldLink RX7 16 "FogGuidesModel" "town" "[I") (by decide +kernel)
  have iw7 : ∀ w ∈ u_ws RX7 TX7 34, w ∈ wsX7_taught := by decide +kernel
  have hL30 : ∀ (n30 : Nat), ∀ (x1 : Int32) (x2 : Int32) (x3 : Int32) (x4 : Int32) (x5 : Int32) (H : Heap) (locs : List Loc) (ls : Array Slot), f_X7_taught_L30 fu n30 v_town x1 x2 x3 x4 x5 = some res → va_P D vwCl [oX7 q v_size v_at v_begin v_token v_told v_undos v_changed v_felt v_wents v_wish v_trace, rA (q 8) cI 64 v_town] H → va_D A [oX7 q v_size v_at v_begin v_token v_told v_undos v_changed v_felt v_wents v_wish v_trace, rA (q 8) cI 64 v_town] → va_S A s.heap H locs → lv_has ls 7 [(0, .ref (q 0)), (1, .int x1), (2, .int x2), (3, .int x3), (4, .int x4), (5, .int x5)] → W p l e rm_X7_taught s m args below meth c H locs 0 0 Q (F0 m 30 ls []) := by
    intro n30
    induction n30 with
    | zero =>
      intro x1 x2 x3 x4 x5 H locs ls h hP hD hS hl
      cases (show (none : Option R_X7_taught) = some res from h)
    | succ n30 ih30 =>
      have hJ91 : ∀ (x1 : Int32) (x2 : Int32) (x4 : Int32) (x5 : Int32) (x6 : Int32) (z0 : Int32) (H : Heap) (locs : List Loc) (ls : Array Slot), f_X7_taught_J91 fu (f_X7_taught_L30 fu n30) v_town x1 x2 x4 x5 x6 z0 = some res → va_P D vwCl [oX7 q v_size v_at v_begin v_token v_told v_undos v_changed v_felt v_wents v_wish v_trace, rA (q 8) cI 64 v_town] H → va_D A [oX7 q v_size v_at v_begin v_token v_told v_undos v_changed v_felt v_wents v_wish v_trace, rA (q 8) cI 64 v_town] → va_S A s.heap H locs → lv_has ls 7 [(0, .ref (q 0)), (1, .int x1), (2, .int x2), (4, .int x4), (5, .int x5), (6, .int x6)] → W p l e rm_X7_taught s m args below meth c H locs 0 0 Q (F0 m 91 ls [.int z0]) := by
        intro x1 x2 x4 x5 x6 z0 H locs ls h hP hD hS hl
        unfold f_X7_taught_J91 at h
        refine lv_istore_n (lv' := [(3, .int z0), (0, .ref (q 0)), (1, .int x1), (2, .int x2), (4, .int x4), (5, .int x5), (6, .int x6)]) hx hb dX7_taught_91 rfl hl (by decide) rfl (fun ls hl => ?_)
        refine lv_iload hx hb dX7_taught_92 (lv_at hl 6 rfl) ?_
        refine lv_iload hx hb dX7_taught_94 (lv_at hl 4 rfl) ?_
        refine lv_icmp_le (tgt := 104) hx hb dX7_taught_96 (by decide) (fun c1 => ?_) (fun c1 => ?_)
        · have h := (if_pos c1).symm.trans h
          refine lv_iload hx hb dX7_taught_104 (lv_at hl 4 rfl) ?_
          refine lv_istore (lv' := [(4, .int x4), (3, .int z0), (0, .ref (q 0)), (1, .int x1), (2, .int x2), (5, .int x5), (6, .int x6)]) hx hb dX7_taught_106 hl (by decide) rfl (fun ls hl => ?_)
          refine lv_iinc (v := x5 + 1) (lv' := [(5, .int (x5 + 1)), (4, .int x4), (3, .int z0), (0, .ref (q 0)), (1, .int x1), (2, .int x2), (6, .int x6)]) hx hb dX7_taught_108 hl (k := 5) rfl rfl (by decide) rfl (fun ls hl => ?_)
          refine lv_goto (tgt := 30) hx hb dX7_taught_111 (by decide) ?_
          exact ih30 x1 x2 z0 x4 (x5 + 1) H locs ls h hP hD hS (lv_sub hl [3, 4, 5, 2, 1, 0] rfl)
        · have h := (if_neg c1).symm.trans h
          refine lv_iload hx hb dX7_taught_99 (lv_at hl 6 rfl) ?_
          refine lv_goto (tgt := 106) hx hb dX7_taught_101 (by decide) ?_
          refine lv_istore (lv' := [(4, .int x6), (3, .int z0), (0, .ref (q 0)), (1, .int x1), (2, .int x2), (5, .int x5), (6, .int x6)]) hx hb dX7_taught_106 hl (by decide) rfl (fun ls hl => ?_)
          refine lv_iinc (v := x5 + 1) (lv' := [(5, .int (x5 + 1)), (4, .int x6), (3, .int z0), (0, .ref (q 0)), (1, .int x1), (2, .int x2), (6, .int x6)]) hx hb dX7_taught_108 hl (k := 5) rfl rfl (by decide) rfl (fun ls hl => ?_)
          refine lv_goto (tgt := 30) hx hb dX7_taught_111 (by decide) ?_
          exact ih30 x1 x2 z0 x6 (x5 + 1) H locs ls h hP hD hS (lv_sub hl [3, 4, 5, 2, 1, 0] rfl)
      intro x1 x2 x3 x4 x5 H locs ls h hP hD hS hl
      have h : f_X7_taught_L30b fu (f_X7_taught_L30 fu n30) v_town x1 x2 x3 x4 x5 = some res := h
      unfold f_X7_taught_L30b at h
      refine lv_iload hx hb dX7_taught_30 (lv_at hl 5 rfl) ?_
      refine lv_aload_n hx hb dX7_taught_32 rfl (lv_at hl 0 rfl) ?_
      refine va_get (C := RX7) (T := TX7) (N := 34) (v := .ref (q 8)) hx hb hts iw7 hown hK hP 0 rfl rfl 7 (Nat.le_of_ble_eq_true rfl) lk16 (fun _ h9 => h9) rfl dX7_taught_33 ?_
      refine lv_iconst (v := 1) hx hb dX7_taught_36 (by decide) ?_
      obtain ⟨hi2, h⟩ := xb_some h
      refine va_iald hx hb hK hP 1 0 rfl rfl hi2 dX7_taught_37 ?_
      refine lv_icmp_ge (tgt := 114) hx hb dX7_taught_38 (by decide) (fun c3 => ?_) (fun c3 => ?_)
      · have h := (if_pos c3).symm.trans h
        refine lv_iload_n hx hb dX7_taught_114 rfl (lv_at hl 2 rfl) ?_
        refine lv_if_ne (tgt := 122) hx hb dX7_taught_115 (by decide) (fun c4 => ?_) (fun c4 => ?_)
        · have h := (if_neg c4).symm.trans h
          refine lv_iload hx hb dX7_taught_122 (lv_at hl 4 rfl) ?_
          exact hret x4 () H locs _ ls (Option.some.inj h) hP hD hS dX7_taught_124
        · have h := (if_pos c4).symm.trans h
          refine lv_iload_n hx hb dX7_taught_118 rfl (lv_at hl 3 rfl) ?_
          refine lv_goto (tgt := 124) hx hb dX7_taught_119 (by decide) ?_
          exact hret x3 () H locs _ ls (Option.some.inj h) hP hD hS dX7_taught_124
      · have h := (if_neg c3).symm.trans h
        refine lv_aload_n hx hb dX7_taught_41 rfl (lv_at hl 0 rfl) ?_
        refine lv_iload_n hx hb dX7_taught_42 rfl (lv_at hl 1 rfl) ?_
        obtain ⟨r5, hr5, h⟩ := xk_some h
        refine vx_VJ (As := [.int x1]) (rest := []) hFx (k_X7_known l D cI cZ cT q H.size v_size v_at v_begin v_token v_told v_undos v_changed v_felt v_wents v_wish v_trace v_town x1 r5 hr5) (cwV 1 hts gX7_taught_X7_known rfl rfl rfl (by decide +kernel) ⟨Nat.le_of_ble_eq_true rfl, Nat.le_of_ble_eq_true rfl⟩) hK hP hD hS hA [0, 1] rfl rfl 7 0 rfl rfl rfl hl.1 rfl (Nat.le_of_ble_eq_true rfl) dX7_taught_43 ⟨Nat.zero_le _, Nat.zero_le _⟩ (fun H locs hP hS => ?_)
        refine lv_iload hx hb dX7_taught_46 (lv_at hl 5 rfl) ?_
        refine lv_ishr hx hb dX7_taught_48 ?_
        refine lv_iconst (v := 1) hx hb dX7_taught_49 (by decide) ?_
        refine lv_iand hx hb dX7_taught_50 ?_
        refine lv_if_ne (tgt := 108) hx hb dX7_taught_51 (by decide) (fun c6 => ?_) (fun c6 => ?_)
        · have h := (if_neg c6).symm.trans h
          refine lv_iinc (v := x5 + 1) (lv' := [(5, .int (x5 + 1)), (0, .ref (q 0)), (1, .int x1), (2, .int x2), (3, .int x3), (4, .int x4)]) hx hb dX7_taught_108 hl (k := 5) rfl rfl (by decide) rfl (fun ls hl => ?_)
          refine lv_goto (tgt := 30) hx hb dX7_taught_111 (by decide) ?_
          exact ih30 x1 x2 x3 x4 (x5 + 1) H locs ls h hP hD hS (lv_sub hl [1, 2, 3, 4, 5, 0] rfl)
        · have h := (if_pos c6).symm.trans h
          refine lv_aload_n hx hb dX7_taught_54 rfl (lv_at hl 0 rfl) ?_
          refine lv_aload_n hx hb dX7_taught_55 rfl (lv_at hl 0 rfl) ?_
          refine lv_iload_n hx hb dX7_taught_56 rfl (lv_at hl 1 rfl) ?_
          obtain ⟨r7, hr7, h⟩ := xk_some h
          refine vx_VJ (As := [.int x1]) (rest := [.ref (q 0)]) hFx (k_X7_his l D cI cZ cT q H.size v_size v_at v_begin v_token v_told v_undos v_changed v_felt v_wents v_wish v_trace v_town x1 r7 hr7) (cwV 1 hts gX7_taught_X7_his rfl rfl rfl (by decide +kernel) ⟨Nat.le_of_ble_eq_true rfl, Nat.le_of_ble_eq_true rfl⟩) hK hP hD hS hA [0, 1] rfl rfl 7 0 rfl rfl rfl hl.1 rfl (Nat.le_of_ble_eq_true rfl) dX7_taught_57 ⟨Nat.zero_le _, Nat.zero_le _⟩ (fun H locs hP hS => ?_)
          refine lv_aload_n hx hb dX7_taught_60 rfl (lv_at hl 0 rfl) ?_
          refine lv_iload_n hx hb dX7_taught_61 rfl (lv_at hl 1 rfl) ?_
          obtain ⟨r8, hr8, h⟩ := xk_some h
          refine vx_VJ (As := [.int x1]) (rest := [.int r7, .ref (q 0)]) hFx (k_X7_known l D cI cZ cT q H.size v_size v_at v_begin v_token v_told v_undos v_changed v_felt v_wents v_wish v_trace v_town x1 r8 hr8) (cwV 1 hts gX7_taught_X7_known rfl rfl rfl (by decide +kernel) ⟨Nat.le_of_ble_eq_true rfl, Nat.le_of_ble_eq_true rfl⟩) hK hP hD hS hA [0, 1] rfl rfl 7 0 rfl rfl rfl hl.1 rfl (Nat.le_of_ble_eq_true rfl) dX7_taught_62 ⟨Nat.zero_le _, Nat.zero_le _⟩ (fun H locs hP hS => ?_)
          refine lv_iconst (v := 1) hx hb dX7_taught_65 (by decide) ?_
          refine lv_iload hx hb dX7_taught_66 (lv_at hl 5 rfl) ?_
          refine lv_ishl hx hb dX7_taught_68 ?_
          refine lv_ior hx hb dX7_taught_69 ?_
          obtain ⟨r9, hr9, h⟩ := xk_some h
          refine vx_VJ (As := [.int r7, .int (r8 ||| ((1 : Int32) <<< (x5 &&& 31)))]) (rest := []) hFx (k_X7_reach l D cI cZ cT q H.size v_size v_at v_begin v_token v_told v_undos v_changed v_felt v_wents v_wish v_trace v_town r7 (r8 ||| ((1 : Int32) <<< (x5 &&& 31))) r9 fu hr9) (cwV 2 hts gX7_taught_X7_reach rfl rfl rfl (by decide +kernel) ⟨Nat.le_of_ble_eq_true rfl, Nat.le_of_ble_eq_true rfl⟩) hK hP hD hS hA [0, 1] rfl rfl 7 0 rfl rfl rfl hl.1 rfl (Nat.le_of_ble_eq_true rfl) dX7_taught_70 ⟨Nat.zero_le _, Nat.zero_le _⟩ (fun H locs hP hS => ?_)
          obtain ⟨r10, hr10, h⟩ := xk_some h
          refine vx_SJ (As := [.int r9]) (rest := []) hFx (k_X7_many l D cI cZ cT H.size r9 r10 fu hr10) (vx_cwS 1 hts gX7_taught_X7_many rfl rfl rfl (by decide +kernel) ⟨Nat.le_of_ble_eq_true rfl, Nat.le_of_ble_eq_true rfl⟩) hK hP hD hS hA rfl hl.1 rfl (Nat.le_of_ble_eq_true rfl) dX7_taught_73 ⟨Nat.zero_le _, Nat.zero_le _⟩ (fun H locs hP hS => ?_)
          refine lv_istore (lv' := [(6, .int r10), (0, .ref (q 0)), (1, .int x1), (2, .int x2), (3, .int x3), (4, .int x4), (5, .int x5)]) hx hb dX7_taught_76 hl (by decide) rfl (fun ls hl => ?_)
          refine lv_iload hx hb dX7_taught_78 (lv_at hl 0 rfl) ?_
          refine lv_iload hx hb dX7_taught_80 (lv_at hl 5 rfl) ?_
          refine lv_icmp_le (tgt := 90) hx hb dX7_taught_82 (by decide) (fun c11 => ?_) (fun c11 => ?_)
          · have h := (if_pos c11).symm.trans h
            refine lv_iload_n hx hb dX7_taught_90 rfl (lv_at hl 4 rfl) ?_
            exact hJ91 x1 x2 x4 x5 r10 x3 H locs ls h hP hD hS (lv_sub hl [1, 2, 3, 5, 6, 0] rfl)
          · have h := (if_neg c11).symm.trans h
            refine lv_iload hx hb dX7_taught_85 (lv_at hl 6 rfl) ?_
            refine lv_goto (tgt := 91) hx hb dX7_taught_87 (by decide) ?_
            exact hJ91 x1 x2 x4 x5 r10 x5 H locs ls h hP hD hS (lv_sub hl [1, 2, 3, 5, 6, 0] rfl)
  have h := hf
  unfold f_X7_taught at h
  obtain ⟨H, eH⟩ : ∃ H, H = s.heap := ⟨_, rfl⟩
  rw [← eH] at hP ⊢
  obtain ⟨locs, el⟩ : ∃ locs : List Loc, locs = [] := ⟨_, rfl⟩
  rw [← el] at hS ⊢
  have hS : va_S A s.heap H locs := by rw [eH]; exact hS
  refine lv_aload_n hx hb dX7_taught_0 rfl (lv_at hl 0 rfl) ?_
  refine lv_iload_n hx hb dX7_taught_1 rfl (lv_at hl 1 rfl) ?_
  obtain ⟨r12, hr12, h⟩ := xk_some h
  refine vx_VJ (As := [.int x1]) (rest := []) hFx (k_X7_isGuide l D cI cZ cT q H.size v_size v_at v_begin v_token v_told v_undos v_changed v_felt v_wents v_wish v_trace v_town x1 r12 hr12) (cwV 1 hts gX7_taught_X7_isGuide rfl rfl rfl (by decide +kernel) ⟨Nat.le_of_ble_eq_true rfl, Nat.le_of_ble_eq_true rfl⟩) hK hP hD hS hA [0, 1] rfl rfl 7 0 rfl rfl rfl hl.1 rfl (Nat.le_of_ble_eq_true rfl) dX7_taught_2 ⟨Nat.zero_le _, Nat.zero_le _⟩ (fun H locs hP hS => ?_)
  refine lv_if_eq (tgt := 18) hx hb dX7_taught_5 (by decide) (fun c13 => ?_) (fun c13 => ?_)
  · have h := (if_pos c13).symm.trans h
    refine lv_iconst (v := (-1)) hx hb dX7_taught_18 (by decide) ?_
    exact hret (-1 : Int32) () H locs _ ls (Option.some.inj h) hP hD hS dX7_taught_19
  · have h := (if_neg c13).symm.trans h
    refine lv_iload_n hx hb dX7_taught_8 rfl (lv_at hl 2 rfl) ?_
    refine lv_i2l hx hb dX7_taught_9 rfl ?_
    refine lv_lconst (v := 0) hx hb dX7_taught_10 (by decide) ?_
    refine lv_lconst (v := 1) hx hb dX7_taught_11 (by decide) ?_
    obtain ⟨r14, hr14, h⟩ := xk_some h
    refine vx_SJ (As := [.long x2.toInt64, .long (0 : Int64), .long (1 : Int64)]) (rest := []) hFx (k_X7_in l D cI cZ cT H.size x2.toInt64 (0 : Int64) (1 : Int64) r14 hr14) (vx_cwS 3 hts gX7_taught_X7_in rfl rfl rfl (by decide +kernel) ⟨Nat.le_of_ble_eq_true rfl, Nat.le_of_ble_eq_true rfl⟩) hK hP hD hS hA rfl hl.1 rfl (Nat.le_of_ble_eq_true rfl) dX7_taught_12 ⟨Nat.zero_le _, Nat.zero_le _⟩ (fun H locs hP hS => ?_)
    refine lv_if_ne (tgt := 20) hx hb dX7_taught_15 (by decide) (fun c15 => ?_) (fun c15 => ?_)
    · have h := (if_neg c15).symm.trans h
      refine lv_bipush (v := (-9)) hx hb dX7_taught_20 (by decide) ?_
      refine lv_istore_n (lv' := [(3, .int (-9 : Int32)), (0, .ref (q 0)), (1, .int x1), (2, .int x2)]) hx hb dX7_taught_22 rfl hl (by decide) rfl (fun ls hl => ?_)
      refine lv_bipush (v := (-9)) hx hb dX7_taught_23 (by decide) ?_
      refine lv_istore (lv' := [(4, .int (-9 : Int32)), (3, .int (-9 : Int32)), (0, .ref (q 0)), (1, .int x1), (2, .int x2)]) hx hb dX7_taught_25 hl (by decide) rfl (fun ls hl => ?_)
      refine lv_iconst (v := 0) hx hb dX7_taught_27 (by decide) ?_
      refine lv_istore (lv' := [(5, .int (0 : Int32)), (4, .int (-9 : Int32)), (3, .int (-9 : Int32)), (0, .ref (q 0)), (1, .int x1), (2, .int x2)]) hx hb dX7_taught_28 hl (by decide) rfl (fun ls hl => ?_)
      exact hL30 fu x1 x2 (-9 : Int32) (-9 : Int32) (0 : Int32) H locs ls h hP hD hS (lv_sub hl [3, 4, 5, 2, 1, 0] rfl)
    · have h := (if_pos c15).symm.trans h
      refine lv_iconst (v := (-1)) hx hb dX7_taught_18 (by decide) ?_
      exact hret (-1 : Int32) () H locs _ ls (Option.some.inj h) hP hD hS dX7_taught_19
abbrev rm_X7_feels : Room := { frames := 1, cells := 0, slots := 0, locals := 25 }
set_option maxHeartbeats 4000000 in
set_option maxRecDepth 100000 in
theorem k_X7_feels (l : Launch) (D : va_G) (cI cZ cT : ClassId) (q : Nat → Nat) (sz : Nat) (v_size : Int32) (v_at : Int32) (v_begin : Int32) (v_token : Int32) (v_told : Int32) (v_undos : Int32) (v_changed : Int32) (v_felt : Int32) (v_wents : Int32) (v_wish : Int32) (v_trace : Int64) (v_marks : Nat → Int32) (x1 : Int32) (res : R_X7_feels) (hf : f_X7_feels v_felt v_marks x1 = some res) : Met l yX7_feels wsX7_feels rm_X7_feels (cPre D (tyz cI cZ cT) [.ref (q 0), .int x1] sz [oX7 q v_size v_at v_begin v_token v_told v_undos v_changed v_felt v_wents v_wish v_trace, rA (q 21) cI 6 v_marks]) (cPi D (tyz cI cZ cT) (fun (r : Int32) (u : Int32 × (Nat → Int32)) => (r, u) = res) (fun u => [oX7 q v_size v_at v_begin v_token v_told v_undos v_changed u.1 v_wents v_wish v_trace, rA (q 21) cI 6 u.2]) [oX7 q v_size v_at v_begin v_token v_told v_undos v_changed v_felt v_wents v_wish v_trace, rA (q 21) cI 6 v_marks] sz) 0 0 (va_A [oX7 q v_size v_at v_begin v_token v_told v_undos v_changed v_felt v_wents v_wish v_trace, rA (q 21) cI 6 v_marks] sz) := by
  refine vx_meth_i (by decide) rfl (Nat.le_of_ble_eq_true rfl) ?_
  intro p e s m args below meth c A Q hx hb hml hown hts hK hP hD hA hS hret ls hl
  have hown : s.vm.findClass RX7 = some m.cls := hown
  have hl : lv_has ls 2 [(0, .ref (q 0)), (1, .int x1)] := hl
  have hFx : CallFix p m c cX7_feels 2 s args wsX7_feels RX7 := ⟨hx, hb, hml, hown, hts⟩
  have lk157 := hts (.fieldLink RX7 157 "FogGuidesModel" "felt" "I") (by decide +kernel)
  have iw7 : ∀ w ∈ u_ws RX7 TX7 34, w ∈ wsX7_feels := by decide +kernel
  have lk46 := hts (.fieldLink RX7 46 "FogGuidesModel" "marks" "[I") (by decide +kernel)
  have h := hf
  unfold f_X7_feels at h
  obtain ⟨H, eH⟩ : ∃ H, H = s.heap := ⟨_, rfl⟩
  rw [← eH] at hP ⊢
  obtain ⟨locs, el⟩ : ∃ locs : List Loc, locs = [] := ⟨_, rfl⟩
  rw [← el] at hS ⊢
  have hS : va_S A s.heap H locs := by rw [eH]; exact hS
  refine lv_iload_n hx hb dX7_feels_0 rfl (lv_at hl 1 rfl) ?_
  refine lv_i2l hx hb dX7_feels_1 rfl ?_
  refine lv_lconst (v := 0) hx hb dX7_feels_2 (by decide) ?_
  refine lv_ldc2 (v := (3)) hx hb hown (hts (.constantLong RX7 184 (3)) (by decide +kernel)) dX7_feels_3 ?_
  obtain ⟨r1, hr1, h⟩ := xk_some h
  refine vx_SJ (As := [.long x1.toInt64, .long (0 : Int64), .long (3 : Int64)]) (rest := []) hFx (k_X7_in l D cI cZ cT H.size x1.toInt64 (0 : Int64) (3 : Int64) r1 hr1) (vx_cwS 3 hts gX7_feels_X7_in rfl rfl rfl (by decide +kernel) ⟨Nat.le_of_ble_eq_true rfl, Nat.le_of_ble_eq_true rfl⟩) hK hP hD hS hA rfl hl.1 rfl (Nat.le_of_ble_eq_true rfl) dX7_feels_6 ⟨Nat.zero_le _, Nat.zero_le _⟩ (fun H locs hP hS => ?_)
  refine lv_if_ne (tgt := 14) hx hb dX7_feels_9 (by decide) (fun c2 => ?_) (fun c2 => ?_)
  · have h := (if_neg c2).symm.trans h
    refine lv_aload_n hx hb dX7_feels_14 rfl (lv_at hl 0 rfl) ?_
    refine va_get (C := RX7) (T := TX7) (N := 34) (v := .int v_felt) hx hb hts iw7 hown hK hP 0 rfl rfl 19 (Nat.le_of_ble_eq_true rfl) lk157 (fun _ h9 => h9) rfl dX7_feels_15 ?_
    refine lv_bipush (v := 6) hx hb dX7_feels_18 (by decide) ?_
    refine lv_icmp_ne (tgt := 26) hx hb dX7_feels_20 (by decide) (fun c3 => ?_) (fun c3 => ?_)
    · have h := (if_neg c3).symm.trans h
      refine lv_aload_n hx hb dX7_feels_26 rfl (lv_at hl 0 rfl) ?_
      refine va_get (C := RX7) (T := TX7) (N := 34) (v := .ref (q 21)) hx hb hts iw7 hown hK hP 0 rfl rfl 20 (Nat.le_of_ble_eq_true rfl) lk46 (fun _ h9 => h9) rfl dX7_feels_27 ?_
      refine lv_aload_n hx hb dX7_feels_30 rfl (lv_at hl 0 rfl) ?_
      refine va_get (C := RX7) (T := TX7) (N := 34) (v := .int v_felt) hx hb hts iw7 hown hK hP 0 rfl rfl 19 (Nat.le_of_ble_eq_true rfl) lk157 (fun _ h9 => h9) rfl dX7_feels_31 ?_
      refine lv_iload_n hx hb dX7_feels_34 rfl (lv_at hl 1 rfl) ?_
      obtain ⟨hi4, h⟩ := xb_some h
      refine va_iast hx hb hK hP hD hS 1 0 rfl rfl hi4 dX7_feels_35 (fun H locs hP hD hS => ?_)
      have hP : va_P D vwCl [oX7 q v_size v_at v_begin v_token v_told v_undos v_changed v_felt v_wents v_wish v_trace, rA (q 21) cI 6 (upd v_marks v_felt.toNatClampNeg x1)] H := hP
      have hD : va_D A [oX7 q v_size v_at v_begin v_token v_told v_undos v_changed v_felt v_wents v_wish v_trace, rA (q 21) cI 6 (upd v_marks v_felt.toNatClampNeg x1)] := hD
      refine lv_aload_n hx hb dX7_feels_36 rfl (lv_at hl 0 rfl) ?_
      refine lv_dup hx hb dX7_feels_37 rfl ?_
      refine va_get (C := RX7) (T := TX7) (N := 34) (v := .int v_felt) hx hb hts iw7 hown hK hP 0 rfl rfl 19 (Nat.le_of_ble_eq_true rfl) lk157 (fun _ h9 => h9) rfl dX7_feels_38 ?_
      refine lv_iconst (v := 1) hx hb dX7_feels_41 (by decide) ?_
      refine lv_iadd hx hb dX7_feels_42 ?_
      refine va_put (C := RX7) (T := TX7) (N := 34) (v := .int (v_felt + (1 : Int32))) (ty := .int) hx hb hts iw7 tyX7 tyX7_ok nmX7 hown hK hP hD hS 0 rfl rfl 19 (Nat.le_of_ble_eq_true rfl) lk157 (fun _ h9 => h9) rfl (by decide +kernel) rfl rfl (Nat.le_of_ble_eq_true rfl) dX7_feels_43 (fun H locs hP hD hS => ?_)
      have hP : va_P D vwCl [oX7 q v_size v_at v_begin v_token v_told v_undos v_changed (v_felt + (1 : Int32)) v_wents v_wish v_trace, rA (q 21) cI 6 (upd v_marks v_felt.toNatClampNeg x1)] H := hP
      have hD : va_D A [oX7 q v_size v_at v_begin v_token v_told v_undos v_changed (v_felt + (1 : Int32)) v_wents v_wish v_trace, rA (q 21) cI 6 (upd v_marks v_felt.toNatClampNeg x1)] := hD
      refine lv_aload_n hx hb dX7_feels_46 rfl (lv_at hl 0 rfl) ?_
      refine va_get (C := RX7) (T := TX7) (N := 34) (v := .int (v_felt + (1 : Int32))) hx hb hts iw7 hown hK hP 0 rfl rfl 19 (Nat.le_of_ble_eq_true rfl) lk157 (fun _ h9 => h9) rfl dX7_feels_47 ?_
      exact hret (v_felt + (1 : Int32)) ((v_felt + (1 : Int32), upd v_marks v_felt.toNatClampNeg x1)) H locs _ ls (Option.some.inj h) hP hD hS dX7_feels_50
    · have h := (if_pos c3).symm.trans h
      refine lv_bipush (v := (-3)) hx hb dX7_feels_23 (by decide) ?_
      exact hret (-3 : Int32) (v_felt, v_marks) H locs _ ls (Option.some.inj h) hP hD hS dX7_feels_25
  · have h := (if_pos c2).symm.trans h
    refine lv_iconst (v := (-1)) hx hb dX7_feels_12 (by decide) ?_
    exact hret (-1 : Int32) (v_felt, v_marks) H locs _ ls (Option.some.inj h) hP hD hS dX7_feels_13
abbrev rm_X7_areBeside : Room := { frames := 1, cells := 0, slots := 0, locals := 24 }
set_option maxHeartbeats 4000000 in
set_option maxRecDepth 100000 in
theorem k_X7_areBeside (l : Launch) (D : va_G) (cI cZ cT : ClassId) (q : Nat → Nat) (sz : Nat) (v_size : Int32) (v_at : Int32) (v_begin : Int32) (v_token : Int32) (v_told : Int32) (v_undos : Int32) (v_changed : Int32) (v_felt : Int32) (v_wents : Int32) (v_wish : Int32) (v_trace : Int64) (v_town : Nat → Int32) (x1 : Int32) (x2 : Int32) (res : R_X7_areBeside) (fu : Nat) (hf : f_X7_areBeside fu v_town x1 x2 = some res) : Met l yX7_areBeside wsX7_areBeside rm_X7_areBeside (cPre D (tyz cI cZ cT) [.ref (q 0), .int x1, .int x2] sz [oX7 q v_size v_at v_begin v_token v_told v_undos v_changed v_felt v_wents v_wish v_trace, rA (q 8) cI 64 v_town]) (cPi D (tyz cI cZ cT) (fun (r : Int32) (_ : Unit) => r = res) (fun _ => [oX7 q v_size v_at v_begin v_token v_told v_undos v_changed v_felt v_wents v_wish v_trace, rA (q 8) cI 64 v_town]) [oX7 q v_size v_at v_begin v_token v_told v_undos v_changed v_felt v_wents v_wish v_trace, rA (q 8) cI 64 v_town] sz) 0 0 (va_A [oX7 q v_size v_at v_begin v_token v_told v_undos v_changed v_felt v_wents v_wish v_trace, rA (q 8) cI 64 v_town] sz) := by
  refine vx_meth_z (by decide) rfl (Nat.le_of_ble_eq_true rfl) ?_
  intro p e s m args below meth c A Q hx hb hml hown hts hK hP hD hA hS hret ls hl
  have hown : s.vm.findClass RX7 = some m.cls := hown
  have hl : lv_has ls 5 [(0, .ref (q 0)), (1, .int x1), (2, .int x2)] := hl
  have hFx : CallFix p m c cX7_areBeside 5 s args wsX7_areBeside RX7 := ⟨hx, hb, hml, hown, hts⟩
  have lk16 := hts (.fieldLink RX7 16 "FogGuidesModel" "town" "[I") (by decide +kernel)
  have iw7 : ∀ w ∈ u_ws RX7 TX7 34, w ∈ wsX7_areBeside := by decide +kernel
  have hL5 : ∀ (n5 : Nat), ∀ (x1 : Int32) (x2 : Int32) (x3 : Int32) (x4 : Int32) (H : Heap) (locs : List Loc) (ls : Array Slot), f_X7_areBeside_L5 fu n5 v_town x1 x2 x3 x4 = some res → va_P D vwCl [oX7 q v_size v_at v_begin v_token v_told v_undos v_changed v_felt v_wents v_wish v_trace, rA (q 8) cI 64 v_town] H → va_D A [oX7 q v_size v_at v_begin v_token v_told v_undos v_changed v_felt v_wents v_wish v_trace, rA (q 8) cI 64 v_town] → va_S A s.heap H locs → lv_has ls 5 [(0, .ref (q 0)), (1, .int x1), (2, .int x2), (3, .int x3), (4, .int x4)] → W p l e rm_X7_areBeside s m args below meth c H locs 0 0 Q (F0 m 5 ls []) := by
    intro n5
    induction n5 with
    | zero =>
      intro x1 x2 x3 x4 H locs ls h hP hD hS hl
      cases (show (none : Option R_X7_areBeside) = some res from h)
    | succ n5 ih5 =>
      intro x1 x2 x3 x4 H locs ls h hP hD hS hl
      have h : f_X7_areBeside_L5b fu (f_X7_areBeside_L5 fu n5) v_town x1 x2 x3 x4 = some res := h
      unfold f_X7_areBeside_L5b at h
      refine lv_iload hx hb dX7_areBeside_5 (lv_at hl 4 rfl) ?_
      refine lv_aload_n hx hb dX7_areBeside_7 rfl (lv_at hl 0 rfl) ?_
      refine va_get (C := RX7) (T := TX7) (N := 34) (v := .ref (q 8)) hx hb hts iw7 hown hK hP 0 rfl rfl 7 (Nat.le_of_ble_eq_true rfl) lk16 (fun _ h9 => h9) rfl dX7_areBeside_8 ?_
      refine lv_iconst (v := 1) hx hb dX7_areBeside_11 (by decide) ?_
      obtain ⟨hi1, h⟩ := xb_some h
      refine va_iald hx hb hK hP 1 0 rfl rfl hi1 dX7_areBeside_12 ?_
      refine lv_icmp_ge (tgt := 43) hx hb dX7_areBeside_13 (by decide) (fun c2 => ?_) (fun c2 => ?_)
      · have h := (if_pos c2).symm.trans h
        refine lv_iload_n hx hb dX7_areBeside_43 rfl (lv_at hl 3 rfl) ?_
        obtain ⟨hz3, h⟩ := xz_some h
        exact hret x3 () H locs _ ls hz3 (Option.some.inj h) hP hD hS dX7_areBeside_44
      · have h := (if_neg c2).symm.trans h
        refine lv_iload_n hx hb dX7_areBeside_16 rfl (lv_at hl 3 rfl) ?_
        refine lv_if_ne (tgt := 31) hx hb dX7_areBeside_17 (by decide) (fun c4 => ?_) (fun c4 => ?_)
        · have h := (if_neg c4).symm.trans h
          refine lv_iconst (v := 1) hx hb dX7_areBeside_31 (by decide) ?_
          refine lv_goto (tgt := 36) hx hb dX7_areBeside_32 (by decide) ?_
          refine lv_istore_n (lv' := [(3, .int (1 : Int32)), (0, .ref (q 0)), (1, .int x1), (2, .int x2), (4, .int x4)]) hx hb dX7_areBeside_36 rfl hl (by decide) rfl (fun ls hl => ?_)
          refine lv_iinc (v := x4 + 1) (lv' := [(4, .int (x4 + 1)), (3, .int (1 : Int32)), (0, .ref (q 0)), (1, .int x1), (2, .int x2)]) hx hb dX7_areBeside_37 hl (k := 4) rfl rfl (by decide) rfl (fun ls hl => ?_)
          refine lv_goto (tgt := 5) hx hb dX7_areBeside_40 (by decide) ?_
          exact ih5 x1 x2 (1 : Int32) (x4 + 1) H locs ls h hP hD hS (lv_sub hl [2, 3, 4, 1, 0] rfl)
        · have h := (if_pos c4).symm.trans h
          refine lv_aload_n hx hb dX7_areBeside_20 rfl (lv_at hl 0 rfl) ?_
          refine lv_iload hx hb dX7_areBeside_21 (lv_at hl 4 rfl) ?_
          refine lv_iload_n hx hb dX7_areBeside_23 rfl (lv_at hl 1 rfl) ?_
          obtain ⟨r5, hr5, h⟩ := xk_some h
          refine vx_VJ (As := [.int x4, .int x1]) (rest := []) hFx (k_X7_over l D cI cZ cT q H.size v_size v_at v_begin v_token v_told v_undos v_changed v_felt v_wents v_wish v_trace v_town x4 x1 r5 hr5) (cwV 2 hts gX7_areBeside_X7_over rfl rfl rfl (by decide +kernel) ⟨Nat.le_of_ble_eq_true rfl, Nat.le_of_ble_eq_true rfl⟩) hK hP hD hS hA [0, 1] rfl rfl 7 0 rfl rfl rfl hl.1 rfl (Nat.le_of_ble_eq_true rfl) dX7_areBeside_24 ⟨Nat.zero_le _, Nat.zero_le _⟩ (fun H locs hP hS => ?_)
          refine lv_iload_n hx hb dX7_areBeside_27 rfl (lv_at hl 2 rfl) ?_
          refine lv_icmp_ne (tgt := 35) hx hb dX7_areBeside_28 (by decide) (fun c6 => ?_) (fun c6 => ?_)
          · have h := (if_neg c6).symm.trans h
            refine lv_iconst (v := 0) hx hb dX7_areBeside_35 (by decide) ?_
            refine lv_istore_n (lv' := [(3, .int (0 : Int32)), (0, .ref (q 0)), (1, .int x1), (2, .int x2), (4, .int x4)]) hx hb dX7_areBeside_36 rfl hl (by decide) rfl (fun ls hl => ?_)
            refine lv_iinc (v := x4 + 1) (lv' := [(4, .int (x4 + 1)), (3, .int (0 : Int32)), (0, .ref (q 0)), (1, .int x1), (2, .int x2)]) hx hb dX7_areBeside_37 hl (k := 4) rfl rfl (by decide) rfl (fun ls hl => ?_)
            refine lv_goto (tgt := 5) hx hb dX7_areBeside_40 (by decide) ?_
            exact ih5 x1 x2 (0 : Int32) (x4 + 1) H locs ls h hP hD hS (lv_sub hl [2, 3, 4, 1, 0] rfl)
          · have h := (if_pos c6).symm.trans h
            refine lv_iconst (v := 1) hx hb dX7_areBeside_31 (by decide) ?_
            refine lv_goto (tgt := 36) hx hb dX7_areBeside_32 (by decide) ?_
            refine lv_istore_n (lv' := [(3, .int (1 : Int32)), (0, .ref (q 0)), (1, .int x1), (2, .int x2), (4, .int x4)]) hx hb dX7_areBeside_36 rfl hl (by decide) rfl (fun ls hl => ?_)
            refine lv_iinc (v := x4 + 1) (lv' := [(4, .int (x4 + 1)), (3, .int (1 : Int32)), (0, .ref (q 0)), (1, .int x1), (2, .int x2)]) hx hb dX7_areBeside_37 hl (k := 4) rfl rfl (by decide) rfl (fun ls hl => ?_)
            refine lv_goto (tgt := 5) hx hb dX7_areBeside_40 (by decide) ?_
            exact ih5 x1 x2 (1 : Int32) (x4 + 1) H locs ls h hP hD hS (lv_sub hl [2, 3, 4, 1, 0] rfl)
  have h := hf
  unfold f_X7_areBeside at h
  obtain ⟨H, eH⟩ : ∃ H, H = s.heap := ⟨_, rfl⟩
  rw [← eH] at hP ⊢
  obtain ⟨locs, el⟩ : ∃ locs : List Loc, locs = [] := ⟨_, rfl⟩
  rw [← el] at hS ⊢
  have hS : va_S A s.heap H locs := by rw [eH]; exact hS
  refine lv_iconst (v := 0) hx hb dX7_areBeside_0 (by decide) ?_
  refine lv_istore_n (lv' := [(3, .int (0 : Int32)), (0, .ref (q 0)), (1, .int x1), (2, .int x2)]) hx hb dX7_areBeside_1 rfl hl (by decide) rfl (fun ls hl => ?_)
  refine lv_iconst (v := 0) hx hb dX7_areBeside_2 (by decide) ?_
  refine lv_istore (lv' := [(4, .int (0 : Int32)), (3, .int (0 : Int32)), (0, .ref (q 0)), (1, .int x1), (2, .int x2)]) hx hb dX7_areBeside_3 hl (by decide) rfl (fun ls hl => ?_)
  exact hL5 fu x1 x2 (0 : Int32) (0 : Int32) H locs ls h hP hD hS (lv_sub hl [2, 3, 4, 1, 0] rfl)
abbrev rm_X7_went : Room := { frames := 2, cells := 0, slots := 0, locals := 48 }
set_option maxHeartbeats 4000000 in
set_option maxRecDepth 100000 in
theorem k_X7_went (l : Launch) (D : va_G) (cI cZ cT : ClassId) (q : Nat → Nat) (sz : Nat) (v_size : Int32) (v_at : Int32) (v_begin : Int32) (v_token : Int32) (v_told : Int32) (v_undos : Int32) (v_changed : Int32) (v_felt : Int32) (v_wents : Int32) (v_wish : Int32) (v_trace : Int64) (v_town : Nat → Int32) (v_went : Nat → Int32) (x1 : Int32) (res : R_X7_went) (fu : Nat) (hf : f_X7_went fu v_town v_wents v_went x1 = some res) : Met l yX7_went wsX7_went rm_X7_went (cPre D (tyz cI cZ cT) [.ref (q 0), .int x1] sz [oX7 q v_size v_at v_begin v_token v_told v_undos v_changed v_felt v_wents v_wish v_trace, rA (q 8) cI 64 v_town, rA (q 23) cI 6 v_went]) (cPi D (tyz cI cZ cT) (fun (r : Int32) (u : Int32 × (Nat → Int32)) => (r, u) = res) (fun u => [oX7 q v_size v_at v_begin v_token v_told v_undos v_changed v_felt u.1 v_wish v_trace, rA (q 8) cI 64 v_town, rA (q 23) cI 6 u.2]) [oX7 q v_size v_at v_begin v_token v_told v_undos v_changed v_felt v_wents v_wish v_trace, rA (q 8) cI 64 v_town, rA (q 23) cI 6 v_went] sz) 0 0 (va_A [oX7 q v_size v_at v_begin v_token v_told v_undos v_changed v_felt v_wents v_wish v_trace, rA (q 8) cI 64 v_town, rA (q 23) cI 6 v_went] sz) := by
  refine vx_meth_i (by decide) rfl (Nat.le_of_ble_eq_true rfl) ?_
  intro p e s m args below meth c A Q hx hb hml hown hts hK hP hD hA hS hret ls hl
  have hown : s.vm.findClass RX7 = some m.cls := hown
  have hl : lv_has ls 2 [(0, .ref (q 0)), (1, .int x1)] := hl
  have hFx : CallFix p m c cX7_went 2 s args wsX7_went RX7 := ⟨hx, hb, hml, hown, hts⟩
  have lk160 := hts (.fieldLink RX7 160 "FogGuidesModel" "wents" "I") (by decide +kernel)
  have iw7 : ∀ w ∈ u_ws RX7 TX7 34, w ∈ wsX7_went := by decide +kernel
  have lk49 := hts (.fieldLink RX7 49 "FogGuidesModel" "went" "[I") (by decide +kernel)
  have hJ39 : ∀ (v_wents : Int32) (v_went : (Nat → Int32)) (x1 : Int32) (H : Heap) (locs : List Loc) (ls : Array Slot), f_X7_went_J39 fu v_town v_wents v_went x1 = some res → va_P D vwCl [oX7 q v_size v_at v_begin v_token v_told v_undos v_changed v_felt v_wents v_wish v_trace, rA (q 8) cI 64 v_town, rA (q 23) cI 6 v_went] H → va_D A [oX7 q v_size v_at v_begin v_token v_told v_undos v_changed v_felt v_wents v_wish v_trace, rA (q 8) cI 64 v_town, rA (q 23) cI 6 v_went] → va_S A s.heap H locs → lv_has ls 2 [(0, .ref (q 0)), (1, .int x1)] → W p l e rm_X7_went s m args below meth c H locs 0 0 Q (F0 m 39 ls []) := by
    intro v_wents v_went x1 H locs ls h hP hD hS hl
    unfold f_X7_went_J39 at h
    refine lv_aload_n hx hb dX7_went_39 rfl (lv_at hl 0 rfl) ?_
    refine va_get (C := RX7) (T := TX7) (N := 34) (v := .int v_wents) hx hb hts iw7 hown hK hP 0 rfl rfl 21 (Nat.le_of_ble_eq_true rfl) lk160 (fun _ h9 => h9) rfl dX7_went_40 ?_
    refine lv_bipush (v := 6) hx hb dX7_went_43 (by decide) ?_
    refine lv_icmp_ne (tgt := 51) hx hb dX7_went_45 (by decide) (fun c1 => ?_) (fun c1 => ?_)
    · have h := (if_neg c1).symm.trans h
      refine lv_aload_n hx hb dX7_went_51 rfl (lv_at hl 0 rfl) ?_
      refine va_get (C := RX7) (T := TX7) (N := 34) (v := .ref (q 23)) hx hb hts iw7 hown hK hP 0 rfl rfl 22 (Nat.le_of_ble_eq_true rfl) lk49 (fun _ h9 => h9) rfl dX7_went_52 ?_
      refine lv_aload_n hx hb dX7_went_55 rfl (lv_at hl 0 rfl) ?_
      refine va_get (C := RX7) (T := TX7) (N := 34) (v := .int v_wents) hx hb hts iw7 hown hK hP 0 rfl rfl 21 (Nat.le_of_ble_eq_true rfl) lk160 (fun _ h9 => h9) rfl dX7_went_56 ?_
      refine lv_iload_n hx hb dX7_went_59 rfl (lv_at hl 1 rfl) ?_
      obtain ⟨hi2, h⟩ := xb_some h
      refine va_iast hx hb hK hP hD hS 2 0 rfl rfl hi2 dX7_went_60 (fun H locs hP hD hS => ?_)
      have hP : va_P D vwCl [oX7 q v_size v_at v_begin v_token v_told v_undos v_changed v_felt v_wents v_wish v_trace, rA (q 8) cI 64 v_town, rA (q 23) cI 6 (upd v_went v_wents.toNatClampNeg x1)] H := hP
      have hD : va_D A [oX7 q v_size v_at v_begin v_token v_told v_undos v_changed v_felt v_wents v_wish v_trace, rA (q 8) cI 64 v_town, rA (q 23) cI 6 (upd v_went v_wents.toNatClampNeg x1)] := hD
      refine lv_aload_n hx hb dX7_went_61 rfl (lv_at hl 0 rfl) ?_
      refine lv_dup hx hb dX7_went_62 rfl ?_
      refine va_get (C := RX7) (T := TX7) (N := 34) (v := .int v_wents) hx hb hts iw7 hown hK hP 0 rfl rfl 21 (Nat.le_of_ble_eq_true rfl) lk160 (fun _ h9 => h9) rfl dX7_went_63 ?_
      refine lv_iconst (v := 1) hx hb dX7_went_66 (by decide) ?_
      refine lv_iadd hx hb dX7_went_67 ?_
      refine va_put (C := RX7) (T := TX7) (N := 34) (v := .int (v_wents + (1 : Int32))) (ty := .int) hx hb hts iw7 tyX7 tyX7_ok nmX7 hown hK hP hD hS 0 rfl rfl 21 (Nat.le_of_ble_eq_true rfl) lk160 (fun _ h9 => h9) rfl (by decide +kernel) rfl rfl (Nat.le_of_ble_eq_true rfl) dX7_went_68 (fun H locs hP hD hS => ?_)
      have hP : va_P D vwCl [oX7 q v_size v_at v_begin v_token v_told v_undos v_changed v_felt (v_wents + (1 : Int32)) v_wish v_trace, rA (q 8) cI 64 v_town, rA (q 23) cI 6 (upd v_went v_wents.toNatClampNeg x1)] H := hP
      have hD : va_D A [oX7 q v_size v_at v_begin v_token v_told v_undos v_changed v_felt (v_wents + (1 : Int32)) v_wish v_trace, rA (q 8) cI 64 v_town, rA (q 23) cI 6 (upd v_went v_wents.toNatClampNeg x1)] := hD
      refine lv_aload_n hx hb dX7_went_71 rfl (lv_at hl 0 rfl) ?_
      refine va_get (C := RX7) (T := TX7) (N := 34) (v := .int (v_wents + (1 : Int32))) hx hb hts iw7 hown hK hP 0 rfl rfl 21 (Nat.le_of_ble_eq_true rfl) lk160 (fun _ h9 => h9) rfl dX7_went_72 ?_
      exact hret (v_wents + (1 : Int32)) ((v_wents + (1 : Int32), upd v_went v_wents.toNatClampNeg x1)) H locs _ ls (Option.some.inj h) hP hD hS dX7_went_75
    · have h := (if_pos c1).symm.trans h
      refine lv_bipush (v := (-3)) hx hb dX7_went_48 (by decide) ?_
      exact hret (-3 : Int32) (v_wents, v_went) H locs _ ls (Option.some.inj h) hP hD hS dX7_went_50
  have h := hf
  unfold f_X7_went at h
  obtain ⟨H, eH⟩ : ∃ H, H = s.heap := ⟨_, rfl⟩
  rw [← eH] at hP ⊢
  obtain ⟨locs, el⟩ : ∃ locs : List Loc, locs = [] := ⟨_, rfl⟩
  rw [← el] at hS ⊢
  have hS : va_S A s.heap H locs := by rw [eH]; exact hS
  refine lv_aload_n hx hb dX7_went_0 rfl (lv_at hl 0 rfl) ?_
  refine lv_iload_n hx hb dX7_went_1 rfl (lv_at hl 1 rfl) ?_
  obtain ⟨r3, hr3, h⟩ := xk_some h
  refine vx_VJ (As := [.int x1]) (rest := []) hFx (k_X7_isCorner l D cI cZ cT q H.size v_size v_at v_begin v_token v_told v_undos v_changed v_felt v_wents v_wish v_trace v_town x1 r3 hr3) (cwV 1 hts gX7_went_X7_isCorner rfl rfl rfl (by decide +kernel) ⟨Nat.le_of_ble_eq_true rfl, Nat.le_of_ble_eq_true rfl⟩) hK hP hD hS hA [0, 1] rfl rfl 7 0 rfl rfl rfl hl.1 rfl (Nat.le_of_ble_eq_true rfl) dX7_went_2 ⟨Nat.zero_le _, Nat.zero_le _⟩ (fun H locs hP hS => ?_)
  refine lv_if_ne (tgt := 10) hx hb dX7_went_5 (by decide) (fun c4 => ?_) (fun c4 => ?_)
  · have h := (if_neg c4).symm.trans h
    refine lv_aload_n hx hb dX7_went_10 rfl (lv_at hl 0 rfl) ?_
    refine va_get (C := RX7) (T := TX7) (N := 34) (v := .int v_wents) hx hb hts iw7 hown hK hP 0 rfl rfl 21 (Nat.le_of_ble_eq_true rfl) lk160 (fun _ h9 => h9) rfl dX7_went_11 ?_
    refine lv_if_le (tgt := 39) hx hb dX7_went_14 (by decide) (fun c5 => ?_) (fun c5 => ?_)
    · have h := (if_pos c5).symm.trans h
      exact hJ39 v_wents v_went x1 H locs ls h hP hD hS (lv_sub hl [0, 1] rfl)
    · have h := (if_neg c5).symm.trans h
      refine lv_aload_n hx hb dX7_went_17 rfl (lv_at hl 0 rfl) ?_
      refine lv_aload_n hx hb dX7_went_18 rfl (lv_at hl 0 rfl) ?_
      refine va_get (C := RX7) (T := TX7) (N := 34) (v := .ref (q 23)) hx hb hts iw7 hown hK hP 0 rfl rfl 22 (Nat.le_of_ble_eq_true rfl) lk49 (fun _ h9 => h9) rfl dX7_went_19 ?_
      refine lv_aload_n hx hb dX7_went_22 rfl (lv_at hl 0 rfl) ?_
      refine va_get (C := RX7) (T := TX7) (N := 34) (v := .int v_wents) hx hb hts iw7 hown hK hP 0 rfl rfl 21 (Nat.le_of_ble_eq_true rfl) lk160 (fun _ h9 => h9) rfl dX7_went_23 ?_
      refine lv_iconst (v := 1) hx hb dX7_went_26 (by decide) ?_
      refine lv_isub hx hb dX7_went_27 ?_
      obtain ⟨hi6, h⟩ := xb_some h
      refine va_iald hx hb hK hP 2 0 rfl rfl hi6 dX7_went_28 ?_
      refine lv_iload_n hx hb dX7_went_29 rfl (lv_at hl 1 rfl) ?_
      obtain ⟨r7, hr7, h⟩ := xk_some h
      refine vx_VJ (As := [.int (v_went (v_wents - (1 : Int32)).toNatClampNeg), .int x1]) (rest := []) hFx (k_X7_areBeside l D cI cZ cT q H.size v_size v_at v_begin v_token v_told v_undos v_changed v_felt v_wents v_wish v_trace v_town (v_went (v_wents - (1 : Int32)).toNatClampNeg) x1 r7 fu hr7) (cwV 2 hts gX7_went_X7_areBeside rfl rfl rfl (by decide +kernel) ⟨Nat.le_of_ble_eq_true rfl, Nat.le_of_ble_eq_true rfl⟩) hK hP hD hS hA [0, 1] rfl rfl 7 0 rfl rfl rfl hl.1 rfl (Nat.le_of_ble_eq_true rfl) dX7_went_30 ⟨Nat.zero_le _, Nat.zero_le _⟩ (fun H locs hP hS => ?_)
      refine lv_if_ne (tgt := 39) hx hb dX7_went_33 (by decide) (fun c8 => ?_) (fun c8 => ?_)
      · have h := (if_neg c8).symm.trans h
        exact hJ39 v_wents v_went x1 H locs ls h hP hD hS (lv_sub hl [0, 1] rfl)
      · have h := (if_pos c8).symm.trans h
        refine lv_bipush (v := (-2)) hx hb dX7_went_36 (by decide) ?_
        exact hret (-2 : Int32) (v_wents, v_went) H locs _ ls (Option.some.inj h) hP hD hS dX7_went_38
  · have h := (if_pos c4).symm.trans h
    refine lv_iconst (v := (-1)) hx hb dX7_went_8 (by decide) ?_
    exact hret (-1 : Int32) (v_wents, v_went) H locs _ ls (Option.some.inj h) hP hD hS dX7_went_9
abbrev rm_X7_forget : Room := { frames := 0, cells := 0, slots := 0, locals := 0 }
set_option maxHeartbeats 4000000 in
set_option maxRecDepth 100000 in
theorem k_X7_forget (l : Launch) (D : va_G) (cI cZ cT : ClassId) (q : Nat → Nat) (sz : Nat) (v_size : Int32) (v_at : Int32) (v_begin : Int32) (v_token : Int32) (v_told : Int32) (v_undos : Int32) (v_changed : Int32) (v_felt : Int32) (v_wents : Int32) (v_wish : Int32) (v_trace : Int64) (res : R_X7_forget) (hf : f_X7_forget v_felt v_wents = some res) : Met l yX7_forget wsX7_forget rm_X7_forget (cPre D (tyz cI cZ cT) [.ref (q 0)] sz [oX7 q v_size v_at v_begin v_token v_told v_undos v_changed v_felt v_wents v_wish v_trace]) (cPi D (tyz cI cZ cT) (fun (r : Int32) (u : Int32 × Int32) => (r, u) = res) (fun u => [oX7 q v_size v_at v_begin v_token v_told v_undos v_changed u.1 u.2 v_wish v_trace]) [oX7 q v_size v_at v_begin v_token v_told v_undos v_changed v_felt v_wents v_wish v_trace] sz) 0 0 (va_A [oX7 q v_size v_at v_begin v_token v_told v_undos v_changed v_felt v_wents v_wish v_trace] sz) := by
  refine vx_meth_i (by decide) rfl (Nat.le_of_ble_eq_true rfl) ?_
  intro p e s m args below meth c A Q hx hb hml hown hts hK hP hD hA hS hret ls hl
  have hown : s.vm.findClass RX7 = some m.cls := hown
  have hl : lv_has ls 2 [(0, .ref (q 0))] := hl
  have hFx : CallFix p m c cX7_forget 2 s args wsX7_forget RX7 := ⟨hx, hb, hml, hown, hts⟩
  have lk157 := hts (.fieldLink RX7 157 "FogGuidesModel" "felt" "I") (by decide +kernel)
  have iw7 : ∀ w ∈ u_ws RX7 TX7 34, w ∈ wsX7_forget := by decide +kernel
  have lk160 := hts (.fieldLink RX7 160 "FogGuidesModel" "wents" "I") (by decide +kernel)
  have h := hf
  unfold f_X7_forget at h
  obtain ⟨H, eH⟩ : ∃ H, H = s.heap := ⟨_, rfl⟩
  rw [← eH] at hP ⊢
  obtain ⟨locs, el⟩ : ∃ locs : List Loc, locs = [] := ⟨_, rfl⟩
  rw [← el] at hS ⊢
  have hS : va_S A s.heap H locs := by rw [eH]; exact hS
  refine lv_aload_n hx hb dX7_forget_0 rfl (lv_at hl 0 rfl) ?_
  refine va_get (C := RX7) (T := TX7) (N := 34) (v := .int v_felt) hx hb hts iw7 hown hK hP 0 rfl rfl 19 (Nat.le_of_ble_eq_true rfl) lk157 (fun _ h9 => h9) rfl dX7_forget_1 ?_
  refine lv_aload_n hx hb dX7_forget_4 rfl (lv_at hl 0 rfl) ?_
  refine va_get (C := RX7) (T := TX7) (N := 34) (v := .int v_wents) hx hb hts iw7 hown hK hP 0 rfl rfl 21 (Nat.le_of_ble_eq_true rfl) lk160 (fun _ h9 => h9) rfl dX7_forget_5 ?_
  refine lv_iadd hx hb dX7_forget_8 ?_
  refine lv_istore_n (lv' := [(1, .int (v_felt + v_wents)), (0, .ref (q 0))]) hx hb dX7_forget_9 rfl hl (by decide) rfl (fun ls hl => ?_)
  refine lv_aload_n hx hb dX7_forget_10 rfl (lv_at hl 1 rfl) ?_
  refine lv_iconst (v := 0) hx hb dX7_forget_11 (by decide) ?_
  refine va_put (C := RX7) (T := TX7) (N := 34) (v := .int (0 : Int32)) (ty := .int) hx hb hts iw7 tyX7 tyX7_ok nmX7 hown hK hP hD hS 0 rfl rfl 19 (Nat.le_of_ble_eq_true rfl) lk157 (fun _ h9 => h9) rfl (by decide +kernel) rfl rfl (Nat.le_of_ble_eq_true rfl) dX7_forget_12 (fun H locs hP hD hS => ?_)
  have hP : va_P D vwCl [oX7 q v_size v_at v_begin v_token v_told v_undos v_changed (0 : Int32) v_wents v_wish v_trace] H := hP
  have hD : va_D A [oX7 q v_size v_at v_begin v_token v_told v_undos v_changed (0 : Int32) v_wents v_wish v_trace] := hD
  refine lv_aload_n hx hb dX7_forget_15 rfl (lv_at hl 1 rfl) ?_
  refine lv_iconst (v := 0) hx hb dX7_forget_16 (by decide) ?_
  refine va_put (C := RX7) (T := TX7) (N := 34) (v := .int (0 : Int32)) (ty := .int) hx hb hts iw7 tyX7 tyX7_ok nmX7 hown hK hP hD hS 0 rfl rfl 21 (Nat.le_of_ble_eq_true rfl) lk160 (fun _ h9 => h9) rfl (by decide +kernel) rfl rfl (Nat.le_of_ble_eq_true rfl) dX7_forget_17 (fun H locs hP hD hS => ?_)
  have hP : va_P D vwCl [oX7 q v_size v_at v_begin v_token v_told v_undos v_changed (0 : Int32) (0 : Int32) v_wish v_trace] H := hP
  have hD : va_D A [oX7 q v_size v_at v_begin v_token v_told v_undos v_changed (0 : Int32) (0 : Int32) v_wish v_trace] := hD
  refine lv_iload_n hx hb dX7_forget_20 rfl (lv_at hl 0 rfl) ?_
  exact hret (v_felt + v_wents) (((0 : Int32), (0 : Int32))) H locs _ ls (Option.some.inj h) hP hD hS dX7_forget_21
abbrev rm_X7_fit : Room := { frames := 2, cells := 0, slots := 0, locals := 48 }
set_option maxHeartbeats 4000000 in
set_option maxRecDepth 100000 in
theorem k_X7_fit (l : Launch) (D : va_G) (cI cZ cT : ClassId) (q : Nat → Nat) (sz : Nat) (v_size : Int32) (v_at : Int32) (v_begin : Int32) (v_token : Int32) (v_told : Int32) (v_undos : Int32) (v_changed : Int32) (v_felt : Int32) (v_wents : Int32) (v_wish : Int32) (v_trace : Int64) (v_town : Nat → Int32) (v_marks : Nat → Int32) (v_rows : Nat → Int32) (v_nextRows : Nat → Int32) (v_from : Nat → Int32) (v_nextFrom : Nat → Int32) (res : R_X7_fit) (fu : Nat) (hf : f_X7_fit fu v_town v_felt v_marks v_rows v_nextRows v_from v_nextFrom = some res) : Met l yX7_fit wsX7_fit rm_X7_fit (cPre D (tyz cI cZ cT) [.ref (q 0)] sz [oX7 q v_size v_at v_begin v_token v_told v_undos v_changed v_felt v_wents v_wish v_trace, rA (q 8) cI 64 v_town, rA (q 21) cI 6 v_marks, rA (q 24) cI 7 v_rows, rA (q 25) cI 7 v_nextRows, rA (q 26) cI 7 v_from, rA (q 27) cI 7 v_nextFrom]) (cPv D (tyz cI cZ cT) (fun (u : (Nat → Int32) × (Nat → Int32) × (Nat → Int32) × (Nat → Int32)) => u = res) (fun u => [oX7 q v_size v_at v_begin v_token v_told v_undos v_changed v_felt v_wents v_wish v_trace, rA (q 8) cI 64 v_town, rA (q 21) cI 6 v_marks, rA (q 24) cI 7 u.1, rA (q 25) cI 7 u.2.1, rA (q 26) cI 7 u.2.2.1, rA (q 27) cI 7 u.2.2.2]) [oX7 q v_size v_at v_begin v_token v_told v_undos v_changed v_felt v_wents v_wish v_trace, rA (q 8) cI 64 v_town, rA (q 21) cI 6 v_marks, rA (q 24) cI 7 v_rows, rA (q 25) cI 7 v_nextRows, rA (q 26) cI 7 v_from, rA (q 27) cI 7 v_nextFrom] sz) 0 0 (va_A [oX7 q v_size v_at v_begin v_token v_told v_undos v_changed v_felt v_wents v_wish v_trace, rA (q 8) cI 64 v_town, rA (q 21) cI 6 v_marks, rA (q 24) cI 7 v_rows, rA (q 25) cI 7 v_nextRows, rA (q 26) cI 7 v_from, rA (q 27) cI 7 v_nextFrom] sz) := by
  refine vx_meth_v (by decide) rfl (Nat.le_of_ble_eq_true rfl) ?_
  intro p e s m args below meth c A Q hx hb hml hown hts hK hP hD hA hS hret ls hl
  have hown : s.vm.findClass RX7 = some m.cls := hown
  have hl : lv_has ls 5 [(0, .ref (q 0))] := hl
  have hFx : CallFix p m c cX7_fit 5 s args wsX7_fit RX7 := ⟨hx, hb, hml, hown, hts⟩
  have lk16 := hts (.fieldLink RX7 16 "FogGuidesModel" "town" "[I") (by decide +kernel)
  have iw7 : ∀ w ∈ u_ws RX7 TX7 34, w ∈ wsX7_fit := by decide +kernel
  have lk52 := hts (.fieldLink RX7 52 "FogGuidesModel" "rows" "[I") (by decide +kernel)
  have lk55 := hts (.fieldLink RX7 55 "FogGuidesModel" "nextRows" "[I") (by decide +kernel)
  have lk58 := hts (.fieldLink RX7 58 "FogGuidesModel" "from" "[I") (by decide +kernel)
  have lk61 := hts (.fieldLink RX7 61 "FogGuidesModel" "nextFrom" "[I") (by decide +kernel)
  have lk46 := hts (.fieldLink RX7 46 "FogGuidesModel" "marks" "[I") (by decide +kernel)
  have lk157 := hts (.fieldLink RX7 157 "FogGuidesModel" "felt" "I") (by decide +kernel)
  have hL89 : ∀ (n89 : Nat), ∀ (v_rows : (Nat → Int32)) (v_nextRows : (Nat → Int32)) (v_from : (Nat → Int32)) (v_nextFrom : (Nat → Int32)) (x1 : Int32) (H : Heap) (locs : List Loc) (ls : Array Slot), f_X7_fit_L89 fu n89 v_town v_felt v_marks v_rows v_nextRows v_from v_nextFrom x1 = some res → va_P D vwCl [oX7 q v_size v_at v_begin v_token v_told v_undos v_changed v_felt v_wents v_wish v_trace, rA (q 8) cI 64 v_town, rA (q 21) cI 6 v_marks, rA (q 24) cI 7 v_rows, rA (q 25) cI 7 v_nextRows, rA (q 26) cI 7 v_from, rA (q 27) cI 7 v_nextFrom] H → va_D A [oX7 q v_size v_at v_begin v_token v_told v_undos v_changed v_felt v_wents v_wish v_trace, rA (q 8) cI 64 v_town, rA (q 21) cI 6 v_marks, rA (q 24) cI 7 v_rows, rA (q 25) cI 7 v_nextRows, rA (q 26) cI 7 v_from, rA (q 27) cI 7 v_nextFrom] → va_S A s.heap H locs → lv_has ls 5 [(0, .ref (q 0)), (1, .int x1)] → W p l e rm_X7_fit s m args below meth c H locs 0 0 Q (F0 m 89 ls []) := by
    intro n89
    induction n89 with
    | zero =>
      intro v_rows v_nextRows v_from v_nextFrom x1 H locs ls h hP hD hS hl
      cases (show (none : Option R_X7_fit) = some res from h)
    | succ n89 ih89 =>
      have hL223 : ∀ (n223 : Nat), ∀ (v_rows : (Nat → Int32)) (v_nextRows : (Nat → Int32)) (v_from : (Nat → Int32)) (v_nextFrom : (Nat → Int32)) (x1 : Int32) (x2 : Int32) (H : Heap) (locs : List Loc) (ls : Array Slot), f_X7_fit_L223 fu (f_X7_fit_L89 fu n89) n223 v_town v_felt v_marks v_rows v_nextRows v_from v_nextFrom x1 x2 = some res → va_P D vwCl [oX7 q v_size v_at v_begin v_token v_told v_undos v_changed v_felt v_wents v_wish v_trace, rA (q 8) cI 64 v_town, rA (q 21) cI 6 v_marks, rA (q 24) cI 7 v_rows, rA (q 25) cI 7 v_nextRows, rA (q 26) cI 7 v_from, rA (q 27) cI 7 v_nextFrom] H → va_D A [oX7 q v_size v_at v_begin v_token v_told v_undos v_changed v_felt v_wents v_wish v_trace, rA (q 8) cI 64 v_town, rA (q 21) cI 6 v_marks, rA (q 24) cI 7 v_rows, rA (q 25) cI 7 v_nextRows, rA (q 26) cI 7 v_from, rA (q 27) cI 7 v_nextFrom] → va_S A s.heap H locs → lv_has ls 5 [(0, .ref (q 0)), (1, .int x1), (2, .int x2)] → W p l e rm_X7_fit s m args below meth c H locs 0 0 Q (F0 m 223 ls []) := by
        intro n223
        induction n223 with
        | zero =>
          intro v_rows v_nextRows v_from v_nextFrom x1 x2 H locs ls h hP hD hS hl
          cases (show (none : Option R_X7_fit) = some res from h)
        | succ n223 ih223 =>
          intro v_rows v_nextRows v_from v_nextFrom x1 x2 H locs ls h hP hD hS hl
          have h : f_X7_fit_L223b fu (f_X7_fit_L89 fu n89) (f_X7_fit_L223 fu (f_X7_fit_L89 fu n89) n223) v_town v_felt v_marks v_rows v_nextRows v_from v_nextFrom x1 x2 = some res := h
          unfold f_X7_fit_L223b at h
          refine lv_iload_n hx hb dX7_fit_223 rfl (lv_at hl 2 rfl) ?_
          refine lv_aload_n hx hb dX7_fit_224 rfl (lv_at hl 0 rfl) ?_
          refine va_get (C := RX7) (T := TX7) (N := 34) (v := .ref (q 8)) hx hb hts iw7 hown hK hP 0 rfl rfl 7 (Nat.le_of_ble_eq_true rfl) lk16 (fun _ h9 => h9) rfl dX7_fit_225 ?_
          refine lv_iconst (v := 0) hx hb dX7_fit_228 (by decide) ?_
          obtain ⟨hi1, h⟩ := xb_some h
          refine va_iald hx hb hK hP 1 0 rfl rfl hi1 dX7_fit_229 ?_
          refine lv_icmp_ge (tgt := 263) hx hb dX7_fit_230 (by decide) (fun c2 => ?_) (fun c2 => ?_)
          · have h := (if_pos c2).symm.trans h
            refine lv_iinc (v := x1 + 1) (lv' := [(1, .int (x1 + 1)), (0, .ref (q 0)), (2, .int x2)]) hx hb dX7_fit_263 hl (k := 1) rfl rfl (by decide) rfl (fun ls hl => ?_)
            refine lv_goto (tgt := 89) hx hb dX7_fit_266 (by decide) ?_
            exact ih89 v_rows v_nextRows v_from v_nextFrom (x1 + 1) H locs ls h hP hD hS (lv_sub hl [1, 0] rfl)
          · have h := (if_neg c2).symm.trans h
            refine lv_aload_n hx hb dX7_fit_233 rfl (lv_at hl 0 rfl) ?_
            refine va_get (C := RX7) (T := TX7) (N := 34) (v := .ref (q 24)) hx hb hts iw7 hown hK hP 0 rfl rfl 23 (Nat.le_of_ble_eq_true rfl) lk52 (fun _ h9 => h9) rfl dX7_fit_234 ?_
            refine lv_iload_n hx hb dX7_fit_237 rfl (lv_at hl 2 rfl) ?_
            refine lv_aload_n hx hb dX7_fit_238 rfl (lv_at hl 0 rfl) ?_
            refine va_get (C := RX7) (T := TX7) (N := 34) (v := .ref (q 25)) hx hb hts iw7 hown hK hP 0 rfl rfl 24 (Nat.le_of_ble_eq_true rfl) lk55 (fun _ h9 => h9) rfl dX7_fit_239 ?_
            refine lv_iload_n hx hb dX7_fit_242 rfl (lv_at hl 2 rfl) ?_
            obtain ⟨hi3, h⟩ := xb_some h
            refine va_iald hx hb hK hP 4 0 rfl rfl hi3 dX7_fit_243 ?_
            obtain ⟨hi4, h⟩ := xb_some h
            refine va_iast hx hb hK hP hD hS 3 0 rfl rfl hi4 dX7_fit_244 (fun H locs hP hD hS => ?_)
            have hP : va_P D vwCl [oX7 q v_size v_at v_begin v_token v_told v_undos v_changed v_felt v_wents v_wish v_trace, rA (q 8) cI 64 v_town, rA (q 21) cI 6 v_marks, rA (q 24) cI 7 (upd v_rows x2.toNatClampNeg (v_nextRows x2.toNatClampNeg)), rA (q 25) cI 7 v_nextRows, rA (q 26) cI 7 v_from, rA (q 27) cI 7 v_nextFrom] H := hP
            have hD : va_D A [oX7 q v_size v_at v_begin v_token v_told v_undos v_changed v_felt v_wents v_wish v_trace, rA (q 8) cI 64 v_town, rA (q 21) cI 6 v_marks, rA (q 24) cI 7 (upd v_rows x2.toNatClampNeg (v_nextRows x2.toNatClampNeg)), rA (q 25) cI 7 v_nextRows, rA (q 26) cI 7 v_from, rA (q 27) cI 7 v_nextFrom] := hD
            refine lv_aload_n hx hb dX7_fit_245 rfl (lv_at hl 0 rfl) ?_
            refine va_get (C := RX7) (T := TX7) (N := 34) (v := .ref (q 26)) hx hb hts iw7 hown hK hP 0 rfl rfl 25 (Nat.le_of_ble_eq_true rfl) lk58 (fun _ h9 => h9) rfl dX7_fit_246 ?_
            refine lv_iload_n hx hb dX7_fit_249 rfl (lv_at hl 2 rfl) ?_
            refine lv_aload_n hx hb dX7_fit_250 rfl (lv_at hl 0 rfl) ?_
            refine va_get (C := RX7) (T := TX7) (N := 34) (v := .ref (q 27)) hx hb hts iw7 hown hK hP 0 rfl rfl 26 (Nat.le_of_ble_eq_true rfl) lk61 (fun _ h9 => h9) rfl dX7_fit_251 ?_
            refine lv_iload_n hx hb dX7_fit_254 rfl (lv_at hl 2 rfl) ?_
            obtain ⟨hi5, h⟩ := xb_some h
            refine va_iald hx hb hK hP 6 0 rfl rfl hi5 dX7_fit_255 ?_
            obtain ⟨hi6, h⟩ := xb_some h
            refine va_iast hx hb hK hP hD hS 5 0 rfl rfl hi6 dX7_fit_256 (fun H locs hP hD hS => ?_)
            have hP : va_P D vwCl [oX7 q v_size v_at v_begin v_token v_told v_undos v_changed v_felt v_wents v_wish v_trace, rA (q 8) cI 64 v_town, rA (q 21) cI 6 v_marks, rA (q 24) cI 7 (upd v_rows x2.toNatClampNeg (v_nextRows x2.toNatClampNeg)), rA (q 25) cI 7 v_nextRows, rA (q 26) cI 7 (upd v_from x2.toNatClampNeg (v_nextFrom x2.toNatClampNeg)), rA (q 27) cI 7 v_nextFrom] H := hP
            have hD : va_D A [oX7 q v_size v_at v_begin v_token v_told v_undos v_changed v_felt v_wents v_wish v_trace, rA (q 8) cI 64 v_town, rA (q 21) cI 6 v_marks, rA (q 24) cI 7 (upd v_rows x2.toNatClampNeg (v_nextRows x2.toNatClampNeg)), rA (q 25) cI 7 v_nextRows, rA (q 26) cI 7 (upd v_from x2.toNatClampNeg (v_nextFrom x2.toNatClampNeg)), rA (q 27) cI 7 v_nextFrom] := hD
            refine lv_iinc (v := x2 + 1) (lv' := [(2, .int (x2 + 1)), (0, .ref (q 0)), (1, .int x1)]) hx hb dX7_fit_257 hl (k := 2) rfl rfl (by decide) rfl (fun ls hl => ?_)
            refine lv_goto (tgt := 223) hx hb dX7_fit_260 (by decide) ?_
            exact ih223 (upd v_rows x2.toNatClampNeg (v_nextRows x2.toNatClampNeg)) v_nextRows (upd v_from x2.toNatClampNeg (v_nextFrom x2.toNatClampNeg)) v_nextFrom x1 (x2 + 1) H locs ls h hP hD hS (lv_sub hl [1, 2, 0] rfl)
      have hL99 : ∀ (n99 : Nat), ∀ (v_rows : (Nat → Int32)) (v_nextRows : (Nat → Int32)) (v_from : (Nat → Int32)) (v_nextFrom : (Nat → Int32)) (x1 : Int32) (x2 : Int32) (H : Heap) (locs : List Loc) (ls : Array Slot), f_X7_fit_L99 fu (f_X7_fit_L89 fu n89) n99 v_town v_felt v_marks v_rows v_nextRows v_from v_nextFrom x1 x2 = some res → va_P D vwCl [oX7 q v_size v_at v_begin v_token v_told v_undos v_changed v_felt v_wents v_wish v_trace, rA (q 8) cI 64 v_town, rA (q 21) cI 6 v_marks, rA (q 24) cI 7 v_rows, rA (q 25) cI 7 v_nextRows, rA (q 26) cI 7 v_from, rA (q 27) cI 7 v_nextFrom] H → va_D A [oX7 q v_size v_at v_begin v_token v_told v_undos v_changed v_felt v_wents v_wish v_trace, rA (q 8) cI 64 v_town, rA (q 21) cI 6 v_marks, rA (q 24) cI 7 v_rows, rA (q 25) cI 7 v_nextRows, rA (q 26) cI 7 v_from, rA (q 27) cI 7 v_nextFrom] → va_S A s.heap H locs → lv_has ls 5 [(0, .ref (q 0)), (1, .int x1), (2, .int x2)] → W p l e rm_X7_fit s m args below meth c H locs 0 0 Q (F0 m 99 ls []) := by
        intro n99
        induction n99 with
        | zero =>
          intro v_rows v_nextRows v_from v_nextFrom x1 x2 H locs ls h hP hD hS hl
          cases (show (none : Option R_X7_fit) = some res from h)
        | succ n99 ih99 =>
          have hL125 : ∀ (n125 : Nat), ∀ (v_rows : (Nat → Int32)) (v_nextRows : (Nat → Int32)) (v_from : (Nat → Int32)) (v_nextFrom : (Nat → Int32)) (x1 : Int32) (x2 : Int32) (x3 : Int32) (H : Heap) (locs : List Loc) (ls : Array Slot), f_X7_fit_L125 fu (f_X7_fit_L89 fu n89) (f_X7_fit_L99 fu (f_X7_fit_L89 fu n89) n99) n125 v_town v_felt v_marks v_rows v_nextRows v_from v_nextFrom x1 x2 x3 = some res → va_P D vwCl [oX7 q v_size v_at v_begin v_token v_told v_undos v_changed v_felt v_wents v_wish v_trace, rA (q 8) cI 64 v_town, rA (q 21) cI 6 v_marks, rA (q 24) cI 7 v_rows, rA (q 25) cI 7 v_nextRows, rA (q 26) cI 7 v_from, rA (q 27) cI 7 v_nextFrom] H → va_D A [oX7 q v_size v_at v_begin v_token v_told v_undos v_changed v_felt v_wents v_wish v_trace, rA (q 8) cI 64 v_town, rA (q 21) cI 6 v_marks, rA (q 24) cI 7 v_rows, rA (q 25) cI 7 v_nextRows, rA (q 26) cI 7 v_from, rA (q 27) cI 7 v_nextFrom] → va_S A s.heap H locs → lv_has ls 5 [(0, .ref (q 0)), (1, .int x1), (2, .int x2), (3, .int x3)] → W p l e rm_X7_fit s m args below meth c H locs 0 0 Q (F0 m 125 ls []) := by
            intro n125
            induction n125 with
            | zero =>
              intro v_rows v_nextRows v_from v_nextFrom x1 x2 x3 H locs ls h hP hD hS hl
              cases (show (none : Option R_X7_fit) = some res from h)
            | succ n125 ih125 =>
              have hJ183 : ∀ (v_rows : (Nat → Int32)) (v_nextRows : (Nat → Int32)) (v_from : (Nat → Int32)) (v_nextFrom : (Nat → Int32)) (x1 : Int32) (x2 : Int32) (x3 : Int32) (x4 : Int32) (z1 : Int32) (z2 : Int32) (z3 : Int32) (H : Heap) (locs : List Loc) (ls : Array Slot), f_X7_fit_J183 fu (f_X7_fit_L89 fu n89) (f_X7_fit_L99 fu (f_X7_fit_L89 fu n89) n99) (f_X7_fit_L125 fu (f_X7_fit_L89 fu n89) (f_X7_fit_L99 fu (f_X7_fit_L89 fu n89) n99) n125) v_town v_felt v_marks v_rows v_nextRows v_from v_nextFrom x1 x2 x3 x4 z1 z2 z3 = some res → va_P D vwCl [oX7 q v_size v_at v_begin v_token v_told v_undos v_changed v_felt v_wents v_wish v_trace, rA (q 8) cI 64 v_town, rA (q 21) cI 6 v_marks, rA (q 24) cI 7 v_rows, rA (q 25) cI 7 v_nextRows, rA (q 26) cI 7 v_from, rA (q 27) cI 7 v_nextFrom] H → va_D A [oX7 q v_size v_at v_begin v_token v_told v_undos v_changed v_felt v_wents v_wish v_trace, rA (q 8) cI 64 v_town, rA (q 21) cI 6 v_marks, rA (q 24) cI 7 v_rows, rA (q 25) cI 7 v_nextRows, rA (q 26) cI 7 v_from, rA (q 27) cI 7 v_nextFrom] → va_S A s.heap H locs → lv_has ls 5 [(0, .ref (q 0)), (1, .int x1), (2, .int x2), (3, .int x3), (4, .int x4)] → W p l e rm_X7_fit s m args below meth c H locs 0 0 Q (F0 m 183 ls [.int z3, .int z2, .int z1, .ref (q 25)]) := by
                intro v_rows v_nextRows v_from v_nextFrom x1 x2 x3 x4 z1 z2 z3 H locs ls h hP hD hS hl
                unfold f_X7_fit_J183 at h
                refine lv_iadd hx hb dX7_fit_183 ?_
                obtain ⟨hi7, h⟩ := xb_some h
                refine va_iast hx hb hK hP hD hS 4 0 rfl rfl hi7 dX7_fit_184 (fun H locs hP hD hS => ?_)
                have hP : va_P D vwCl [oX7 q v_size v_at v_begin v_token v_told v_undos v_changed v_felt v_wents v_wish v_trace, rA (q 8) cI 64 v_town, rA (q 21) cI 6 v_marks, rA (q 24) cI 7 v_rows, rA (q 25) cI 7 (upd v_nextRows z1.toNatClampNeg (z2 + z3)), rA (q 26) cI 7 v_from, rA (q 27) cI 7 v_nextFrom] H := hP
                have hD : va_D A [oX7 q v_size v_at v_begin v_token v_told v_undos v_changed v_felt v_wents v_wish v_trace, rA (q 8) cI 64 v_town, rA (q 21) cI 6 v_marks, rA (q 24) cI 7 v_rows, rA (q 25) cI 7 (upd v_nextRows z1.toNatClampNeg (z2 + z3)), rA (q 26) cI 7 v_from, rA (q 27) cI 7 v_nextFrom] := hD
                refine lv_aload_n hx hb dX7_fit_185 rfl (lv_at hl 0 rfl) ?_
                refine va_get (C := RX7) (T := TX7) (N := 34) (v := .ref (q 27)) hx hb hts iw7 hown hK hP 0 rfl rfl 26 (Nat.le_of_ble_eq_true rfl) lk61 (fun _ h9 => h9) rfl dX7_fit_186 ?_
                refine lv_iload_n hx hb dX7_fit_189 rfl (lv_at hl 2 rfl) ?_
                refine lv_dup2_11 hx hb dX7_fit_190 rfl rfl ?_
                obtain ⟨hi8, h⟩ := xb_some h
                refine va_iald hx hb hK hP 6 0 rfl rfl hi8 dX7_fit_191 ?_
                refine lv_iload hx hb dX7_fit_192 (lv_at hl 4 rfl) ?_
                refine lv_if_eq (tgt := 206) hx hb dX7_fit_194 (by decide) (fun c9 => ?_) (fun c9 => ?_)
                · have h := (if_pos c9).symm.trans h
                  refine lv_iconst (v := 0) hx hb dX7_fit_206 (by decide) ?_
                  refine lv_ior hx hb dX7_fit_207 ?_
                  obtain ⟨hi10, h⟩ := xb_some h
                  refine va_iast hx hb hK hP hD hS 6 0 rfl rfl hi10 dX7_fit_208 (fun H locs hP hD hS => ?_)
                  have hP : va_P D vwCl [oX7 q v_size v_at v_begin v_token v_told v_undos v_changed v_felt v_wents v_wish v_trace, rA (q 8) cI 64 v_town, rA (q 21) cI 6 v_marks, rA (q 24) cI 7 v_rows, rA (q 25) cI 7 (upd v_nextRows z1.toNatClampNeg (z2 + z3)), rA (q 26) cI 7 v_from, rA (q 27) cI 7 (upd v_nextFrom x2.toNatClampNeg ((v_nextFrom x2.toNatClampNeg) ||| (0 : Int32)))] H := hP
                  have hD : va_D A [oX7 q v_size v_at v_begin v_token v_told v_undos v_changed v_felt v_wents v_wish v_trace, rA (q 8) cI 64 v_town, rA (q 21) cI 6 v_marks, rA (q 24) cI 7 v_rows, rA (q 25) cI 7 (upd v_nextRows z1.toNatClampNeg (z2 + z3)), rA (q 26) cI 7 v_from, rA (q 27) cI 7 (upd v_nextFrom x2.toNatClampNeg ((v_nextFrom x2.toNatClampNeg) ||| (0 : Int32)))] := hD
                  refine lv_iinc (v := x3 + 1) (lv' := [(3, .int (x3 + 1)), (0, .ref (q 0)), (1, .int x1), (2, .int x2), (4, .int x4)]) hx hb dX7_fit_209 hl (k := 3) rfl rfl (by decide) rfl (fun ls hl => ?_)
                  refine lv_goto (tgt := 125) hx hb dX7_fit_212 (by decide) ?_
                  exact ih125 v_rows (upd v_nextRows z1.toNatClampNeg (z2 + z3)) v_from (upd v_nextFrom x2.toNatClampNeg ((v_nextFrom x2.toNatClampNeg) ||| (0 : Int32))) x1 x2 (x3 + 1) H locs ls h hP hD hS (lv_sub hl [1, 2, 3, 0] rfl)
                · have h := (if_neg c9).symm.trans h
                  refine lv_aload_n hx hb dX7_fit_197 rfl (lv_at hl 0 rfl) ?_
                  refine va_get (C := RX7) (T := TX7) (N := 34) (v := .ref (q 26)) hx hb hts iw7 hown hK hP 0 rfl rfl 25 (Nat.le_of_ble_eq_true rfl) lk58 (fun _ h9 => h9) rfl dX7_fit_198 ?_
                  refine lv_iload_n hx hb dX7_fit_201 rfl (lv_at hl 3 rfl) ?_
                  obtain ⟨hi11, h⟩ := xb_some h
                  refine va_iald hx hb hK hP 5 0 rfl rfl hi11 dX7_fit_202 ?_
                  refine lv_goto (tgt := 207) hx hb dX7_fit_203 (by decide) ?_
                  refine lv_ior hx hb dX7_fit_207 ?_
                  obtain ⟨hi12, h⟩ := xb_some h
                  refine va_iast hx hb hK hP hD hS 6 0 rfl rfl hi12 dX7_fit_208 (fun H locs hP hD hS => ?_)
                  have hP : va_P D vwCl [oX7 q v_size v_at v_begin v_token v_told v_undos v_changed v_felt v_wents v_wish v_trace, rA (q 8) cI 64 v_town, rA (q 21) cI 6 v_marks, rA (q 24) cI 7 v_rows, rA (q 25) cI 7 (upd v_nextRows z1.toNatClampNeg (z2 + z3)), rA (q 26) cI 7 v_from, rA (q 27) cI 7 (upd v_nextFrom x2.toNatClampNeg ((v_nextFrom x2.toNatClampNeg) ||| (v_from x3.toNatClampNeg)))] H := hP
                  have hD : va_D A [oX7 q v_size v_at v_begin v_token v_told v_undos v_changed v_felt v_wents v_wish v_trace, rA (q 8) cI 64 v_town, rA (q 21) cI 6 v_marks, rA (q 24) cI 7 v_rows, rA (q 25) cI 7 (upd v_nextRows z1.toNatClampNeg (z2 + z3)), rA (q 26) cI 7 v_from, rA (q 27) cI 7 (upd v_nextFrom x2.toNatClampNeg ((v_nextFrom x2.toNatClampNeg) ||| (v_from x3.toNatClampNeg)))] := hD
                  refine lv_iinc (v := x3 + 1) (lv' := [(3, .int (x3 + 1)), (0, .ref (q 0)), (1, .int x1), (2, .int x2), (4, .int x4)]) hx hb dX7_fit_209 hl (k := 3) rfl rfl (by decide) rfl (fun ls hl => ?_)
                  refine lv_goto (tgt := 125) hx hb dX7_fit_212 (by decide) ?_
                  exact ih125 v_rows (upd v_nextRows z1.toNatClampNeg (z2 + z3)) v_from (upd v_nextFrom x2.toNatClampNeg ((v_nextFrom x2.toNatClampNeg) ||| (v_from x3.toNatClampNeg))) x1 x2 (x3 + 1) H locs ls h hP hD hS (lv_sub hl [1, 2, 3, 0] rfl)
              intro v_rows v_nextRows v_from v_nextFrom x1 x2 x3 H locs ls h hP hD hS hl
              have h : f_X7_fit_L125b fu (f_X7_fit_L89 fu n89) (f_X7_fit_L99 fu (f_X7_fit_L89 fu n89) n99) (f_X7_fit_L125 fu (f_X7_fit_L89 fu n89) (f_X7_fit_L99 fu (f_X7_fit_L89 fu n89) n99) n125) v_town v_felt v_marks v_rows v_nextRows v_from v_nextFrom x1 x2 x3 = some res := h
              unfold f_X7_fit_L125b at h
              refine lv_iload_n hx hb dX7_fit_125 rfl (lv_at hl 3 rfl) ?_
              refine lv_aload_n hx hb dX7_fit_126 rfl (lv_at hl 0 rfl) ?_
              refine va_get (C := RX7) (T := TX7) (N := 34) (v := .ref (q 8)) hx hb hts iw7 hown hK hP 0 rfl rfl 7 (Nat.le_of_ble_eq_true rfl) lk16 (fun _ h9 => h9) rfl dX7_fit_127 ?_
              refine lv_iconst (v := 0) hx hb dX7_fit_130 (by decide) ?_
              obtain ⟨hi13, h⟩ := xb_some h
              refine va_iald hx hb hK hP 1 0 rfl rfl hi13 dX7_fit_131 ?_
              refine lv_icmp_ge (tgt := 215) hx hb dX7_fit_132 (by decide) (fun c14 => ?_) (fun c14 => ?_)
              · have h := (if_pos c14).symm.trans h
                refine lv_iinc (v := x2 + 1) (lv' := [(2, .int (x2 + 1)), (0, .ref (q 0)), (1, .int x1), (3, .int x3)]) hx hb dX7_fit_215 hl (k := 2) rfl rfl (by decide) rfl (fun ls hl => ?_)
                refine lv_goto (tgt := 99) hx hb dX7_fit_218 (by decide) ?_
                exact ih99 v_rows v_nextRows v_from v_nextFrom x1 (x2 + 1) H locs ls h hP hD hS (lv_sub hl [1, 2, 0] rfl)
              · have h := (if_neg c14).symm.trans h
                refine lv_aload_n hx hb dX7_fit_135 rfl (lv_at hl 0 rfl) ?_
                refine va_get (C := RX7) (T := TX7) (N := 34) (v := .ref (q 8)) hx hb hts iw7 hown hK hP 0 rfl rfl 7 (Nat.le_of_ble_eq_true rfl) lk16 (fun _ h9 => h9) rfl dX7_fit_136 ?_
                refine lv_bipush (v := 6) hx hb dX7_fit_139 (by decide) ?_
                refine lv_iload_n hx hb dX7_fit_141 rfl (lv_at hl 2 rfl) ?_
                refine lv_iadd hx hb dX7_fit_142 ?_
                obtain ⟨hi15, h⟩ := xb_some h
                refine va_iald hx hb hK hP 1 0 rfl rfl hi15 dX7_fit_143 ?_
                refine lv_aload_n hx hb dX7_fit_144 rfl (lv_at hl 0 rfl) ?_
                refine va_get (C := RX7) (T := TX7) (N := 34) (v := .ref (q 21)) hx hb hts iw7 hown hK hP 0 rfl rfl 20 (Nat.le_of_ble_eq_true rfl) lk46 (fun _ h9 => h9) rfl dX7_fit_145 ?_
                refine lv_iload_n hx hb dX7_fit_148 rfl (lv_at hl 1 rfl) ?_
                obtain ⟨hi16, h⟩ := xb_some h
                refine va_iald hx hb hK hP 2 0 rfl rfl hi16 dX7_fit_149 ?_
                refine lv_icmp_ne (tgt := 215) hx hb dX7_fit_150 (by decide) (fun c17 => ?_) (fun c17 => ?_)
                · have h := (if_neg c17).symm.trans h
                  refine lv_iinc (v := x2 + 1) (lv' := [(2, .int (x2 + 1)), (0, .ref (q 0)), (1, .int x1), (3, .int x3)]) hx hb dX7_fit_215 hl (k := 2) rfl rfl (by decide) rfl (fun ls hl => ?_)
                  refine lv_goto (tgt := 99) hx hb dX7_fit_218 (by decide) ?_
                  exact ih99 v_rows v_nextRows v_from v_nextFrom x1 (x2 + 1) H locs ls h hP hD hS (lv_sub hl [1, 2, 0] rfl)
                · have h := (if_pos c17).symm.trans h
                  refine lv_aload_n hx hb dX7_fit_153 rfl (lv_at hl 0 rfl) ?_
                  refine lv_iload_n hx hb dX7_fit_154 rfl (lv_at hl 3 rfl) ?_
                  refine lv_iload_n hx hb dX7_fit_155 rfl (lv_at hl 2 rfl) ?_
                  obtain ⟨r18, hr18, h⟩ := xk_some h
                  refine vx_VJ (As := [.int x3, .int x2]) (rest := []) hFx (k_X7_areBeside l D cI cZ cT q H.size v_size v_at v_begin v_token v_told v_undos v_changed v_felt v_wents v_wish v_trace v_town x3 x2 r18 fu hr18) (cwV 2 hts gX7_fit_X7_areBeside rfl rfl rfl (by decide +kernel) ⟨Nat.le_of_ble_eq_true rfl, Nat.le_of_ble_eq_true rfl⟩) hK hP hD hS hA [0, 1] rfl rfl 7 0 rfl rfl rfl hl.1 rfl (Nat.le_of_ble_eq_true rfl) dX7_fit_156 ⟨Nat.zero_le _, Nat.zero_le _⟩ (fun H locs hP hS => ?_)
                  refine lv_istore (lv' := [(4, .int r18), (0, .ref (q 0)), (1, .int x1), (2, .int x2), (3, .int x3)]) hx hb dX7_fit_159 hl (by decide) rfl (fun ls hl => ?_)
                  refine lv_aload_n hx hb dX7_fit_161 rfl (lv_at hl 1 rfl) ?_
                  refine va_get (C := RX7) (T := TX7) (N := 34) (v := .ref (q 25)) hx hb hts iw7 hown hK hP 0 rfl rfl 24 (Nat.le_of_ble_eq_true rfl) lk55 (fun _ h9 => h9) rfl dX7_fit_162 ?_
                  refine lv_iload_n hx hb dX7_fit_165 rfl (lv_at hl 3 rfl) ?_
                  refine lv_dup2_11 hx hb dX7_fit_166 rfl rfl ?_
                  obtain ⟨hi19, h⟩ := xb_some h
                  refine va_iald hx hb hK hP 4 0 rfl rfl hi19 dX7_fit_167 ?_
                  refine lv_iload hx hb dX7_fit_168 (lv_at hl 0 rfl) ?_
                  refine lv_if_eq (tgt := 182) hx hb dX7_fit_170 (by decide) (fun c20 => ?_) (fun c20 => ?_)
                  · have h := (if_pos c20).symm.trans h
                    refine lv_iconst (v := 0) hx hb dX7_fit_182 (by decide) ?_
                    exact hJ183 v_rows v_nextRows v_from v_nextFrom x1 x2 x3 r18 x2 (v_nextRows x2.toNatClampNeg) (0 : Int32) H locs ls h hP hD hS (lv_sub hl [1, 2, 3, 4, 0] rfl)
                  · have h := (if_neg c20).symm.trans h
                    refine lv_aload_n hx hb dX7_fit_173 rfl (lv_at hl 1 rfl) ?_
                    refine va_get (C := RX7) (T := TX7) (N := 34) (v := .ref (q 24)) hx hb hts iw7 hown hK hP 0 rfl rfl 23 (Nat.le_of_ble_eq_true rfl) lk52 (fun _ h9 => h9) rfl dX7_fit_174 ?_
                    refine lv_iload_n hx hb dX7_fit_177 rfl (lv_at hl 4 rfl) ?_
                    obtain ⟨hi21, h⟩ := xb_some h
                    refine va_iald hx hb hK hP 3 0 rfl rfl hi21 dX7_fit_178 ?_
                    refine lv_goto (tgt := 183) hx hb dX7_fit_179 (by decide) ?_
                    exact hJ183 v_rows v_nextRows v_from v_nextFrom x1 x2 x3 r18 x2 (v_nextRows x2.toNatClampNeg) (v_rows x3.toNatClampNeg) H locs ls h hP hD hS (lv_sub hl [1, 2, 3, 4, 0] rfl)
          intro v_rows v_nextRows v_from v_nextFrom x1 x2 H locs ls h hP hD hS hl
          have h : f_X7_fit_L99b fu (f_X7_fit_L89 fu n89) (f_X7_fit_L99 fu (f_X7_fit_L89 fu n89) n99) v_town v_felt v_marks v_rows v_nextRows v_from v_nextFrom x1 x2 = some res := h
          unfold f_X7_fit_L99b at h
          refine lv_iload_n hx hb dX7_fit_99 rfl (lv_at hl 2 rfl) ?_
          refine lv_aload_n hx hb dX7_fit_100 rfl (lv_at hl 0 rfl) ?_
          refine va_get (C := RX7) (T := TX7) (N := 34) (v := .ref (q 8)) hx hb hts iw7 hown hK hP 0 rfl rfl 7 (Nat.le_of_ble_eq_true rfl) lk16 (fun _ h9 => h9) rfl dX7_fit_101 ?_
          refine lv_iconst (v := 0) hx hb dX7_fit_104 (by decide) ?_
          obtain ⟨hi22, h⟩ := xb_some h
          refine va_iald hx hb hK hP 1 0 rfl rfl hi22 dX7_fit_105 ?_
          refine lv_icmp_ge (tgt := 221) hx hb dX7_fit_106 (by decide) (fun c23 => ?_) (fun c23 => ?_)
          · have h := (if_pos c23).symm.trans h
            refine lv_iconst (v := 0) hx hb dX7_fit_221 (by decide) ?_
            refine lv_istore_n (lv' := [(2, .int (0 : Int32)), (0, .ref (q 0)), (1, .int x1)]) hx hb dX7_fit_222 rfl hl (by decide) rfl (fun ls hl => ?_)
            exact hL223 fu v_rows v_nextRows v_from v_nextFrom x1 (0 : Int32) H locs ls h hP hD hS (lv_sub hl [1, 2, 0] rfl)
          · have h := (if_neg c23).symm.trans h
            refine lv_aload_n hx hb dX7_fit_109 rfl (lv_at hl 0 rfl) ?_
            refine va_get (C := RX7) (T := TX7) (N := 34) (v := .ref (q 25)) hx hb hts iw7 hown hK hP 0 rfl rfl 24 (Nat.le_of_ble_eq_true rfl) lk55 (fun _ h9 => h9) rfl dX7_fit_110 ?_
            refine lv_iload_n hx hb dX7_fit_113 rfl (lv_at hl 2 rfl) ?_
            refine lv_iconst (v := 0) hx hb dX7_fit_114 (by decide) ?_
            obtain ⟨hi24, h⟩ := xb_some h
            refine va_iast hx hb hK hP hD hS 4 0 rfl rfl hi24 dX7_fit_115 (fun H locs hP hD hS => ?_)
            have hP : va_P D vwCl [oX7 q v_size v_at v_begin v_token v_told v_undos v_changed v_felt v_wents v_wish v_trace, rA (q 8) cI 64 v_town, rA (q 21) cI 6 v_marks, rA (q 24) cI 7 v_rows, rA (q 25) cI 7 (upd v_nextRows x2.toNatClampNeg (0 : Int32)), rA (q 26) cI 7 v_from, rA (q 27) cI 7 v_nextFrom] H := hP
            have hD : va_D A [oX7 q v_size v_at v_begin v_token v_told v_undos v_changed v_felt v_wents v_wish v_trace, rA (q 8) cI 64 v_town, rA (q 21) cI 6 v_marks, rA (q 24) cI 7 v_rows, rA (q 25) cI 7 (upd v_nextRows x2.toNatClampNeg (0 : Int32)), rA (q 26) cI 7 v_from, rA (q 27) cI 7 v_nextFrom] := hD
            refine lv_aload_n hx hb dX7_fit_116 rfl (lv_at hl 0 rfl) ?_
            refine va_get (C := RX7) (T := TX7) (N := 34) (v := .ref (q 27)) hx hb hts iw7 hown hK hP 0 rfl rfl 26 (Nat.le_of_ble_eq_true rfl) lk61 (fun _ h9 => h9) rfl dX7_fit_117 ?_
            refine lv_iload_n hx hb dX7_fit_120 rfl (lv_at hl 2 rfl) ?_
            refine lv_iconst (v := 0) hx hb dX7_fit_121 (by decide) ?_
            obtain ⟨hi25, h⟩ := xb_some h
            refine va_iast hx hb hK hP hD hS 6 0 rfl rfl hi25 dX7_fit_122 (fun H locs hP hD hS => ?_)
            have hP : va_P D vwCl [oX7 q v_size v_at v_begin v_token v_told v_undos v_changed v_felt v_wents v_wish v_trace, rA (q 8) cI 64 v_town, rA (q 21) cI 6 v_marks, rA (q 24) cI 7 v_rows, rA (q 25) cI 7 (upd v_nextRows x2.toNatClampNeg (0 : Int32)), rA (q 26) cI 7 v_from, rA (q 27) cI 7 (upd v_nextFrom x2.toNatClampNeg (0 : Int32))] H := hP
            have hD : va_D A [oX7 q v_size v_at v_begin v_token v_told v_undos v_changed v_felt v_wents v_wish v_trace, rA (q 8) cI 64 v_town, rA (q 21) cI 6 v_marks, rA (q 24) cI 7 v_rows, rA (q 25) cI 7 (upd v_nextRows x2.toNatClampNeg (0 : Int32)), rA (q 26) cI 7 v_from, rA (q 27) cI 7 (upd v_nextFrom x2.toNatClampNeg (0 : Int32))] := hD
            refine lv_iconst (v := 0) hx hb dX7_fit_123 (by decide) ?_
            refine lv_istore_n (lv' := [(3, .int (0 : Int32)), (0, .ref (q 0)), (1, .int x1), (2, .int x2)]) hx hb dX7_fit_124 rfl hl (by decide) rfl (fun ls hl => ?_)
            exact hL125 fu v_rows (upd v_nextRows x2.toNatClampNeg (0 : Int32)) v_from (upd v_nextFrom x2.toNatClampNeg (0 : Int32)) x1 x2 (0 : Int32) H locs ls h hP hD hS (lv_sub hl [1, 2, 3, 0] rfl)
      intro v_rows v_nextRows v_from v_nextFrom x1 H locs ls h hP hD hS hl
      have h : f_X7_fit_L89b fu (f_X7_fit_L89 fu n89) v_town v_felt v_marks v_rows v_nextRows v_from v_nextFrom x1 = some res := h
      unfold f_X7_fit_L89b at h
      refine lv_iload_n hx hb dX7_fit_89 rfl (lv_at hl 1 rfl) ?_
      refine lv_aload_n hx hb dX7_fit_90 rfl (lv_at hl 0 rfl) ?_
      refine va_get (C := RX7) (T := TX7) (N := 34) (v := .int v_felt) hx hb hts iw7 hown hK hP 0 rfl rfl 19 (Nat.le_of_ble_eq_true rfl) lk157 (fun _ h9 => h9) rfl dX7_fit_91 ?_
      refine lv_icmp_ge (tgt := 269) hx hb dX7_fit_94 (by decide) (fun c26 => ?_) (fun c26 => ?_)
      · have h := (if_pos c26).symm.trans h
        exact hret (v_rows, v_nextRows, v_from, v_nextFrom) H locs _ ls (Option.some.inj h) hP hD hS dX7_fit_269
      · have h := (if_neg c26).symm.trans h
        refine lv_iconst (v := 0) hx hb dX7_fit_97 (by decide) ?_
        refine lv_istore_n (lv' := [(2, .int (0 : Int32)), (0, .ref (q 0)), (1, .int x1)]) hx hb dX7_fit_98 rfl hl (by decide) rfl (fun ls hl => ?_)
        exact hL99 fu v_rows v_nextRows v_from v_nextFrom x1 (0 : Int32) H locs ls h hP hD hS (lv_sub hl [1, 2, 0] rfl)
  have hL2 : ∀ (n2 : Nat), ∀ (v_rows : (Nat → Int32)) (v_nextRows : (Nat → Int32)) (v_from : (Nat → Int32)) (v_nextFrom : (Nat → Int32)) (x1 : Int32) (H : Heap) (locs : List Loc) (ls : Array Slot), f_X7_fit_L2 fu n2 v_town v_felt v_marks v_rows v_nextRows v_from v_nextFrom x1 = some res → va_P D vwCl [oX7 q v_size v_at v_begin v_token v_told v_undos v_changed v_felt v_wents v_wish v_trace, rA (q 8) cI 64 v_town, rA (q 21) cI 6 v_marks, rA (q 24) cI 7 v_rows, rA (q 25) cI 7 v_nextRows, rA (q 26) cI 7 v_from, rA (q 27) cI 7 v_nextFrom] H → va_D A [oX7 q v_size v_at v_begin v_token v_told v_undos v_changed v_felt v_wents v_wish v_trace, rA (q 8) cI 64 v_town, rA (q 21) cI 6 v_marks, rA (q 24) cI 7 v_rows, rA (q 25) cI 7 v_nextRows, rA (q 26) cI 7 v_from, rA (q 27) cI 7 v_nextFrom] → va_S A s.heap H locs → lv_has ls 5 [(0, .ref (q 0)), (1, .int x1)] → W p l e rm_X7_fit s m args below meth c H locs 0 0 Q (F0 m 2 ls []) := by
    intro n2
    induction n2 with
    | zero =>
      intro v_rows v_nextRows v_from v_nextFrom x1 H locs ls h hP hD hS hl
      cases (show (none : Option R_X7_fit) = some res from h)
    | succ n2 ih2 =>
      have hJ63 : ∀ (v_rows : (Nat → Int32)) (v_nextRows : (Nat → Int32)) (v_from : (Nat → Int32)) (v_nextFrom : (Nat → Int32)) (x1 : Int32) (x2 : Int32) (z1 : Int32) (z2 : Int32) (H : Heap) (locs : List Loc) (ls : Array Slot), f_X7_fit_J63 fu (f_X7_fit_L2 fu n2) v_town v_felt v_marks v_rows v_nextRows v_from v_nextFrom x1 x2 z1 z2 = some res → va_P D vwCl [oX7 q v_size v_at v_begin v_token v_told v_undos v_changed v_felt v_wents v_wish v_trace, rA (q 8) cI 64 v_town, rA (q 21) cI 6 v_marks, rA (q 24) cI 7 v_rows, rA (q 25) cI 7 v_nextRows, rA (q 26) cI 7 v_from, rA (q 27) cI 7 v_nextFrom] H → va_D A [oX7 q v_size v_at v_begin v_token v_told v_undos v_changed v_felt v_wents v_wish v_trace, rA (q 8) cI 64 v_town, rA (q 21) cI 6 v_marks, rA (q 24) cI 7 v_rows, rA (q 25) cI 7 v_nextRows, rA (q 26) cI 7 v_from, rA (q 27) cI 7 v_nextFrom] → va_S A s.heap H locs → lv_has ls 5 [(0, .ref (q 0)), (1, .int x1), (2, .int x2)] → W p l e rm_X7_fit s m args below meth c H locs 0 0 Q (F0 m 63 ls [.int z2, .int z1, .ref (q 24)]) := by
        intro v_rows v_nextRows v_from v_nextFrom x1 x2 z1 z2 H locs ls h hP hD hS hl
        unfold f_X7_fit_J63 at h
        obtain ⟨hi27, h⟩ := xb_some h
        refine va_iast hx hb hK hP hD hS 3 0 rfl rfl hi27 dX7_fit_63 (fun H locs hP hD hS => ?_)
        have hP : va_P D vwCl [oX7 q v_size v_at v_begin v_token v_told v_undos v_changed v_felt v_wents v_wish v_trace, rA (q 8) cI 64 v_town, rA (q 21) cI 6 v_marks, rA (q 24) cI 7 (upd v_rows z1.toNatClampNeg z2), rA (q 25) cI 7 v_nextRows, rA (q 26) cI 7 v_from, rA (q 27) cI 7 v_nextFrom] H := hP
        have hD : va_D A [oX7 q v_size v_at v_begin v_token v_told v_undos v_changed v_felt v_wents v_wish v_trace, rA (q 8) cI 64 v_town, rA (q 21) cI 6 v_marks, rA (q 24) cI 7 (upd v_rows z1.toNatClampNeg z2), rA (q 25) cI 7 v_nextRows, rA (q 26) cI 7 v_from, rA (q 27) cI 7 v_nextFrom] := hD
        refine lv_aload_n hx hb dX7_fit_64 rfl (lv_at hl 0 rfl) ?_
        refine va_get (C := RX7) (T := TX7) (N := 34) (v := .ref (q 26)) hx hb hts iw7 hown hK hP 0 rfl rfl 25 (Nat.le_of_ble_eq_true rfl) lk58 (fun _ h9 => h9) rfl dX7_fit_65 ?_
        refine lv_iload_n hx hb dX7_fit_68 rfl (lv_at hl 1 rfl) ?_
        refine lv_iload_n hx hb dX7_fit_69 rfl (lv_at hl 2 rfl) ?_
        refine lv_if_eq (tgt := 79) hx hb dX7_fit_70 (by decide) (fun c28 => ?_) (fun c28 => ?_)
        · have h := (if_pos c28).symm.trans h
          refine lv_iconst (v := 0) hx hb dX7_fit_79 (by decide) ?_
          obtain ⟨hi29, h⟩ := xb_some h
          refine va_iast hx hb hK hP hD hS 5 0 rfl rfl hi29 dX7_fit_80 (fun H locs hP hD hS => ?_)
          have hP : va_P D vwCl [oX7 q v_size v_at v_begin v_token v_told v_undos v_changed v_felt v_wents v_wish v_trace, rA (q 8) cI 64 v_town, rA (q 21) cI 6 v_marks, rA (q 24) cI 7 (upd v_rows z1.toNatClampNeg z2), rA (q 25) cI 7 v_nextRows, rA (q 26) cI 7 (upd v_from x1.toNatClampNeg (0 : Int32)), rA (q 27) cI 7 v_nextFrom] H := hP
          have hD : va_D A [oX7 q v_size v_at v_begin v_token v_told v_undos v_changed v_felt v_wents v_wish v_trace, rA (q 8) cI 64 v_town, rA (q 21) cI 6 v_marks, rA (q 24) cI 7 (upd v_rows z1.toNatClampNeg z2), rA (q 25) cI 7 v_nextRows, rA (q 26) cI 7 (upd v_from x1.toNatClampNeg (0 : Int32)), rA (q 27) cI 7 v_nextFrom] := hD
          refine lv_iinc (v := x1 + 1) (lv' := [(1, .int (x1 + 1)), (0, .ref (q 0)), (2, .int x2)]) hx hb dX7_fit_81 hl (k := 1) rfl rfl (by decide) rfl (fun ls hl => ?_)
          refine lv_goto (tgt := 2) hx hb dX7_fit_84 (by decide) ?_
          exact ih2 (upd v_rows z1.toNatClampNeg z2) v_nextRows (upd v_from x1.toNatClampNeg (0 : Int32)) v_nextFrom (x1 + 1) H locs ls h hP hD hS (lv_sub hl [1, 0] rfl)
        · have h := (if_neg c28).symm.trans h
          refine lv_iconst (v := 1) hx hb dX7_fit_73 (by decide) ?_
          refine lv_iload_n hx hb dX7_fit_74 rfl (lv_at hl 1 rfl) ?_
          refine lv_ishl hx hb dX7_fit_75 ?_
          refine lv_goto (tgt := 80) hx hb dX7_fit_76 (by decide) ?_
          obtain ⟨hi30, h⟩ := xb_some h
          refine va_iast hx hb hK hP hD hS 5 0 rfl rfl hi30 dX7_fit_80 (fun H locs hP hD hS => ?_)
          have hP : va_P D vwCl [oX7 q v_size v_at v_begin v_token v_told v_undos v_changed v_felt v_wents v_wish v_trace, rA (q 8) cI 64 v_town, rA (q 21) cI 6 v_marks, rA (q 24) cI 7 (upd v_rows z1.toNatClampNeg z2), rA (q 25) cI 7 v_nextRows, rA (q 26) cI 7 (upd v_from x1.toNatClampNeg ((1 : Int32) <<< (x1 &&& 31))), rA (q 27) cI 7 v_nextFrom] H := hP
          have hD : va_D A [oX7 q v_size v_at v_begin v_token v_told v_undos v_changed v_felt v_wents v_wish v_trace, rA (q 8) cI 64 v_town, rA (q 21) cI 6 v_marks, rA (q 24) cI 7 (upd v_rows z1.toNatClampNeg z2), rA (q 25) cI 7 v_nextRows, rA (q 26) cI 7 (upd v_from x1.toNatClampNeg ((1 : Int32) <<< (x1 &&& 31))), rA (q 27) cI 7 v_nextFrom] := hD
          refine lv_iinc (v := x1 + 1) (lv' := [(1, .int (x1 + 1)), (0, .ref (q 0)), (2, .int x2)]) hx hb dX7_fit_81 hl (k := 1) rfl rfl (by decide) rfl (fun ls hl => ?_)
          refine lv_goto (tgt := 2) hx hb dX7_fit_84 (by decide) ?_
          exact ih2 (upd v_rows z1.toNatClampNeg z2) v_nextRows (upd v_from x1.toNatClampNeg ((1 : Int32) <<< (x1 &&& 31))) v_nextFrom (x1 + 1) H locs ls h hP hD hS (lv_sub hl [1, 0] rfl)
      have hJ48 : ∀ (v_rows : (Nat → Int32)) (v_nextRows : (Nat → Int32)) (v_from : (Nat → Int32)) (v_nextFrom : (Nat → Int32)) (x1 : Int32) (z0 : Int32) (H : Heap) (locs : List Loc) (ls : Array Slot), f_X7_fit_J48 fu (f_X7_fit_L2 fu n2) v_town v_felt v_marks v_rows v_nextRows v_from v_nextFrom x1 z0 = some res → va_P D vwCl [oX7 q v_size v_at v_begin v_token v_told v_undos v_changed v_felt v_wents v_wish v_trace, rA (q 8) cI 64 v_town, rA (q 21) cI 6 v_marks, rA (q 24) cI 7 v_rows, rA (q 25) cI 7 v_nextRows, rA (q 26) cI 7 v_from, rA (q 27) cI 7 v_nextFrom] H → va_D A [oX7 q v_size v_at v_begin v_token v_told v_undos v_changed v_felt v_wents v_wish v_trace, rA (q 8) cI 64 v_town, rA (q 21) cI 6 v_marks, rA (q 24) cI 7 v_rows, rA (q 25) cI 7 v_nextRows, rA (q 26) cI 7 v_from, rA (q 27) cI 7 v_nextFrom] → va_S A s.heap H locs → lv_has ls 5 [(0, .ref (q 0)), (1, .int x1)] → W p l e rm_X7_fit s m args below meth c H locs 0 0 Q (F0 m 48 ls [.int z0]) := by
        intro v_rows v_nextRows v_from v_nextFrom x1 z0 H locs ls h hP hD hS hl
        unfold f_X7_fit_J48 at h
        refine lv_istore_n (lv' := [(2, .int z0), (0, .ref (q 0)), (1, .int x1)]) hx hb dX7_fit_48 rfl hl (by decide) rfl (fun ls hl => ?_)
        refine lv_aload_n hx hb dX7_fit_49 rfl (lv_at hl 1 rfl) ?_
        refine va_get (C := RX7) (T := TX7) (N := 34) (v := .ref (q 24)) hx hb hts iw7 hown hK hP 0 rfl rfl 23 (Nat.le_of_ble_eq_true rfl) lk52 (fun _ h9 => h9) rfl dX7_fit_50 ?_
        refine lv_iload_n hx hb dX7_fit_53 rfl (lv_at hl 2 rfl) ?_
        refine lv_iload_n hx hb dX7_fit_54 rfl (lv_at hl 0 rfl) ?_
        refine lv_if_eq (tgt := 62) hx hb dX7_fit_55 (by decide) (fun c31 => ?_) (fun c31 => ?_)
        · have h := (if_pos c31).symm.trans h
          refine lv_iconst (v := 0) hx hb dX7_fit_62 (by decide) ?_
          exact hJ63 v_rows v_nextRows v_from v_nextFrom x1 z0 x1 (0 : Int32) H locs ls h hP hD hS (lv_sub hl [1, 2, 0] rfl)
        · have h := (if_neg c31).symm.trans h
          refine lv_iconst (v := 1) hx hb dX7_fit_58 (by decide) ?_
          refine lv_goto (tgt := 63) hx hb dX7_fit_59 (by decide) ?_
          exact hJ63 v_rows v_nextRows v_from v_nextFrom x1 z0 x1 (1 : Int32) H locs ls h hP hD hS (lv_sub hl [1, 2, 0] rfl)
      intro v_rows v_nextRows v_from v_nextFrom x1 H locs ls h hP hD hS hl
      have h : f_X7_fit_L2b fu (f_X7_fit_L2 fu n2) v_town v_felt v_marks v_rows v_nextRows v_from v_nextFrom x1 = some res := h
      unfold f_X7_fit_L2b at h
      refine lv_iload_n hx hb dX7_fit_2 rfl (lv_at hl 1 rfl) ?_
      refine lv_bipush (v := 7) hx hb dX7_fit_3 (by decide) ?_
      refine lv_icmp_ge (tgt := 87) hx hb dX7_fit_5 (by decide) (fun c32 => ?_) (fun c32 => ?_)
      · have h := (if_pos c32).symm.trans h
        refine lv_iconst (v := 1) hx hb dX7_fit_87 (by decide) ?_
        refine lv_istore_n (lv' := [(1, .int (1 : Int32)), (0, .ref (q 0))]) hx hb dX7_fit_88 rfl hl (by decide) rfl (fun ls hl => ?_)
        exact hL89 fu v_rows v_nextRows v_from v_nextFrom (1 : Int32) H locs ls h hP hD hS (lv_sub hl [1, 0] rfl)
      · have h := (if_neg c32).symm.trans h
        refine lv_iload_n hx hb dX7_fit_8 rfl (lv_at hl 1 rfl) ?_
        refine lv_aload_n hx hb dX7_fit_9 rfl (lv_at hl 0 rfl) ?_
        refine va_get (C := RX7) (T := TX7) (N := 34) (v := .ref (q 8)) hx hb hts iw7 hown hK hP 0 rfl rfl 7 (Nat.le_of_ble_eq_true rfl) lk16 (fun _ h9 => h9) rfl dX7_fit_10 ?_
        refine lv_iconst (v := 0) hx hb dX7_fit_13 (by decide) ?_
        obtain ⟨hi33, h⟩ := xb_some h
        refine va_iald hx hb hK hP 1 0 rfl rfl hi33 dX7_fit_14 ?_
        refine lv_icmp_ge (tgt := 47) hx hb dX7_fit_15 (by decide) (fun c34 => ?_) (fun c34 => ?_)
        · have h := (if_pos c34).symm.trans h
          refine lv_iconst (v := 0) hx hb dX7_fit_47 (by decide) ?_
          exact hJ48 v_rows v_nextRows v_from v_nextFrom x1 (0 : Int32) H locs ls h hP hD hS (lv_sub hl [0, 1] rfl)
        · have h := (if_neg c34).symm.trans h
          refine lv_aload_n hx hb dX7_fit_18 rfl (lv_at hl 0 rfl) ?_
          refine va_get (C := RX7) (T := TX7) (N := 34) (v := .int v_felt) hx hb hts iw7 hown hK hP 0 rfl rfl 19 (Nat.le_of_ble_eq_true rfl) lk157 (fun _ h9 => h9) rfl dX7_fit_19 ?_
          refine lv_if_le (tgt := 47) hx hb dX7_fit_22 (by decide) (fun c35 => ?_) (fun c35 => ?_)
          · have h := (if_pos c35).symm.trans h
            refine lv_iconst (v := 0) hx hb dX7_fit_47 (by decide) ?_
            exact hJ48 v_rows v_nextRows v_from v_nextFrom x1 (0 : Int32) H locs ls h hP hD hS (lv_sub hl [0, 1] rfl)
          · have h := (if_neg c35).symm.trans h
            refine lv_aload_n hx hb dX7_fit_25 rfl (lv_at hl 0 rfl) ?_
            refine va_get (C := RX7) (T := TX7) (N := 34) (v := .ref (q 8)) hx hb hts iw7 hown hK hP 0 rfl rfl 7 (Nat.le_of_ble_eq_true rfl) lk16 (fun _ h9 => h9) rfl dX7_fit_26 ?_
            refine lv_bipush (v := 6) hx hb dX7_fit_29 (by decide) ?_
            refine lv_iload_n hx hb dX7_fit_31 rfl (lv_at hl 1 rfl) ?_
            refine lv_iadd hx hb dX7_fit_32 ?_
            obtain ⟨hi36, h⟩ := xb_some h
            refine va_iald hx hb hK hP 1 0 rfl rfl hi36 dX7_fit_33 ?_
            refine lv_aload_n hx hb dX7_fit_34 rfl (lv_at hl 0 rfl) ?_
            refine va_get (C := RX7) (T := TX7) (N := 34) (v := .ref (q 21)) hx hb hts iw7 hown hK hP 0 rfl rfl 20 (Nat.le_of_ble_eq_true rfl) lk46 (fun _ h9 => h9) rfl dX7_fit_35 ?_
            refine lv_iconst (v := 0) hx hb dX7_fit_38 (by decide) ?_
            obtain ⟨hi37, h⟩ := xb_some h
            refine va_iald hx hb hK hP 2 0 rfl rfl hi37 dX7_fit_39 ?_
            refine lv_icmp_ne (tgt := 47) hx hb dX7_fit_40 (by decide) (fun c38 => ?_) (fun c38 => ?_)
            · have h := (if_neg c38).symm.trans h
              refine lv_iconst (v := 0) hx hb dX7_fit_47 (by decide) ?_
              exact hJ48 v_rows v_nextRows v_from v_nextFrom x1 (0 : Int32) H locs ls h hP hD hS (lv_sub hl [0, 1] rfl)
            · have h := (if_pos c38).symm.trans h
              refine lv_iconst (v := 1) hx hb dX7_fit_43 (by decide) ?_
              refine lv_goto (tgt := 48) hx hb dX7_fit_44 (by decide) ?_
              exact hJ48 v_rows v_nextRows v_from v_nextFrom x1 (1 : Int32) H locs ls h hP hD hS (lv_sub hl [0, 1] rfl)
  have h := hf
  unfold f_X7_fit at h
  obtain ⟨H, eH⟩ : ∃ H, H = s.heap := ⟨_, rfl⟩
  rw [← eH] at hP ⊢
  obtain ⟨locs, el⟩ : ∃ locs : List Loc, locs = [] := ⟨_, rfl⟩
  rw [← el] at hS ⊢
  have hS : va_S A s.heap H locs := by rw [eH]; exact hS
  refine lv_iconst (v := 0) hx hb dX7_fit_0 (by decide) ?_
  refine lv_istore_n (lv' := [(1, .int (0 : Int32)), (0, .ref (q 0))]) hx hb dX7_fit_1 rfl hl (by decide) rfl (fun ls hl => ?_)
  exact hL2 fu v_rows v_nextRows v_from v_nextFrom (0 : Int32) H locs ls h hP hD hS (lv_sub hl [1, 0] rfl)
