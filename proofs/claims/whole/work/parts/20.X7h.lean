abbrev rm_X7_day : Room := { frames := 2, cells := 0, slots := 0, locals := 50 }
set_option maxHeartbeats 4000000 in
set_option maxRecDepth 100000 in
theorem k_X7_day (l : Launch) (D : va_G) (cI cZ cT : ClassId) (q : Nat → Nat) (sz : Nat) (v_size : Int32) (v_at : Int32) (v_begin : Int32) (v_token : Int32) (v_told : Int32) (v_undos : Int32) (v_changed : Int32) (v_felt : Int32) (v_wents : Int32) (v_wish : Int32) (v_trace : Int64) (v_town : Nat → Int32) (v_wishFrom : Nat → Int32) (v_wishTo : Nat → Int32) (v_wishWorth : Nat → Int32) (v_minutes : Nat → Int32) (x1 : Int32) (x2 : Int32) (x3 : Int32) (x4 : Int32) (res : R_X7_day) (fu : Nat) (hf : f_X7_day fu v_town v_wish v_wishFrom v_wishTo v_wishWorth v_minutes x1 x2 x3 x4 = some res) : Met l yX7_day wsX7_day rm_X7_day (cPre D (tyz cI cZ cT) [.ref (q 0), .int x1, .int x2, .int x3, .int x4] sz [oX7 q v_size v_at v_begin v_token v_told v_undos v_changed v_felt v_wents v_wish v_trace, rA (q 8) cI 64 v_town, rA (q 29) cI 4 v_wishFrom, rA (q 30) cI 4 v_wishTo, rA (q 31) cI 4 v_wishWorth, rA (q 32) cI 49 v_minutes]) (cPi D (tyz cI cZ cT) (fun (r : Int32) (u : (Nat → Int32)) => (r, u) = res) (fun u => [oX7 q v_size v_at v_begin v_token v_told v_undos v_changed v_felt v_wents v_wish v_trace, rA (q 8) cI 64 v_town, rA (q 29) cI 4 v_wishFrom, rA (q 30) cI 4 v_wishTo, rA (q 31) cI 4 v_wishWorth, rA (q 32) cI 49 u]) [oX7 q v_size v_at v_begin v_token v_told v_undos v_changed v_felt v_wents v_wish v_trace, rA (q 8) cI 64 v_town, rA (q 29) cI 4 v_wishFrom, rA (q 30) cI 4 v_wishTo, rA (q 31) cI 4 v_wishWorth, rA (q 32) cI 49 v_minutes] sz) 0 0 (va_A [oX7 q v_size v_at v_begin v_token v_told v_undos v_changed v_felt v_wents v_wish v_trace, rA (q 8) cI 64 v_town, rA (q 29) cI 4 v_wishFrom, rA (q 30) cI 4 v_wishTo, rA (q 31) cI 4 v_wishWorth, rA (q 32) cI 49 v_minutes] sz) := by
  refine vx_meth_i (by decide) rfl (Nat.le_of_ble_eq_true rfl) ?_
  intro p e s m args below meth c A Q hx hb hml hown hts hK hP hD hA hS hret ls hl
  have hown : s.vm.findClass RX7 = some m.cls := hown
  have hl : lv_has ls 18 [(0, .ref (q 0)), (1, .int x1), (2, .int x2), (3, .int x3), (4, .int x4)] := hl
  have hFx : CallFix p m c cX7_day 18 s args wsX7_day RX7 := ⟨hx, hb, hml, hown, hts⟩
  have lk73 := hts (.fieldLink RX7 73 "FogGuidesModel" "minutes" "[I") (by decide +kernel)
  have iw7 : ∀ w ∈ u_ws RX7 TX7 34, w ∈ wsX7_day := by decide +kernel
  have lk64 := hts (.fieldLink RX7 64 "FogGuidesModel" "wishFrom" "[I") (by decide +kernel)
  have lk67 := hts (.fieldLink RX7 67 "FogGuidesModel" "wishTo" "[I") (by decide +kernel)
  have lk70 := hts (.fieldLink RX7 70 "FogGuidesModel" "wishWorth" "[I") (by decide +kernel)
  have lk163 := hts (.fieldLink RX7 163 "FogGuidesModel" "wish" "I") (by decide +kernel)
  have hL64 : ∀ (n64 : Nat), ∀ (v_minutes : (Nat → Int32)) (x2 : Int32) (x3 : Int32) (x4 : Int32) (x5 : Int32) (x6 : Int32) (x7 : Int32) (H : Heap) (locs : List Loc) (ls : Array Slot), f_X7_day_L64 fu n64 v_town v_wish v_wishFrom v_wishTo v_wishWorth v_minutes x2 x3 x4 x5 x6 x7 = some res → va_P D vwCl [oX7 q v_size v_at v_begin v_token v_told v_undos v_changed v_felt v_wents v_wish v_trace, rA (q 8) cI 64 v_town, rA (q 29) cI 4 v_wishFrom, rA (q 30) cI 4 v_wishTo, rA (q 31) cI 4 v_wishWorth, rA (q 32) cI 49 v_minutes] H → va_D A [oX7 q v_size v_at v_begin v_token v_told v_undos v_changed v_felt v_wents v_wish v_trace, rA (q 8) cI 64 v_town, rA (q 29) cI 4 v_wishFrom, rA (q 30) cI 4 v_wishTo, rA (q 31) cI 4 v_wishWorth, rA (q 32) cI 49 v_minutes] → va_S A s.heap H locs → lv_has ls 18 [(0, .ref (q 0)), (2, .int x2), (3, .int x3), (4, .int x4), (5, .int x5), (6, .int x6), (7, .int x7)] → W p l e rm_X7_day s m args below meth c H locs 0 0 Q (F0 m 64 ls []) := by
    intro n64
    induction n64 with
    | zero =>
      intro v_minutes x2 x3 x4 x5 x6 x7 H locs ls h hP hD hS hl
      cases (show (none : Option R_X7_day) = some res from h)
    | succ n64 ih64 =>
      have hJ338 : ∀ (v_minutes : (Nat → Int32)) (x2 : Int32) (x3 : Int32) (x4 : Int32) (x5 : Int32) (x7 : Int32) (x9 : Int32) (x15 : Int32) (z0 : Int32) (H : Heap) (locs : List Loc) (ls : Array Slot), f_X7_day_J338 fu (f_X7_day_L64 fu n64) v_town v_wish v_wishFrom v_wishTo v_wishWorth v_minutes x2 x3 x4 x5 x7 x9 x15 z0 = some res → va_P D vwCl [oX7 q v_size v_at v_begin v_token v_told v_undos v_changed v_felt v_wents v_wish v_trace, rA (q 8) cI 64 v_town, rA (q 29) cI 4 v_wishFrom, rA (q 30) cI 4 v_wishTo, rA (q 31) cI 4 v_wishWorth, rA (q 32) cI 49 v_minutes] H → va_D A [oX7 q v_size v_at v_begin v_token v_told v_undos v_changed v_felt v_wents v_wish v_trace, rA (q 8) cI 64 v_town, rA (q 29) cI 4 v_wishFrom, rA (q 30) cI 4 v_wishTo, rA (q 31) cI 4 v_wishWorth, rA (q 32) cI 49 v_minutes] → va_S A s.heap H locs → lv_has ls 18 [(0, .ref (q 0)), (2, .int x2), (3, .int x3), (4, .int x4), (5, .int x5), (7, .int x7), (9, .int x9), (15, .int x15)] → W p l e rm_X7_day s m args below meth c H locs 0 0 Q (F0 m 338 ls [.int z0]) := by
        intro v_minutes x2 x3 x4 x5 x7 x9 x15 z0 H locs ls h hP hD hS hl
        unfold f_X7_day_J338 at h
        refine lv_istore (lv' := [(6, .int z0), (0, .ref (q 0)), (2, .int x2), (3, .int x3), (4, .int x4), (5, .int x5), (7, .int x7), (9, .int x9), (15, .int x15)]) hx hb dX7_day_338 hl (by decide) rfl (fun ls hl => ?_)
        refine lv_iload hx hb dX7_day_340 (lv_at hl 8 rfl) ?_
        refine lv_if_eq (tgt := 350) hx hb dX7_day_342 (by decide) (fun c1 => ?_) (fun c1 => ?_)
        · have h := (if_pos c1).symm.trans h
          refine lv_iload hx hb dX7_day_350 (lv_at hl 5 rfl) ?_
          refine lv_istore (lv' := [(5, .int x5), (6, .int z0), (0, .ref (q 0)), (2, .int x2), (3, .int x3), (4, .int x4), (7, .int x7), (9, .int x9), (15, .int x15)]) hx hb dX7_day_352 hl (by decide) rfl (fun ls hl => ?_)
          refine lv_iinc (v := x7 + 1) (lv' := [(7, .int (x7 + 1)), (5, .int x5), (6, .int z0), (0, .ref (q 0)), (2, .int x2), (3, .int x3), (4, .int x4), (9, .int x9), (15, .int x15)]) hx hb dX7_day_354 hl (k := 6) rfl rfl (by decide) rfl (fun ls hl => ?_)
          refine lv_goto (tgt := 64) hx hb dX7_day_357 (by decide) ?_
          exact ih64 v_minutes x2 x3 x4 x5 z0 (x7 + 1) H locs ls h hP hD hS (lv_sub hl [3, 4, 5, 6, 1, 2, 0] rfl)
        · have h := (if_neg c1).symm.trans h
          refine lv_iload hx hb dX7_day_345 (lv_at hl 7 rfl) ?_
          refine lv_goto (tgt := 352) hx hb dX7_day_347 (by decide) ?_
          refine lv_istore (lv' := [(5, .int x9), (6, .int z0), (0, .ref (q 0)), (2, .int x2), (3, .int x3), (4, .int x4), (7, .int x7), (9, .int x9), (15, .int x15)]) hx hb dX7_day_352 hl (by decide) rfl (fun ls hl => ?_)
          refine lv_iinc (v := x7 + 1) (lv' := [(7, .int (x7 + 1)), (5, .int x9), (6, .int z0), (0, .ref (q 0)), (2, .int x2), (3, .int x3), (4, .int x4), (9, .int x9), (15, .int x15)]) hx hb dX7_day_354 hl (k := 6) rfl rfl (by decide) rfl (fun ls hl => ?_)
          refine lv_goto (tgt := 64) hx hb dX7_day_357 (by decide) ?_
          exact ih64 v_minutes x2 x3 x4 x9 z0 (x7 + 1) H locs ls h hP hD hS (lv_sub hl [3, 4, 5, 6, 1, 2, 0] rfl)
      have hJ324 : ∀ (v_minutes : (Nat → Int32)) (x2 : Int32) (x3 : Int32) (x4 : Int32) (x5 : Int32) (x6 : Int32) (x7 : Int32) (x8 : Int32) (x9 : Int32) (z0 : Int32) (H : Heap) (locs : List Loc) (ls : Array Slot), f_X7_day_J324 fu (f_X7_day_L64 fu n64) v_town v_wish v_wishFrom v_wishTo v_wishWorth v_minutes x2 x3 x4 x5 x6 x7 x8 x9 z0 = some res → va_P D vwCl [oX7 q v_size v_at v_begin v_token v_told v_undos v_changed v_felt v_wents v_wish v_trace, rA (q 8) cI 64 v_town, rA (q 29) cI 4 v_wishFrom, rA (q 30) cI 4 v_wishTo, rA (q 31) cI 4 v_wishWorth, rA (q 32) cI 49 v_minutes] H → va_D A [oX7 q v_size v_at v_begin v_token v_told v_undos v_changed v_felt v_wents v_wish v_trace, rA (q 8) cI 64 v_town, rA (q 29) cI 4 v_wishFrom, rA (q 30) cI 4 v_wishTo, rA (q 31) cI 4 v_wishWorth, rA (q 32) cI 49 v_minutes] → va_S A s.heap H locs → lv_has ls 18 [(0, .ref (q 0)), (2, .int x2), (3, .int x3), (4, .int x4), (5, .int x5), (6, .int x6), (7, .int x7), (8, .int x8), (9, .int x9)] → W p l e rm_X7_day s m args below meth c H locs 0 0 Q (F0 m 324 ls [.int z0]) := by
        intro v_minutes x2 x3 x4 x5 x6 x7 x8 x9 z0 H locs ls h hP hD hS hl
        unfold f_X7_day_J324 at h
        refine lv_istore (lv' := [(15, .int z0), (0, .ref (q 0)), (2, .int x2), (3, .int x3), (4, .int x4), (5, .int x5), (6, .int x6), (7, .int x7), (8, .int x8), (9, .int x9)]) hx hb dX7_day_324 hl (by decide) rfl (fun ls hl => ?_)
        refine lv_iload hx hb dX7_day_326 (lv_at hl 0 rfl) ?_
        refine lv_if_eq (tgt := 336) hx hb dX7_day_328 (by decide) (fun c2 => ?_) (fun c2 => ?_)
        · have h := (if_pos c2).symm.trans h
          refine lv_iload hx hb dX7_day_336 (lv_at hl 6 rfl) ?_
          exact hJ338 v_minutes x2 x3 x4 x5 x7 x9 z0 x6 H locs ls h hP hD hS (lv_sub hl [1, 2, 3, 4, 5, 7, 9, 0] rfl)
        · have h := (if_neg c2).symm.trans h
          refine lv_iload hx hb dX7_day_331 (lv_at hl 8 rfl) ?_
          refine lv_goto (tgt := 338) hx hb dX7_day_333 (by decide) ?_
          exact hJ338 v_minutes x2 x3 x4 x5 x7 x9 z0 x8 H locs ls h hP hD hS (lv_sub hl [1, 2, 3, 4, 5, 7, 9, 0] rfl)
      have hJ285 : ∀ (v_minutes : (Nat → Int32)) (x2 : Int32) (x3 : Int32) (x4 : Int32) (x5 : Int32) (x6 : Int32) (x7 : Int32) (x8 : Int32) (x9 : Int32) (x11 : Int64) (x13 : Int32) (H : Heap) (locs : List Loc) (ls : Array Slot), f_X7_day_J285 fu (f_X7_day_L64 fu n64) v_town v_wish v_wishFrom v_wishTo v_wishWorth v_minutes x2 x3 x4 x5 x6 x7 x8 x9 x11 x13 = some res → va_P D vwCl [oX7 q v_size v_at v_begin v_token v_told v_undos v_changed v_felt v_wents v_wish v_trace, rA (q 8) cI 64 v_town, rA (q 29) cI 4 v_wishFrom, rA (q 30) cI 4 v_wishTo, rA (q 31) cI 4 v_wishWorth, rA (q 32) cI 49 v_minutes] H → va_D A [oX7 q v_size v_at v_begin v_token v_told v_undos v_changed v_felt v_wents v_wish v_trace, rA (q 8) cI 64 v_town, rA (q 29) cI 4 v_wishFrom, rA (q 30) cI 4 v_wishTo, rA (q 31) cI 4 v_wishWorth, rA (q 32) cI 49 v_minutes] → va_S A s.heap H locs → lv_has ls 18 [(0, .ref (q 0)), (2, .int x2), (3, .int x3), (4, .int x4), (5, .int x5), (6, .int x6), (7, .int x7), (8, .int x8), (9, .int x9), (11, .long x11), (13, .int x13)] → W p l e rm_X7_day s m args below meth c H locs 0 0 Q (F0 m 285 ls []) := by
        intro v_minutes x2 x3 x4 x5 x6 x7 x8 x9 x11 x13 H locs ls h hP hD hS hl
        unfold f_X7_day_J285 at h
        refine lv_iload hx hb dX7_day_285 (lv_at hl 10 rfl) ?_
        refine lv_if_eq (tgt := 323) hx hb dX7_day_287 (by decide) (fun c3 => ?_) (fun c3 => ?_)
        · have h := (if_pos c3).symm.trans h
          refine lv_iconst (v := 0) hx hb dX7_day_323 (by decide) ?_
          exact hJ324 v_minutes x2 x3 x4 x5 x6 x7 x8 x9 (0 : Int32) H locs ls h hP hD hS (lv_sub hl [0, 1, 2, 3, 4, 5, 6, 7, 8] rfl)
        · have h := (if_neg c3).symm.trans h
          refine lv_lload hx hb dX7_day_290 (lv_at hl 9 rfl) ?_
          refine lv_iload_n hx hb dX7_day_292 rfl (lv_at hl 2 rfl) ?_
          refine lv_i2l hx hb dX7_day_293 rfl ?_
          refine W.lcmp hx hb dX7_day_294 ?_
          refine lv_if_gt (tgt := 323) hx hb dX7_day_295 (by decide) (fun c4 => ?_) (fun c4 => ?_)
          · have h := (if_pos c4).symm.trans h
            refine lv_iconst (v := 0) hx hb dX7_day_323 (by decide) ?_
            exact hJ324 v_minutes x2 x3 x4 x5 x6 x7 x8 x9 (0 : Int32) H locs ls h hP hD hS (lv_sub hl [0, 1, 2, 3, 4, 5, 6, 7, 8] rfl)
          · have h := (if_neg c4).symm.trans h
            refine lv_iload hx hb dX7_day_298 (lv_at hl 8 rfl) ?_
            refine lv_iload hx hb dX7_day_300 (lv_at hl 4 rfl) ?_
            refine lv_icmp_gt (tgt := 319) hx hb dX7_day_302 (by decide) (fun c5 => ?_) (fun c5 => ?_)
            · have h := (if_pos c5).symm.trans h
              refine lv_iconst (v := 1) hx hb dX7_day_319 (by decide) ?_
              refine lv_goto (tgt := 324) hx hb dX7_day_320 (by decide) ?_
              exact hJ324 v_minutes x2 x3 x4 x5 x6 x7 x8 x9 (1 : Int32) H locs ls h hP hD hS (lv_sub hl [0, 1, 2, 3, 4, 5, 6, 7, 8] rfl)
            · have h := (if_neg c5).symm.trans h
              refine lv_iload hx hb dX7_day_305 (lv_at hl 8 rfl) ?_
              refine lv_iload hx hb dX7_day_307 (lv_at hl 4 rfl) ?_
              refine lv_icmp_ne (tgt := 323) hx hb dX7_day_309 (by decide) (fun c6 => ?_) (fun c6 => ?_)
              · have h := (if_neg c6).symm.trans h
                refine lv_iconst (v := 0) hx hb dX7_day_323 (by decide) ?_
                exact hJ324 v_minutes x2 x3 x4 x5 x6 x7 x8 x9 (0 : Int32) H locs ls h hP hD hS (lv_sub hl [0, 1, 2, 3, 4, 5, 6, 7, 8] rfl)
              · have h := (if_pos c6).symm.trans h
                refine lv_iload hx hb dX7_day_312 (lv_at hl 7 rfl) ?_
                refine lv_iload hx hb dX7_day_314 (lv_at hl 5 rfl) ?_
                refine lv_icmp_ge (tgt := 323) hx hb dX7_day_316 (by decide) (fun c7 => ?_) (fun c7 => ?_)
                · have h := (if_pos c7).symm.trans h
                  refine lv_iconst (v := 0) hx hb dX7_day_323 (by decide) ?_
                  exact hJ324 v_minutes x2 x3 x4 x5 x6 x7 x8 x9 (0 : Int32) H locs ls h hP hD hS (lv_sub hl [0, 1, 2, 3, 4, 5, 6, 7, 8] rfl)
                · have h := (if_neg c7).symm.trans h
                  refine lv_iconst (v := 1) hx hb dX7_day_319 (by decide) ?_
                  refine lv_goto (tgt := 324) hx hb dX7_day_320 (by decide) ?_
                  exact hJ324 v_minutes x2 x3 x4 x5 x6 x7 x8 x9 (1 : Int32) H locs ls h hP hD hS (lv_sub hl [0, 1, 2, 3, 4, 5, 6, 7, 8] rfl)
      have hL97 : ∀ (n97 : Nat), ∀ (v_minutes : (Nat → Int32)) (x2 : Int32) (x3 : Int32) (x4 : Int32) (x5 : Int32) (x6 : Int32) (x7 : Int32) (x8 : Int32) (x9 : Int32) (x10 : Int32) (x11 : Int64) (x13 : Int32) (x14 : Int32) (x15 : Int32) (x16 : Int32) (H : Heap) (locs : List Loc) (ls : Array Slot), f_X7_day_L97 fu (f_X7_day_L64 fu n64) n97 v_town v_wish v_wishFrom v_wishTo v_wishWorth v_minutes x2 x3 x4 x5 x6 x7 x8 x9 x10 x11 x13 x14 x15 x16 = some res → va_P D vwCl [oX7 q v_size v_at v_begin v_token v_told v_undos v_changed v_felt v_wents v_wish v_trace, rA (q 8) cI 64 v_town, rA (q 29) cI 4 v_wishFrom, rA (q 30) cI 4 v_wishTo, rA (q 31) cI 4 v_wishWorth, rA (q 32) cI 49 v_minutes] H → va_D A [oX7 q v_size v_at v_begin v_token v_told v_undos v_changed v_felt v_wents v_wish v_trace, rA (q 8) cI 64 v_town, rA (q 29) cI 4 v_wishFrom, rA (q 30) cI 4 v_wishTo, rA (q 31) cI 4 v_wishWorth, rA (q 32) cI 49 v_minutes] → va_S A s.heap H locs → lv_has ls 18 [(0, .ref (q 0)), (2, .int x2), (3, .int x3), (4, .int x4), (5, .int x5), (6, .int x6), (7, .int x7), (8, .int x8), (9, .int x9), (10, .int x10), (11, .long x11), (13, .int x13), (14, .int x14), (15, .int x15), (16, .int x16)] → W p l e rm_X7_day s m args below meth c H locs 0 0 Q (F0 m 97 ls []) := by
        intro n97
        induction n97 with
        | zero =>
          intro v_minutes x2 x3 x4 x5 x6 x7 x8 x9 x10 x11 x13 x14 x15 x16 H locs ls h hP hD hS hl
          cases (show (none : Option R_X7_day) = some res from h)
        | succ n97 ih97 =>
          have hJ273 : ∀ (v_minutes : (Nat → Int32)) (x2 : Int32) (x3 : Int32) (x4 : Int32) (x5 : Int32) (x6 : Int32) (x7 : Int32) (x8 : Int32) (x9 : Int32) (x10 : Int32) (x11 : Int64) (x13 : Int32) (x14 : Int32) (x15 : Int32) (x16 : Int32) (H : Heap) (locs : List Loc) (ls : Array Slot), f_X7_day_J273 fu (f_X7_day_L64 fu n64) (f_X7_day_L97 fu (f_X7_day_L64 fu n64) n97) v_town v_wish v_wishFrom v_wishTo v_wishWorth v_minutes x2 x3 x4 x5 x6 x7 x8 x9 x10 x11 x13 x14 x15 x16 = some res → va_P D vwCl [oX7 q v_size v_at v_begin v_token v_told v_undos v_changed v_felt v_wents v_wish v_trace, rA (q 8) cI 64 v_town, rA (q 29) cI 4 v_wishFrom, rA (q 30) cI 4 v_wishTo, rA (q 31) cI 4 v_wishWorth, rA (q 32) cI 49 v_minutes] H → va_D A [oX7 q v_size v_at v_begin v_token v_told v_undos v_changed v_felt v_wents v_wish v_trace, rA (q 8) cI 64 v_town, rA (q 29) cI 4 v_wishFrom, rA (q 30) cI 4 v_wishTo, rA (q 31) cI 4 v_wishWorth, rA (q 32) cI 49 v_minutes] → va_S A s.heap H locs → lv_has ls 18 [(0, .ref (q 0)), (2, .int x2), (3, .int x3), (4, .int x4), (5, .int x5), (6, .int x6), (7, .int x7), (8, .int x8), (9, .int x9), (10, .int x10), (11, .long x11), (13, .int x13), (14, .int x14), (15, .int x15), (16, .int x16)] → W p l e rm_X7_day s m args below meth c H locs 0 0 Q (F0 m 273 ls []) := by
            intro v_minutes x2 x3 x4 x5 x6 x7 x8 x9 x10 x11 x13 x14 x15 x16 H locs ls h hP hD hS hl
            unfold f_X7_day_J273 at h
            refine lv_iinc (v := x15 + 1) (lv' := [(15, .int (x15 + 1)), (0, .ref (q 0)), (2, .int x2), (3, .int x3), (4, .int x4), (5, .int x5), (6, .int x6), (7, .int x7), (8, .int x8), (9, .int x9), (10, .int x10), (11, .long x11), (13, .int x13), (14, .int x14), (16, .int x16)]) hx hb dX7_day_273 hl (k := 13) rfl rfl (by decide) rfl (fun ls hl => ?_)
            refine lv_iload hx hb dX7_day_276 (lv_at hl 14 rfl) ?_
            refine lv_iconst (v := 5) hx hb dX7_day_278 (by decide) ?_
            refine lv_idiv hx hb dX7_day_279 (by decide) ?_
            refine lv_istore (lv' := [(16, .int (x16 / (5 : Int32))), (15, .int (x15 + 1)), (0, .ref (q 0)), (2, .int x2), (3, .int x3), (4, .int x4), (5, .int x5), (6, .int x6), (7, .int x7), (8, .int x8), (9, .int x9), (10, .int x10), (11, .long x11), (13, .int x13), (14, .int x14)]) hx hb dX7_day_280 hl (by decide) rfl (fun ls hl => ?_)
            refine lv_goto (tgt := 97) hx hb dX7_day_282 (by decide) ?_
            exact ih97 v_minutes x2 x3 x4 x5 x6 x7 x8 x9 x10 x11 x13 x14 (x15 + 1) (x16 / (5 : Int32)) H locs ls h hP hD hS (lv_sub hl [2, 3, 4, 5, 6, 7, 8, 9, 10, 11, 12, 13, 14, 1, 0] rfl)
          have hJ178 : ∀ (v_minutes : (Nat → Int32)) (x2 : Int32) (x3 : Int32) (x4 : Int32) (x5 : Int32) (x6 : Int32) (x7 : Int32) (x8 : Int32) (x9 : Int32) (x10 : Int32) (x11 : Int64) (x14 : Int32) (x15 : Int32) (x16 : Int32) (x17 : Int32) (z0 : Int32) (H : Heap) (locs : List Loc) (ls : Array Slot), f_X7_day_J178 fu (f_X7_day_L64 fu n64) (f_X7_day_L97 fu (f_X7_day_L64 fu n64) n97) v_town v_wish v_wishFrom v_wishTo v_wishWorth v_minutes x2 x3 x4 x5 x6 x7 x8 x9 x10 x11 x14 x15 x16 x17 z0 = some res → va_P D vwCl [oX7 q v_size v_at v_begin v_token v_told v_undos v_changed v_felt v_wents v_wish v_trace, rA (q 8) cI 64 v_town, rA (q 29) cI 4 v_wishFrom, rA (q 30) cI 4 v_wishTo, rA (q 31) cI 4 v_wishWorth, rA (q 32) cI 49 v_minutes] H → va_D A [oX7 q v_size v_at v_begin v_token v_told v_undos v_changed v_felt v_wents v_wish v_trace, rA (q 8) cI 64 v_town, rA (q 29) cI 4 v_wishFrom, rA (q 30) cI 4 v_wishTo, rA (q 31) cI 4 v_wishWorth, rA (q 32) cI 49 v_minutes] → va_S A s.heap H locs → lv_has ls 18 [(0, .ref (q 0)), (2, .int x2), (3, .int x3), (4, .int x4), (5, .int x5), (6, .int x6), (7, .int x7), (8, .int x8), (9, .int x9), (10, .int x10), (11, .long x11), (14, .int x14), (15, .int x15), (16, .int x16), (17, .int x17)] → W p l e rm_X7_day s m args below meth c H locs 0 0 Q (F0 m 178 ls [.int z0]) := by
            intro v_minutes x2 x3 x4 x5 x6 x7 x8 x9 x10 x11 x14 x15 x16 x17 z0 H locs ls h hP hD hS hl
            unfold f_X7_day_J178 at h
            refine lv_istore (lv' := [(13, .int z0), (0, .ref (q 0)), (2, .int x2), (3, .int x3), (4, .int x4), (5, .int x5), (6, .int x6), (7, .int x7), (8, .int x8), (9, .int x9), (10, .int x10), (11, .long x11), (14, .int x14), (15, .int x15), (16, .int x16), (17, .int x17)]) hx hb dX7_day_178 hl (by decide) rfl (fun ls hl => ?_)
            refine lv_iload hx hb dX7_day_180 (lv_at hl 0 rfl) ?_
            refine lv_if_eq (tgt := 273) hx hb dX7_day_182 (by decide) (fun c8 => ?_) (fun c8 => ?_)
            · have h := (if_pos c8).symm.trans h
              exact hJ273 v_minutes x2 x3 x4 x5 x6 x7 x8 x9 x10 x11 z0 x14 x15 x16 H locs ls h hP hD hS (lv_sub hl [1, 2, 3, 4, 5, 6, 7, 8, 9, 10, 11, 0, 12, 13, 14] rfl)
            · have h := (if_neg c8).symm.trans h
              refine lv_iload hx hb dX7_day_185 (lv_at hl 12 rfl) ?_
              refine lv_if_ne (tgt := 273) hx hb dX7_day_187 (by decide) (fun c9 => ?_) (fun c9 => ?_)
              · have h := (if_neg c9).symm.trans h
                exact hJ273 v_minutes x2 x3 x4 x5 x6 x7 x8 x9 x10 x11 z0 x14 x15 x16 H locs ls h hP hD hS (lv_sub hl [1, 2, 3, 4, 5, 6, 7, 8, 9, 10, 11, 0, 12, 13, 14] rfl)
              · have h := (if_pos c9).symm.trans h
                refine lv_lload hx hb dX7_day_190 (lv_at hl 11 rfl) ?_
                refine lv_aload_n hx hb dX7_day_192 rfl (lv_at hl 1 rfl) ?_
                refine va_get (C := RX7) (T := TX7) (N := 34) (v := .ref (q 32)) hx hb hts iw7 hown hK hP 0 rfl rfl 31 (Nat.le_of_ble_eq_true rfl) lk73 (fun _ h9 => h9) rfl dX7_day_193 ?_
                refine lv_bipush (v := 7) hx hb dX7_day_196 (by decide) ?_
                refine lv_iload hx hb dX7_day_198 (lv_at hl 10 rfl) ?_
                refine lv_imul hx hb dX7_day_200 ?_
                refine lv_aload_n hx hb dX7_day_201 rfl (lv_at hl 1 rfl) ?_
                refine va_get (C := RX7) (T := TX7) (N := 34) (v := .ref (q 29)) hx hb hts iw7 hown hK hP 0 rfl rfl 28 (Nat.le_of_ble_eq_true rfl) lk64 (fun _ h9 => h9) rfl dX7_day_202 ?_
                refine lv_iload hx hb dX7_day_205 (lv_at hl 15 rfl) ?_
                obtain ⟨hi10, h⟩ := xb_some h
                refine va_iald hx hb hK hP 2 0 rfl rfl hi10 dX7_day_207 ?_
                refine lv_iadd hx hb dX7_day_208 ?_
                obtain ⟨hi11, h⟩ := xb_some h
                refine va_iald hx hb hK hP 5 0 rfl rfl hi11 dX7_day_209 ?_
                refine lv_i2l hx hb dX7_day_210 rfl ?_
                refine lv_ladd hx hb dX7_day_211 ?_
                refine lv_lstore (lv' := [(11, .long (x11 + ((v_minutes (((7 : Int32) * x10) + (v_wishFrom x17.toNatClampNeg)).toNatClampNeg).toInt64))), (13, .int z0), (0, .ref (q 0)), (2, .int x2), (3, .int x3), (4, .int x4), (5, .int x5), (6, .int x6), (7, .int x7), (8, .int x8), (9, .int x9), (10, .int x10), (14, .int x14), (15, .int x15), (16, .int x16), (17, .int x17)]) hx hb dX7_day_212 hl (by decide) rfl (fun ls hl => ?_)
                refine lv_lload hx hb dX7_day_214 (lv_at hl 0 rfl) ?_
                refine lv_aload_n hx hb dX7_day_216 rfl (lv_at hl 2 rfl) ?_
                refine va_get (C := RX7) (T := TX7) (N := 34) (v := .ref (q 32)) hx hb hts iw7 hown hK hP 0 rfl rfl 31 (Nat.le_of_ble_eq_true rfl) lk73 (fun _ h9 => h9) rfl dX7_day_217 ?_
                refine lv_bipush (v := 7) hx hb dX7_day_220 (by decide) ?_
                refine lv_aload_n hx hb dX7_day_222 rfl (lv_at hl 2 rfl) ?_
                refine va_get (C := RX7) (T := TX7) (N := 34) (v := .ref (q 29)) hx hb hts iw7 hown hK hP 0 rfl rfl 28 (Nat.le_of_ble_eq_true rfl) lk64 (fun _ h9 => h9) rfl dX7_day_223 ?_
                refine lv_iload hx hb dX7_day_226 (lv_at hl 15 rfl) ?_
                obtain ⟨hi12, h⟩ := xb_some h
                refine va_iald hx hb hK hP 2 0 rfl rfl hi12 dX7_day_228 ?_
                refine lv_imul hx hb dX7_day_229 ?_
                refine lv_aload_n hx hb dX7_day_230 rfl (lv_at hl 2 rfl) ?_
                refine va_get (C := RX7) (T := TX7) (N := 34) (v := .ref (q 30)) hx hb hts iw7 hown hK hP 0 rfl rfl 29 (Nat.le_of_ble_eq_true rfl) lk67 (fun _ h9 => h9) rfl dX7_day_231 ?_
                refine lv_iload hx hb dX7_day_234 (lv_at hl 15 rfl) ?_
                obtain ⟨hi13, h⟩ := xb_some h
                refine va_iald hx hb hK hP 3 0 rfl rfl hi13 dX7_day_236 ?_
                refine lv_iadd hx hb dX7_day_237 ?_
                obtain ⟨hi14, h⟩ := xb_some h
                refine va_iald hx hb hK hP 5 0 rfl rfl hi14 dX7_day_238 ?_
                refine lv_i2l hx hb dX7_day_239 rfl ?_
                refine lv_ladd hx hb dX7_day_240 ?_
                refine lv_lstore (lv' := [(11, .long ((x11 + ((v_minutes (((7 : Int32) * x10) + (v_wishFrom x17.toNatClampNeg)).toNatClampNeg).toInt64)) + ((v_minutes (((7 : Int32) * (v_wishFrom x17.toNatClampNeg)) + (v_wishTo x17.toNatClampNeg)).toNatClampNeg).toInt64))), (13, .int z0), (0, .ref (q 0)), (2, .int x2), (3, .int x3), (4, .int x4), (5, .int x5), (6, .int x6), (7, .int x7), (8, .int x8), (9, .int x9), (10, .int x10), (14, .int x14), (15, .int x15), (16, .int x16), (17, .int x17)]) hx hb dX7_day_241 hl (by decide) rfl (fun ls hl => ?_)
                refine lv_aload_n hx hb dX7_day_243 rfl (lv_at hl 2 rfl) ?_
                refine va_get (C := RX7) (T := TX7) (N := 34) (v := .ref (q 30)) hx hb hts iw7 hown hK hP 0 rfl rfl 29 (Nat.le_of_ble_eq_true rfl) lk67 (fun _ h9 => h9) rfl dX7_day_244 ?_
                refine lv_iload hx hb dX7_day_247 (lv_at hl 15 rfl) ?_
                obtain ⟨hi15, h⟩ := xb_some h
                refine va_iald hx hb hK hP 3 0 rfl rfl hi15 dX7_day_249 ?_
                refine lv_istore (lv' := [(10, .int (v_wishTo x17.toNatClampNeg)), (11, .long ((x11 + ((v_minutes (((7 : Int32) * x10) + (v_wishFrom x17.toNatClampNeg)).toNatClampNeg).toInt64)) + ((v_minutes (((7 : Int32) * (v_wishFrom x17.toNatClampNeg)) + (v_wishTo x17.toNatClampNeg)).toNatClampNeg).toInt64))), (13, .int z0), (0, .ref (q 0)), (2, .int x2), (3, .int x3), (4, .int x4), (5, .int x5), (6, .int x6), (7, .int x7), (8, .int x8), (9, .int x9), (14, .int x14), (15, .int x15), (16, .int x16), (17, .int x17)]) hx hb dX7_day_250 hl (by decide) rfl (fun ls hl => ?_)
                refine lv_iload hx hb dX7_day_252 (lv_at hl 10 rfl) ?_
                refine lv_iconst (v := 1) hx hb dX7_day_254 (by decide) ?_
                refine lv_iload hx hb dX7_day_255 (lv_at hl 15 rfl) ?_
                refine lv_ishl hx hb dX7_day_257 ?_
                refine lv_ior hx hb dX7_day_258 ?_
                refine lv_istore (lv' := [(8, .int (x8 ||| ((1 : Int32) <<< (x17 &&& 31)))), (10, .int (v_wishTo x17.toNatClampNeg)), (11, .long ((x11 + ((v_minutes (((7 : Int32) * x10) + (v_wishFrom x17.toNatClampNeg)).toNatClampNeg).toInt64)) + ((v_minutes (((7 : Int32) * (v_wishFrom x17.toNatClampNeg)) + (v_wishTo x17.toNatClampNeg)).toNatClampNeg).toInt64))), (13, .int z0), (0, .ref (q 0)), (2, .int x2), (3, .int x3), (4, .int x4), (5, .int x5), (6, .int x6), (7, .int x7), (9, .int x9), (14, .int x14), (15, .int x15), (16, .int x16), (17, .int x17)]) hx hb dX7_day_259 hl (by decide) rfl (fun ls hl => ?_)
                refine lv_iload hx hb dX7_day_261 (lv_at hl 11 rfl) ?_
                refine lv_aload_n hx hb dX7_day_263 rfl (lv_at hl 4 rfl) ?_
                refine va_get (C := RX7) (T := TX7) (N := 34) (v := .ref (q 31)) hx hb hts iw7 hown hK hP 0 rfl rfl 30 (Nat.le_of_ble_eq_true rfl) lk70 (fun _ h9 => h9) rfl dX7_day_264 ?_
                refine lv_iload hx hb dX7_day_267 (lv_at hl 15 rfl) ?_
                obtain ⟨hi16, h⟩ := xb_some h
                refine va_iald hx hb hK hP 4 0 rfl rfl hi16 dX7_day_269 ?_
                refine lv_iadd hx hb dX7_day_270 ?_
                refine lv_istore (lv' := [(9, .int (x9 + (v_wishWorth x17.toNatClampNeg))), (8, .int (x8 ||| ((1 : Int32) <<< (x17 &&& 31)))), (10, .int (v_wishTo x17.toNatClampNeg)), (11, .long ((x11 + ((v_minutes (((7 : Int32) * x10) + (v_wishFrom x17.toNatClampNeg)).toNatClampNeg).toInt64)) + ((v_minutes (((7 : Int32) * (v_wishFrom x17.toNatClampNeg)) + (v_wishTo x17.toNatClampNeg)).toNatClampNeg).toInt64))), (13, .int z0), (0, .ref (q 0)), (2, .int x2), (3, .int x3), (4, .int x4), (5, .int x5), (6, .int x6), (7, .int x7), (14, .int x14), (15, .int x15), (16, .int x16), (17, .int x17)]) hx hb dX7_day_271 hl (by decide) rfl (fun ls hl => ?_)
                exact hJ273 v_minutes x2 x3 x4 x5 x6 x7 (x8 ||| ((1 : Int32) <<< (x17 &&& 31))) (x9 + (v_wishWorth x17.toNatClampNeg)) (v_wishTo x17.toNatClampNeg) ((x11 + ((v_minutes (((7 : Int32) * x10) + (v_wishFrom x17.toNatClampNeg)).toNatClampNeg).toInt64)) + ((v_minutes (((7 : Int32) * (v_wishFrom x17.toNatClampNeg)) + (v_wishTo x17.toNatClampNeg)).toNatClampNeg).toInt64)) z0 x14 x15 x16 H locs ls h hP hD hS (lv_sub hl [5, 6, 7, 8, 9, 10, 11, 1, 0, 2, 3, 4, 12, 13, 14] rfl)
          have hJ133 : ∀ (v_minutes : (Nat → Int32)) (x2 : Int32) (x3 : Int32) (x4 : Int32) (x5 : Int32) (x6 : Int32) (x7 : Int32) (x8 : Int32) (x9 : Int32) (x10 : Int32) (x11 : Int64) (x15 : Int32) (x16 : Int32) (x17 : Int32) (z0 : Int32) (H : Heap) (locs : List Loc) (ls : Array Slot), f_X7_day_J133 fu (f_X7_day_L64 fu n64) (f_X7_day_L97 fu (f_X7_day_L64 fu n64) n97) v_town v_wish v_wishFrom v_wishTo v_wishWorth v_minutes x2 x3 x4 x5 x6 x7 x8 x9 x10 x11 x15 x16 x17 z0 = some res → va_P D vwCl [oX7 q v_size v_at v_begin v_token v_told v_undos v_changed v_felt v_wents v_wish v_trace, rA (q 8) cI 64 v_town, rA (q 29) cI 4 v_wishFrom, rA (q 30) cI 4 v_wishTo, rA (q 31) cI 4 v_wishWorth, rA (q 32) cI 49 v_minutes] H → va_D A [oX7 q v_size v_at v_begin v_token v_told v_undos v_changed v_felt v_wents v_wish v_trace, rA (q 8) cI 64 v_town, rA (q 29) cI 4 v_wishFrom, rA (q 30) cI 4 v_wishTo, rA (q 31) cI 4 v_wishWorth, rA (q 32) cI 49 v_minutes] → va_S A s.heap H locs → lv_has ls 18 [(0, .ref (q 0)), (2, .int x2), (3, .int x3), (4, .int x4), (5, .int x5), (6, .int x6), (7, .int x7), (8, .int x8), (9, .int x9), (10, .int x10), (11, .long x11), (15, .int x15), (16, .int x16), (17, .int x17)] → W p l e rm_X7_day s m args below meth c H locs 0 0 Q (F0 m 133 ls [.int z0]) := by
            intro v_minutes x2 x3 x4 x5 x6 x7 x8 x9 x10 x11 x15 x16 x17 z0 H locs ls h hP hD hS hl
            unfold f_X7_day_J133 at h
            refine lv_istore (lv' := [(14, .int z0), (0, .ref (q 0)), (2, .int x2), (3, .int x3), (4, .int x4), (5, .int x5), (6, .int x6), (7, .int x7), (8, .int x8), (9, .int x9), (10, .int x10), (11, .long x11), (15, .int x15), (16, .int x16), (17, .int x17)]) hx hb dX7_day_133 hl (by decide) rfl (fun ls hl => ?_)
            refine lv_iload hx hb dX7_day_135 (lv_at hl 0 rfl) ?_
            refine lv_if_eq (tgt := 154) hx hb dX7_day_137 (by decide) (fun c17 => ?_) (fun c17 => ?_)
            · have h := (if_pos c17).symm.trans h
              refine lv_iload hx hb dX7_day_154 (lv_at hl 14 rfl) ?_
              refine lv_aload_n hx hb dX7_day_156 rfl (lv_at hl 1 rfl) ?_
              refine va_get (C := RX7) (T := TX7) (N := 34) (v := .int v_wish) hx hb hts iw7 hown hK hP 0 rfl rfl 27 (Nat.le_of_ble_eq_true rfl) lk163 (fun _ h9 => h9) rfl dX7_day_157 ?_
              refine lv_icmp_ge (tgt := 177) hx hb dX7_day_160 (by decide) (fun c18 => ?_) (fun c18 => ?_)
              · have h := (if_pos c18).symm.trans h
                refine lv_iconst (v := 0) hx hb dX7_day_177 (by decide) ?_
                exact hJ178 v_minutes x2 x3 x4 x5 x6 x7 x8 x9 x10 x11 z0 x15 x16 x17 (0 : Int32) H locs ls h hP hD hS (lv_sub hl [1, 2, 3, 4, 5, 6, 7, 8, 9, 10, 11, 0, 12, 13, 14] rfl)
              · have h := (if_neg c18).symm.trans h
                refine lv_iload hx hb dX7_day_163 (lv_at hl 8 rfl) ?_
                refine lv_iload hx hb dX7_day_165 (lv_at hl 14 rfl) ?_
                refine lv_ishr hx hb dX7_day_167 ?_
                refine lv_iconst (v := 1) hx hb dX7_day_168 (by decide) ?_
                refine lv_iand hx hb dX7_day_169 ?_
                refine lv_if_ne (tgt := 177) hx hb dX7_day_170 (by decide) (fun c19 => ?_) (fun c19 => ?_)
                · have h := (if_neg c19).symm.trans h
                  refine lv_iconst (v := 0) hx hb dX7_day_177 (by decide) ?_
                  exact hJ178 v_minutes x2 x3 x4 x5 x6 x7 x8 x9 x10 x11 z0 x15 x16 x17 (0 : Int32) H locs ls h hP hD hS (lv_sub hl [1, 2, 3, 4, 5, 6, 7, 8, 9, 10, 11, 0, 12, 13, 14] rfl)
                · have h := (if_pos c19).symm.trans h
                  refine lv_iconst (v := 1) hx hb dX7_day_173 (by decide) ?_
                  refine lv_goto (tgt := 178) hx hb dX7_day_174 (by decide) ?_
                  exact hJ178 v_minutes x2 x3 x4 x5 x6 x7 x8 x9 x10 x11 z0 x15 x16 x17 (1 : Int32) H locs ls h hP hD hS (lv_sub hl [1, 2, 3, 4, 5, 6, 7, 8, 9, 10, 11, 0, 12, 13, 14] rfl)
            · have h := (if_neg c17).symm.trans h
              refine lv_iload hx hb dX7_day_140 (lv_at hl 14 rfl) ?_
              refine lv_iconst (v := 4) hx hb dX7_day_142 (by decide) ?_
              refine lv_icmp_ne (tgt := 150) hx hb dX7_day_143 (by decide) (fun c20 => ?_) (fun c20 => ?_)
              · have h := (if_neg c20).symm.trans h
                refine lv_iconst (v := 0) hx hb dX7_day_150 (by decide) ?_
                refine lv_goto (tgt := 178) hx hb dX7_day_151 (by decide) ?_
                exact hJ178 v_minutes x2 x3 x4 x5 x6 x7 x8 x9 x10 x11 z0 x15 x16 x17 (0 : Int32) H locs ls h hP hD hS (lv_sub hl [1, 2, 3, 4, 5, 6, 7, 8, 9, 10, 11, 0, 12, 13, 14] rfl)
              · have h := (if_pos c20).symm.trans h
                refine lv_iconst (v := 1) hx hb dX7_day_146 (by decide) ?_
                refine lv_goto (tgt := 178) hx hb dX7_day_147 (by decide) ?_
                exact hJ178 v_minutes x2 x3 x4 x5 x6 x7 x8 x9 x10 x11 z0 x15 x16 x17 (1 : Int32) H locs ls h hP hD hS (lv_sub hl [1, 2, 3, 4, 5, 6, 7, 8, 9, 10, 11, 0, 12, 13, 14] rfl)
          intro v_minutes x2 x3 x4 x5 x6 x7 x8 x9 x10 x11 x13 x14 x15 x16 H locs ls h hP hD hS hl
          have h : f_X7_day_L97b fu (f_X7_day_L64 fu n64) (f_X7_day_L97 fu (f_X7_day_L64 fu n64) n97) v_town v_wish v_wishFrom v_wishTo v_wishWorth v_minutes x2 x3 x4 x5 x6 x7 x8 x9 x10 x11 x13 x14 x15 x16 = some res := h
          unfold f_X7_day_L97b at h
          refine lv_iload hx hb dX7_day_97 (lv_at hl 13 rfl) ?_
          refine lv_iconst (v := 4) hx hb dX7_day_99 (by decide) ?_
          refine lv_icmp_ge (tgt := 285) hx hb dX7_day_100 (by decide) (fun c21 => ?_) (fun c21 => ?_)
          · have h := (if_pos c21).symm.trans h
            exact hJ285 v_minutes x2 x3 x4 x5 x6 x7 x8 x9 x11 x13 H locs ls h hP hD hS (lv_sub hl [0, 1, 2, 3, 4, 5, 6, 7, 8, 10, 11] rfl)
          · have h := (if_neg c21).symm.trans h
            refine lv_iload hx hb dX7_day_103 (lv_at hl 11 rfl) ?_
            refine lv_if_eq (tgt := 285) hx hb dX7_day_105 (by decide) (fun c22 => ?_) (fun c22 => ?_)
            · have h := (if_pos c22).symm.trans h
              exact hJ285 v_minutes x2 x3 x4 x5 x6 x7 x8 x9 x11 x13 H locs ls h hP hD hS (lv_sub hl [0, 1, 2, 3, 4, 5, 6, 7, 8, 10, 11] rfl)
            · have h := (if_neg c22).symm.trans h
              refine lv_iload hx hb dX7_day_108 (lv_at hl 6 rfl) ?_
              refine lv_iload hx hb dX7_day_110 (lv_at hl 14 rfl) ?_
              obtain ⟨hd25, h⟩ := xd_some h
              refine lv_idiv hx hb dX7_day_112 hd25 ?_
              refine lv_iconst (v := 5) hx hb dX7_day_113 (by decide) ?_
              refine lv_irem hx hb dX7_day_114 (by decide) ?_
              refine lv_istore (lv' := [(17, .int ((x7 / x16) - (x7 / x16) / (5 : Int32) * (5 : Int32))), (0, .ref (q 0)), (2, .int x2), (3, .int x3), (4, .int x4), (5, .int x5), (6, .int x6), (7, .int x7), (8, .int x8), (9, .int x9), (10, .int x10), (11, .long x11), (13, .int x13), (14, .int x14), (15, .int x15), (16, .int x16)]) hx hb dX7_day_115 hl (by decide) rfl (fun ls hl => ?_)
              refine lv_iload hx hb dX7_day_117 (lv_at hl 13 rfl) ?_
              refine lv_if_ne (tgt := 128) hx hb dX7_day_119 (by decide) (fun c23 => ?_) (fun c23 => ?_)
              · have h := (if_neg c23).symm.trans h
                refine lv_iconst (v := 1) hx hb dX7_day_128 (by decide) ?_
                refine lv_goto (tgt := 133) hx hb dX7_day_129 (by decide) ?_
                exact hJ133 v_minutes x2 x3 x4 x5 x6 x7 x8 x9 x10 x11 x15 x16 ((x7 / x16) - (x7 / x16) / (5 : Int32) * (5 : Int32)) (1 : Int32) H locs ls h hP hD hS (lv_sub hl [1, 2, 3, 4, 5, 6, 7, 8, 9, 10, 11, 14, 15, 0] rfl)
              · have h := (if_pos c23).symm.trans h
                refine lv_iload hx hb dX7_day_122 (lv_at hl 0 rfl) ?_
                refine lv_iconst (v := 4) hx hb dX7_day_124 (by decide) ?_
                refine lv_icmp_ne (tgt := 132) hx hb dX7_day_125 (by decide) (fun c24 => ?_) (fun c24 => ?_)
                · have h := (if_neg c24).symm.trans h
                  refine lv_iconst (v := 0) hx hb dX7_day_132 (by decide) ?_
                  exact hJ133 v_minutes x2 x3 x4 x5 x6 x7 x8 x9 x10 x11 x15 x16 ((x7 / x16) - (x7 / x16) / (5 : Int32) * (5 : Int32)) (0 : Int32) H locs ls h hP hD hS (lv_sub hl [1, 2, 3, 4, 5, 6, 7, 8, 9, 10, 11, 14, 15, 0] rfl)
                · have h := (if_pos c24).symm.trans h
                  refine lv_iconst (v := 1) hx hb dX7_day_128 (by decide) ?_
                  refine lv_goto (tgt := 133) hx hb dX7_day_129 (by decide) ?_
                  exact hJ133 v_minutes x2 x3 x4 x5 x6 x7 x8 x9 x10 x11 x15 x16 ((x7 / x16) - (x7 / x16) / (5 : Int32) * (5 : Int32)) (1 : Int32) H locs ls h hP hD hS (lv_sub hl [1, 2, 3, 4, 5, 6, 7, 8, 9, 10, 11, 14, 15, 0] rfl)
      intro v_minutes x2 x3 x4 x5 x6 x7 H locs ls h hP hD hS hl
      have h : f_X7_day_L64b fu (f_X7_day_L64 fu n64) v_town v_wish v_wishFrom v_wishTo v_wishWorth v_minutes x2 x3 x4 x5 x6 x7 = some res := h
      unfold f_X7_day_L64b at h
      refine lv_iload hx hb dX7_day_64 (lv_at hl 6 rfl) ?_
      refine lv_sipush (v := 625) hx hb dX7_day_66 (by decide) ?_
      refine lv_icmp_ge (tgt := 360) hx hb dX7_day_69 (by decide) (fun c26 => ?_) (fun c26 => ?_)
      · have h := (if_pos c26).symm.trans h
        refine lv_iload hx hb dX7_day_360 (lv_at hl 3 rfl) ?_
        refine lv_if_ne (tgt := 370) hx hb dX7_day_362 (by decide) (fun c27 => ?_) (fun c27 => ?_)
        · have h := (if_neg c27).symm.trans h
          refine lv_iload hx hb dX7_day_370 (lv_at hl 5 rfl) ?_
          exact hret x6 v_minutes H locs _ ls (Option.some.inj h) hP hD hS dX7_day_372
        · have h := (if_pos c27).symm.trans h
          refine lv_iload hx hb dX7_day_365 (lv_at hl 4 rfl) ?_
          refine lv_goto (tgt := 372) hx hb dX7_day_367 (by decide) ?_
          exact hret x5 v_minutes H locs _ ls (Option.some.inj h) hP hD hS dX7_day_372
      · have h := (if_neg c26).symm.trans h
        refine lv_iconst (v := 0) hx hb dX7_day_72 (by decide) ?_
        refine lv_istore (lv' := [(8, .int (0 : Int32)), (0, .ref (q 0)), (2, .int x2), (3, .int x3), (4, .int x4), (5, .int x5), (6, .int x6), (7, .int x7)]) hx hb dX7_day_73 hl (by decide) rfl (fun ls hl => ?_)
        refine lv_iconst (v := 0) hx hb dX7_day_75 (by decide) ?_
        refine lv_istore (lv' := [(9, .int (0 : Int32)), (8, .int (0 : Int32)), (0, .ref (q 0)), (2, .int x2), (3, .int x3), (4, .int x4), (5, .int x5), (6, .int x6), (7, .int x7)]) hx hb dX7_day_76 hl (by decide) rfl (fun ls hl => ?_)
        refine lv_iload_n hx hb dX7_day_78 rfl (lv_at hl 3 rfl) ?_
        refine lv_istore (lv' := [(10, .int x2), (9, .int (0 : Int32)), (8, .int (0 : Int32)), (0, .ref (q 0)), (2, .int x2), (3, .int x3), (4, .int x4), (5, .int x5), (6, .int x6), (7, .int x7)]) hx hb dX7_day_79 hl (by decide) rfl (fun ls hl => ?_)
        refine lv_lconst (v := 0) hx hb dX7_day_81 (by decide) ?_
        refine lv_lstore (lv' := [(11, .long (0 : Int64)), (10, .int x2), (9, .int (0 : Int32)), (8, .int (0 : Int32)), (0, .ref (q 0)), (2, .int x2), (3, .int x3), (4, .int x4), (5, .int x5), (6, .int x6), (7, .int x7)]) hx hb dX7_day_82 hl (by decide) rfl (fun ls hl => ?_)
        refine lv_iconst (v := 1) hx hb dX7_day_84 (by decide) ?_
        refine lv_istore (lv' := [(13, .int (1 : Int32)), (11, .long (0 : Int64)), (10, .int x2), (9, .int (0 : Int32)), (8, .int (0 : Int32)), (0, .ref (q 0)), (2, .int x2), (3, .int x3), (4, .int x4), (5, .int x5), (6, .int x6), (7, .int x7)]) hx hb dX7_day_85 hl (by decide) rfl (fun ls hl => ?_)
        refine lv_iconst (v := 0) hx hb dX7_day_87 (by decide) ?_
        refine lv_istore (lv' := [(14, .int (0 : Int32)), (13, .int (1 : Int32)), (11, .long (0 : Int64)), (10, .int x2), (9, .int (0 : Int32)), (8, .int (0 : Int32)), (0, .ref (q 0)), (2, .int x2), (3, .int x3), (4, .int x4), (5, .int x5), (6, .int x6), (7, .int x7)]) hx hb dX7_day_88 hl (by decide) rfl (fun ls hl => ?_)
        refine lv_iconst (v := 0) hx hb dX7_day_90 (by decide) ?_
        refine lv_istore (lv' := [(15, .int (0 : Int32)), (14, .int (0 : Int32)), (13, .int (1 : Int32)), (11, .long (0 : Int64)), (10, .int x2), (9, .int (0 : Int32)), (8, .int (0 : Int32)), (0, .ref (q 0)), (2, .int x2), (3, .int x3), (4, .int x4), (5, .int x5), (6, .int x6), (7, .int x7)]) hx hb dX7_day_91 hl (by decide) rfl (fun ls hl => ?_)
        refine lv_bipush (v := 125) hx hb dX7_day_93 (by decide) ?_
        refine lv_istore (lv' := [(16, .int (125 : Int32)), (15, .int (0 : Int32)), (14, .int (0 : Int32)), (13, .int (1 : Int32)), (11, .long (0 : Int64)), (10, .int x2), (9, .int (0 : Int32)), (8, .int (0 : Int32)), (0, .ref (q 0)), (2, .int x2), (3, .int x3), (4, .int x4), (5, .int x5), (6, .int x6), (7, .int x7)]) hx hb dX7_day_95 hl (by decide) rfl (fun ls hl => ?_)
        exact hL97 fu v_minutes x2 x3 x4 x5 x6 x7 (0 : Int32) (0 : Int32) x2 (0 : Int64) (1 : Int32) (0 : Int32) (0 : Int32) (125 : Int32) H locs ls h hP hD hS (lv_sub hl [8, 9, 10, 11, 12, 13, 14, 7, 6, 5, 4, 3, 2, 1, 0] rfl)
  have h := hf
  unfold f_X7_day at h
  obtain ⟨H, eH⟩ : ∃ H, H = s.heap := ⟨_, rfl⟩
  rw [← eH] at hP ⊢
  obtain ⟨locs, el⟩ : ∃ locs : List Loc, locs = [] := ⟨_, rfl⟩
  rw [← el] at hS ⊢
  have hS : va_S A s.heap H locs := by rw [eH]; exact hS
  refine lv_aload_n hx hb dX7_day_0 rfl (lv_at hl 0 rfl) ?_
  refine lv_iload_n hx hb dX7_day_1 rfl (lv_at hl 1 rfl) ?_
  obtain ⟨r28, hr28, h⟩ := xk_some h
  refine vx_VJ (As := [.int x1]) (rest := []) hFx (k_X7_isGuide l D cI cZ cT q H.size v_size v_at v_begin v_token v_told v_undos v_changed v_felt v_wents v_wish v_trace v_town x1 r28 hr28) (cwV 1 hts gX7_day_X7_isGuide rfl rfl rfl (by decide +kernel) ⟨Nat.le_of_ble_eq_true rfl, Nat.le_of_ble_eq_true rfl⟩) hK hP hD hS hA [0, 1] rfl rfl 7 0 rfl rfl rfl hl.1 rfl (Nat.le_of_ble_eq_true rfl) dX7_day_2 ⟨Nat.zero_le _, Nat.zero_le _⟩ (fun H locs hP hS => ?_)
  refine lv_if_eq (tgt := 48) hx hb dX7_day_5 (by decide) (fun c29 => ?_) (fun c29 => ?_)
  · have h := (if_pos c29).symm.trans h
    refine lv_iconst (v := (-1)) hx hb dX7_day_48 (by decide) ?_
    exact hret (-1 : Int32) v_minutes H locs _ ls (Option.some.inj h) hP hD hS dX7_day_49
  · have h := (if_neg c29).symm.trans h
    refine lv_aload_n hx hb dX7_day_8 rfl (lv_at hl 0 rfl) ?_
    refine lv_iload_n hx hb dX7_day_9 rfl (lv_at hl 2 rfl) ?_
    obtain ⟨r30, hr30, h⟩ := xk_some h
    refine vx_VJ (As := [.int x2]) (rest := []) hFx (k_X7_isCorner l D cI cZ cT q H.size v_size v_at v_begin v_token v_told v_undos v_changed v_felt v_wents v_wish v_trace v_town x2 r30 hr30) (cwV 1 hts gX7_day_X7_isCorner rfl rfl rfl (by decide +kernel) ⟨Nat.le_of_ble_eq_true rfl, Nat.le_of_ble_eq_true rfl⟩) hK hP hD hS hA [0, 1] rfl rfl 7 0 rfl rfl rfl hl.1 rfl (Nat.le_of_ble_eq_true rfl) dX7_day_10 ⟨Nat.zero_le _, Nat.zero_le _⟩ (fun H locs hP hS => ?_)
    refine lv_if_eq (tgt := 48) hx hb dX7_day_13 (by decide) (fun c31 => ?_) (fun c31 => ?_)
    · have h := (if_pos c31).symm.trans h
      refine lv_iconst (v := (-1)) hx hb dX7_day_48 (by decide) ?_
      exact hret (-1 : Int32) v_minutes H locs _ ls (Option.some.inj h) hP hD hS dX7_day_49
    · have h := (if_neg c31).symm.trans h
      refine lv_iload_n hx hb dX7_day_16 rfl (lv_at hl 3 rfl) ?_
      refine lv_i2l hx hb dX7_day_17 rfl ?_
      refine lv_lconst (v := 0) hx hb dX7_day_18 (by decide) ?_
      refine lv_ldc2 (v := (99)) hx hb hown (hts (.constantLong RX7 226 (99)) (by decide +kernel)) dX7_day_19 ?_
      obtain ⟨r32, hr32, h⟩ := xk_some h
      refine vx_SJ (As := [.long x3.toInt64, .long (0 : Int64), .long (99 : Int64)]) (rest := []) hFx (k_X7_in l D cI cZ cT H.size x3.toInt64 (0 : Int64) (99 : Int64) r32 hr32) (vx_cwS 3 hts gX7_day_X7_in rfl rfl rfl (by decide +kernel) ⟨Nat.le_of_ble_eq_true rfl, Nat.le_of_ble_eq_true rfl⟩) hK hP hD hS hA rfl hl.1 rfl (Nat.le_of_ble_eq_true rfl) dX7_day_22 ⟨Nat.zero_le _, Nat.zero_le _⟩ (fun H locs hP hS => ?_)
      refine lv_if_eq (tgt := 48) hx hb dX7_day_25 (by decide) (fun c33 => ?_) (fun c33 => ?_)
      · have h := (if_pos c33).symm.trans h
        refine lv_iconst (v := (-1)) hx hb dX7_day_48 (by decide) ?_
        exact hret (-1 : Int32) v_minutes H locs _ ls (Option.some.inj h) hP hD hS dX7_day_49
      · have h := (if_neg c33).symm.trans h
        refine lv_iload hx hb dX7_day_28 (lv_at hl 4 rfl) ?_
        refine lv_i2l hx hb dX7_day_30 rfl ?_
        refine lv_lconst (v := 0) hx hb dX7_day_31 (by decide) ?_
        refine lv_lconst (v := 1) hx hb dX7_day_32 (by decide) ?_
        obtain ⟨r34, hr34, h⟩ := xk_some h
        refine vx_SJ (As := [.long x4.toInt64, .long (0 : Int64), .long (1 : Int64)]) (rest := []) hFx (k_X7_in l D cI cZ cT H.size x4.toInt64 (0 : Int64) (1 : Int64) r34 hr34) (vx_cwS 3 hts gX7_day_X7_in rfl rfl rfl (by decide +kernel) ⟨Nat.le_of_ble_eq_true rfl, Nat.le_of_ble_eq_true rfl⟩) hK hP hD hS hA rfl hl.1 rfl (Nat.le_of_ble_eq_true rfl) dX7_day_33 ⟨Nat.zero_le _, Nat.zero_le _⟩ (fun H locs hP hS => ?_)
        refine lv_if_eq (tgt := 48) hx hb dX7_day_36 (by decide) (fun c35 => ?_) (fun c35 => ?_)
        · have h := (if_pos c35).symm.trans h
          refine lv_iconst (v := (-1)) hx hb dX7_day_48 (by decide) ?_
          exact hret (-1 : Int32) v_minutes H locs _ ls (Option.some.inj h) hP hD hS dX7_day_49
        · have h := (if_neg c35).symm.trans h
          refine lv_aload_n hx hb dX7_day_39 rfl (lv_at hl 0 rfl) ?_
          refine lv_iload_n hx hb dX7_day_40 rfl (lv_at hl 1 rfl) ?_
          refine lv_iload_n hx hb dX7_day_41 rfl (lv_at hl 2 rfl) ?_
          obtain ⟨r36, hr36, h⟩ := xk_some h
          refine vx_VJ (As := [.int x1, .int x2]) (rest := []) hFx (k_X7_isHis l D cI cZ cT q H.size v_size v_at v_begin v_token v_told v_undos v_changed v_felt v_wents v_wish v_trace v_town x1 x2 r36 hr36) (cwV 2 hts gX7_day_X7_isHis rfl rfl rfl (by decide +kernel) ⟨Nat.le_of_ble_eq_true rfl, Nat.le_of_ble_eq_true rfl⟩) hK hP hD hS hA [0, 1] rfl rfl 7 0 rfl rfl rfl hl.1 rfl (Nat.le_of_ble_eq_true rfl) dX7_day_42 ⟨Nat.zero_le _, Nat.zero_le _⟩ (fun H locs hP hS => ?_)
          refine lv_if_ne (tgt := 50) hx hb dX7_day_45 (by decide) (fun c37 => ?_) (fun c37 => ?_)
          · have h := (if_neg c37).symm.trans h
            refine lv_aload_n hx hb dX7_day_50 rfl (lv_at hl 0 rfl) ?_
            refine lv_iload_n hx hb dX7_day_51 rfl (lv_at hl 1 rfl) ?_
            obtain ⟨r38, hr38, h⟩ := xk_some h
            refine vx_VV (As := [.int x1]) (rest := []) (wr := [rA (q 29) cI 4 v_wishFrom, rA (q 30) cI 4 v_wishTo, rA (q 31) cI 4 v_wishWorth]) (wn := [oX7 q v_size v_at v_begin v_token v_told v_undos v_changed v_felt v_wents v_wish v_trace, rA (q 8) cI 64 v_town, rA (q 29) cI 4 v_wishFrom, rA (q 30) cI 4 v_wishTo, rA (q 31) cI 4 v_wishWorth, rA (q 32) cI 49 r38]) hFx (k_X7_shortest l D cI cZ cT q H.size v_size v_at v_begin v_token v_told v_undos v_changed v_felt v_wents v_wish v_trace v_town v_minutes x1 r38 fu hr38) (cwV 1 hts gX7_day_X7_shortest rfl rfl rfl (by decide +kernel) ⟨Nat.le_of_ble_eq_true rfl, Nat.le_of_ble_eq_true rfl⟩) hK hP hD hS hA [0, 1, 5] [2, 3, 4] [3, 4, 0, 1, 2, 5] rfl rfl rfl rfl (by decide) rfl rfl 7 0 rfl rfl rfl hl.1 rfl (Nat.le_of_ble_eq_true rfl) dX7_day_52 ⟨Nat.zero_le _, Nat.zero_le _⟩ (fun H locs hP hD hS => ?_)
            refine lv_iconst (v := 0) hx hb dX7_day_55 (by decide) ?_
            refine lv_istore (lv' := [(5, .int (0 : Int32)), (0, .ref (q 0)), (1, .int x1), (2, .int x2), (3, .int x3), (4, .int x4)]) hx hb dX7_day_56 hl (by decide) rfl (fun ls hl => ?_)
            refine lv_iconst (v := 0) hx hb dX7_day_58 (by decide) ?_
            refine lv_istore (lv' := [(6, .int (0 : Int32)), (5, .int (0 : Int32)), (0, .ref (q 0)), (1, .int x1), (2, .int x2), (3, .int x3), (4, .int x4)]) hx hb dX7_day_59 hl (by decide) rfl (fun ls hl => ?_)
            refine lv_iconst (v := 0) hx hb dX7_day_61 (by decide) ?_
            refine lv_istore (lv' := [(7, .int (0 : Int32)), (6, .int (0 : Int32)), (5, .int (0 : Int32)), (0, .ref (q 0)), (1, .int x1), (2, .int x2), (3, .int x3), (4, .int x4)]) hx hb dX7_day_62 hl (by decide) rfl (fun ls hl => ?_)
            exact hL64 fu r38 x2 x3 x4 (0 : Int32) (0 : Int32) (0 : Int32) H locs ls h hP hD hS (lv_sub hl [3, 5, 6, 7, 2, 1, 0] rfl)
          · have h := (if_pos c37).symm.trans h
            refine lv_iconst (v := (-1)) hx hb dX7_day_48 (by decide) ?_
            exact hret (-1 : Int32) v_minutes H locs _ ls (Option.some.inj h) hP hD hS dX7_day_49
abbrev rm_X7_rate : Room := { frames := 2, cells := 0, slots := 0, locals := 46 }
set_option maxHeartbeats 4000000 in
set_option maxRecDepth 100000 in
theorem k_X7_rate (l : Launch) (D : va_G) (cI cZ cT : ClassId) (q : Nat → Nat) (sz : Nat) (v_size : Int32) (v_at : Int32) (v_begin : Int32) (v_token : Int32) (v_told : Int32) (v_undos : Int32) (v_changed : Int32) (v_felt : Int32) (v_wents : Int32) (v_wish : Int32) (v_trace : Int64) (v_town : Nat → Int32) (v_now : Nat → Int32) (x1 : Int32) (x2 : Int32) (res : R_X7_rate) (fu : Nat) (hf : f_X7_rate fu v_town v_now v_trace x1 x2 = some res) : Met l yX7_rate wsX7_rate rm_X7_rate (cPre D (tyz cI cZ cT) [.ref (q 0), .int x1, .int x2] sz [oX7 q v_size v_at v_begin v_token v_told v_undos v_changed v_felt v_wents v_wish v_trace, rA (q 8) cI 64 v_town, rA (q 9) cI 4 v_now]) (cPi D (tyz cI cZ cT) (fun (r : Int32) (u : Int64) => (r, u) = res) (fun u => [oX7 q v_size v_at v_begin v_token v_told v_undos v_changed v_felt v_wents v_wish u, rA (q 8) cI 64 v_town, rA (q 9) cI 4 v_now]) [oX7 q v_size v_at v_begin v_token v_told v_undos v_changed v_felt v_wents v_wish v_trace, rA (q 8) cI 64 v_town, rA (q 9) cI 4 v_now] sz) 0 0 (va_A [oX7 q v_size v_at v_begin v_token v_told v_undos v_changed v_felt v_wents v_wish v_trace, rA (q 8) cI 64 v_town, rA (q 9) cI 4 v_now] sz) := by
  refine vx_meth_i (by decide) rfl (Nat.le_of_ble_eq_true rfl) ?_
  intro p e s m args below meth c A Q hx hb hml hown hts hK hP hD hA hS hret ls hl
  have hown : s.vm.findClass RX7 = some m.cls := hown
  have hl : lv_has ls 3 [(0, .ref (q 0)), (1, .int x1), (2, .int x2)] := hl
  have hFx : CallFix p m c cX7_rate 3 s args wsX7_rate RX7 := ⟨hx, hb, hml, hown, hts⟩
  have lk282 := hts (.fieldLink RX7 282 "FogGuidesModel" "trace" "J") (by decide +kernel)
  have iw7 : ∀ w ∈ u_ws RX7 TX7 34, w ∈ wsX7_rate := by decide +kernel
  have lk19 := hts (.fieldLink RX7 19 "FogGuidesModel" "now" "[I") (by decide +kernel)
  have hJ84 : ∀ (v_trace : Int64) (x1 : Int32) (x2 : Int32) (z1 : Int64) (z2 : Int64) (H : Heap) (locs : List Loc) (ls : Array Slot), f_X7_rate_J84 fu v_town v_now v_trace x1 x2 z1 z2 = some res → va_P D vwCl [oX7 q v_size v_at v_begin v_token v_told v_undos v_changed v_felt v_wents v_wish v_trace, rA (q 8) cI 64 v_town, rA (q 9) cI 4 v_now] H → va_D A [oX7 q v_size v_at v_begin v_token v_told v_undos v_changed v_felt v_wents v_wish v_trace, rA (q 8) cI 64 v_town, rA (q 9) cI 4 v_now] → va_S A s.heap H locs → lv_has ls 3 [(0, .ref (q 0)), (1, .int x1), (2, .int x2)] → W p l e rm_X7_rate s m args below meth c H locs 0 0 Q (F0 m 84 ls [.long z2, .long z1, .ref (q 0)]) := by
    intro v_trace x1 x2 z1 z2 H locs ls h hP hD hS hl
    unfold f_X7_rate_J84 at h
    refine lv_ladd hx hb dX7_rate_84 ?_
    refine va_put (C := RX7) (T := TX7) (N := 34) (v := .long (z1 + z2)) (ty := .long) hx hb hts iw7 tyX7 tyX7_ok nmX7 hown hK hP hD hS 0 rfl rfl 32 (Nat.le_of_ble_eq_true rfl) lk282 (fun _ h9 => h9) rfl (by decide +kernel) rfl rfl (Nat.le_of_ble_eq_true rfl) dX7_rate_85 (fun H locs hP hD hS => ?_)
    have hP : va_P D vwCl [oX7 q v_size v_at v_begin v_token v_told v_undos v_changed v_felt v_wents v_wish (z1 + z2), rA (q 8) cI 64 v_town, rA (q 9) cI 4 v_now] H := hP
    have hD : va_D A [oX7 q v_size v_at v_begin v_token v_told v_undos v_changed v_felt v_wents v_wish (z1 + z2), rA (q 8) cI 64 v_town, rA (q 9) cI 4 v_now] := hD
    refine lv_iload_n hx hb dX7_rate_88 rfl (lv_at hl 1 rfl) ?_
    by_cases c1 : x1 = (0 : Int32)
    · refine lv_tableIn (off := 35) (tgt := 124) hx hb dX7_rate_89 (by rw [c1]; decide) (by rw [c1]; decide) (by rw [c1]; decide) (by decide) ?_
      have h := (if_pos c1).symm.trans h
      refine lv_aload_n hx hb dX7_rate_124 rfl (lv_at hl 0 rfl) ?_
      refine lv_iload_n hx hb dX7_rate_125 rfl (lv_at hl 2 rfl) ?_
      obtain ⟨r2, hr2, h⟩ := xk_some h
      refine vx_VJ (As := [.int x2]) (rest := []) hFx (k_X7_fee l D cI cZ cT q H.size v_size v_at v_begin v_token v_told v_undos v_changed v_felt v_wents v_wish (z1 + z2) v_town x2 r2 hr2) (cwV 1 hts gX7_rate_X7_fee rfl rfl rfl (by decide +kernel) ⟨Nat.le_of_ble_eq_true rfl, Nat.le_of_ble_eq_true rfl⟩) hK hP hD hS hA [0, 1] rfl rfl 7 0 rfl rfl rfl hl.1 rfl (Nat.le_of_ble_eq_true rfl) dX7_rate_126 ⟨Nat.zero_le _, Nat.zero_le _⟩ (fun H locs hP hS => ?_)
      exact hret r2 (z1 + z2) H locs _ ls (Option.some.inj h) hP hD hS dX7_rate_129
    have h := (if_neg c1).symm.trans h
    by_cases c3 : x1 = (1 : Int32)
    · refine lv_tableIn (off := 41) (tgt := 130) hx hb dX7_rate_89 (by rw [c3]; decide) (by rw [c3]; decide) (by rw [c3]; decide) (by decide) ?_
      have h := (if_pos c3).symm.trans h
      refine lv_aload_n hx hb dX7_rate_130 rfl (lv_at hl 0 rfl) ?_
      refine lv_iload_n hx hb dX7_rate_131 rfl (lv_at hl 2 rfl) ?_
      obtain ⟨r4, hr4, h⟩ := xk_some h
      refine vx_VJ (As := [.int x2]) (rest := []) hFx (k_X7_fee l D cI cZ cT q H.size v_size v_at v_begin v_token v_told v_undos v_changed v_felt v_wents v_wish (z1 + z2) v_town x2 r4 hr4) (cwV 1 hts gX7_rate_X7_fee rfl rfl rfl (by decide +kernel) ⟨Nat.le_of_ble_eq_true rfl, Nat.le_of_ble_eq_true rfl⟩) hK hP hD hS hA [0, 1] rfl rfl 7 0 rfl rfl rfl hl.1 rfl (Nat.le_of_ble_eq_true rfl) dX7_rate_132 ⟨Nat.zero_le _, Nat.zero_le _⟩ (fun H locs hP hS => ?_)
      refine lv_aload_n hx hb dX7_rate_135 rfl (lv_at hl 0 rfl) ?_
      refine lv_iload_n hx hb dX7_rate_136 rfl (lv_at hl 2 rfl) ?_
      obtain ⟨r5, hr5, h⟩ := xk_some h
      refine vx_VJ (As := [.int x2]) (rest := [.int r4]) hFx (k_X7_pace l D cI cZ cT q H.size v_size v_at v_begin v_token v_told v_undos v_changed v_felt v_wents v_wish (z1 + z2) v_town x2 r5 hr5) (cwV 1 hts gX7_rate_X7_pace rfl rfl rfl (by decide +kernel) ⟨Nat.le_of_ble_eq_true rfl, Nat.le_of_ble_eq_true rfl⟩) hK hP hD hS hA [0, 1] rfl rfl 7 0 rfl rfl rfl hl.1 rfl (Nat.le_of_ble_eq_true rfl) dX7_rate_137 ⟨Nat.zero_le _, Nat.zero_le _⟩ (fun H locs hP hS => ?_)
      refine lv_iadd hx hb dX7_rate_140 ?_
      exact hret (r4 + r5) (z1 + z2) H locs _ ls (Option.some.inj h) hP hD hS dX7_rate_141
    have h := (if_neg c3).symm.trans h
    by_cases c6 : x1 = (2 : Int32)
    · refine lv_tableIn (off := 53) (tgt := 142) hx hb dX7_rate_89 (by rw [c6]; decide) (by rw [c6]; decide) (by rw [c6]; decide) (by decide) ?_
      have h := (if_pos c6).symm.trans h
      refine lv_aload_n hx hb dX7_rate_142 rfl (lv_at hl 0 rfl) ?_
      refine lv_iload_n hx hb dX7_rate_143 rfl (lv_at hl 2 rfl) ?_
      obtain ⟨r7, hr7, h⟩ := xk_some h
      refine vx_VJ (As := [.int x2]) (rest := []) hFx (k_X7_fee l D cI cZ cT q H.size v_size v_at v_begin v_token v_told v_undos v_changed v_felt v_wents v_wish (z1 + z2) v_town x2 r7 hr7) (cwV 1 hts gX7_rate_X7_fee rfl rfl rfl (by decide +kernel) ⟨Nat.le_of_ble_eq_true rfl, Nat.le_of_ble_eq_true rfl⟩) hK hP hD hS hA [0, 1] rfl rfl 7 0 rfl rfl rfl hl.1 rfl (Nat.le_of_ble_eq_true rfl) dX7_rate_144 ⟨Nat.zero_le _, Nat.zero_le _⟩ (fun H locs hP hS => ?_)
      refine lv_aload_n hx hb dX7_rate_147 rfl (lv_at hl 0 rfl) ?_
      refine lv_iload_n hx hb dX7_rate_148 rfl (lv_at hl 2 rfl) ?_
      obtain ⟨r8, hr8, h⟩ := xk_some h
      refine vx_VJ (As := [.int x2]) (rest := [.int r7]) hFx (k_X7_known l D cI cZ cT q H.size v_size v_at v_begin v_token v_told v_undos v_changed v_felt v_wents v_wish (z1 + z2) v_town x2 r8 hr8) (cwV 1 hts gX7_rate_X7_known rfl rfl rfl (by decide +kernel) ⟨Nat.le_of_ble_eq_true rfl, Nat.le_of_ble_eq_true rfl⟩) hK hP hD hS hA [0, 1] rfl rfl 7 0 rfl rfl rfl hl.1 rfl (Nat.le_of_ble_eq_true rfl) dX7_rate_149 ⟨Nat.zero_le _, Nat.zero_le _⟩ (fun H locs hP hS => ?_)
      obtain ⟨r9, hr9, h⟩ := xk_some h
      refine vx_SJ (As := [.int r8]) (rest := [.int r7]) hFx (k_X7_many l D cI cZ cT H.size r8 r9 fu hr9) (vx_cwS 1 hts gX7_rate_X7_many rfl rfl rfl (by decide +kernel) ⟨Nat.le_of_ble_eq_true rfl, Nat.le_of_ble_eq_true rfl⟩) hK hP hD hS hA rfl hl.1 rfl (Nat.le_of_ble_eq_true rfl) dX7_rate_152 ⟨Nat.zero_le _, Nat.zero_le _⟩ (fun H locs hP hS => ?_)
      refine lv_isub hx hb dX7_rate_155 ?_
      exact hret (r7 - r9) (z1 + z2) H locs _ ls (Option.some.inj h) hP hD hS dX7_rate_156
    have h := (if_neg c6).symm.trans h
    by_cases c10 : x1 = (3 : Int32)
    · refine lv_tableIn (off := 68) (tgt := 157) hx hb dX7_rate_89 (by rw [c10]; decide) (by rw [c10]; decide) (by rw [c10]; decide) (by decide) ?_
      have h := (if_pos c10).symm.trans h
      refine lv_iconst (v := 2) hx hb dX7_rate_157 (by decide) ?_
      refine lv_aload_n hx hb dX7_rate_158 rfl (lv_at hl 0 rfl) ?_
      refine lv_iload_n hx hb dX7_rate_159 rfl (lv_at hl 2 rfl) ?_
      obtain ⟨r11, hr11, h⟩ := xk_some h
      refine vx_VJ (As := [.int x2]) (rest := [.int (2 : Int32)]) hFx (k_X7_fee l D cI cZ cT q H.size v_size v_at v_begin v_token v_told v_undos v_changed v_felt v_wents v_wish (z1 + z2) v_town x2 r11 hr11) (cwV 1 hts gX7_rate_X7_fee rfl rfl rfl (by decide +kernel) ⟨Nat.le_of_ble_eq_true rfl, Nat.le_of_ble_eq_true rfl⟩) hK hP hD hS hA [0, 1] rfl rfl 7 0 rfl rfl rfl hl.1 rfl (Nat.le_of_ble_eq_true rfl) dX7_rate_160 ⟨Nat.zero_le _, Nat.zero_le _⟩ (fun H locs hP hS => ?_)
      refine lv_aload_n hx hb dX7_rate_163 rfl (lv_at hl 0 rfl) ?_
      refine lv_iload_n hx hb dX7_rate_164 rfl (lv_at hl 2 rfl) ?_
      obtain ⟨r12, hr12, h⟩ := xk_some h
      refine vx_VJ (As := [.int x2]) (rest := [.int r11, .int (2 : Int32)]) hFx (k_X7_pace l D cI cZ cT q H.size v_size v_at v_begin v_token v_told v_undos v_changed v_felt v_wents v_wish (z1 + z2) v_town x2 r12 hr12) (cwV 1 hts gX7_rate_X7_pace rfl rfl rfl (by decide +kernel) ⟨Nat.le_of_ble_eq_true rfl, Nat.le_of_ble_eq_true rfl⟩) hK hP hD hS hA [0, 1] rfl rfl 7 0 rfl rfl rfl hl.1 rfl (Nat.le_of_ble_eq_true rfl) dX7_rate_165 ⟨Nat.zero_le _, Nat.zero_le _⟩ (fun H locs hP hS => ?_)
      refine lv_iadd hx hb dX7_rate_168 ?_
      refine lv_imul hx hb dX7_rate_169 ?_
      exact hret ((2 : Int32) * (r11 + r12)) (z1 + z2) H locs _ ls (Option.some.inj h) hP hD hS dX7_rate_170
    have h := (if_neg c10).symm.trans h
    by_cases c13 : x1 = (4 : Int32)
    · refine lv_tableIn (off := 82) (tgt := 171) hx hb dX7_rate_89 (by rw [c13]; decide) (by rw [c13]; decide) (by rw [c13]; decide) (by decide) ?_
      have h := (if_pos c13).symm.trans h
      refine lv_aload_n hx hb dX7_rate_171 rfl (lv_at hl 0 rfl) ?_
      refine lv_iload_n hx hb dX7_rate_172 rfl (lv_at hl 2 rfl) ?_
      obtain ⟨r14, hr14, h⟩ := xk_some h
      refine vx_VJ (As := [.int x2]) (rest := []) hFx (k_X7_fee l D cI cZ cT q H.size v_size v_at v_begin v_token v_told v_undos v_changed v_felt v_wents v_wish (z1 + z2) v_town x2 r14 hr14) (cwV 1 hts gX7_rate_X7_fee rfl rfl rfl (by decide +kernel) ⟨Nat.le_of_ble_eq_true rfl, Nat.le_of_ble_eq_true rfl⟩) hK hP hD hS hA [0, 1] rfl rfl 7 0 rfl rfl rfl hl.1 rfl (Nat.le_of_ble_eq_true rfl) dX7_rate_173 ⟨Nat.zero_le _, Nat.zero_le _⟩ (fun H locs hP hS => ?_)
      refine lv_aload_n hx hb dX7_rate_176 rfl (lv_at hl 0 rfl) ?_
      refine lv_iload_n hx hb dX7_rate_177 rfl (lv_at hl 2 rfl) ?_
      obtain ⟨r15, hr15, h⟩ := xk_some h
      refine vx_VJ (As := [.int x2]) (rest := [.int r14]) hFx (k_X7_known l D cI cZ cT q H.size v_size v_at v_begin v_token v_told v_undos v_changed v_felt v_wents v_wish (z1 + z2) v_town x2 r15 hr15) (cwV 1 hts gX7_rate_X7_known rfl rfl rfl (by decide +kernel) ⟨Nat.le_of_ble_eq_true rfl, Nat.le_of_ble_eq_true rfl⟩) hK hP hD hS hA [0, 1] rfl rfl 7 0 rfl rfl rfl hl.1 rfl (Nat.le_of_ble_eq_true rfl) dX7_rate_178 ⟨Nat.zero_le _, Nat.zero_le _⟩ (fun H locs hP hS => ?_)
      obtain ⟨r16, hr16, h⟩ := xk_some h
      refine vx_SJ (As := [.int r15]) (rest := [.int r14]) hFx (k_X7_many l D cI cZ cT H.size r15 r16 fu hr16) (vx_cwS 1 hts gX7_rate_X7_many rfl rfl rfl (by decide +kernel) ⟨Nat.le_of_ble_eq_true rfl, Nat.le_of_ble_eq_true rfl⟩) hK hP hD hS hA rfl hl.1 rfl (Nat.le_of_ble_eq_true rfl) dX7_rate_181 ⟨Nat.zero_le _, Nat.zero_le _⟩ (fun H locs hP hS => ?_)
      refine lv_isub hx hb dX7_rate_184 ?_
      refine lv_aload_n hx hb dX7_rate_185 rfl (lv_at hl 0 rfl) ?_
      refine lv_iload_n hx hb dX7_rate_186 rfl (lv_at hl 2 rfl) ?_
      obtain ⟨r17, hr17, h⟩ := xk_some h
      refine vx_VJ (As := [.int x2]) (rest := [.int (r14 - r16)]) hFx (k_X7_his l D cI cZ cT q H.size v_size v_at v_begin v_token v_told v_undos v_changed v_felt v_wents v_wish (z1 + z2) v_town x2 r17 hr17) (cwV 1 hts gX7_rate_X7_his rfl rfl rfl (by decide +kernel) ⟨Nat.le_of_ble_eq_true rfl, Nat.le_of_ble_eq_true rfl⟩) hK hP hD hS hA [0, 1] rfl rfl 7 0 rfl rfl rfl hl.1 rfl (Nat.le_of_ble_eq_true rfl) dX7_rate_187 ⟨Nat.zero_le _, Nat.zero_le _⟩ (fun H locs hP hS => ?_)
      obtain ⟨r18, hr18, h⟩ := xk_some h
      refine vx_SJ (As := [.int r17]) (rest := [.int (r14 - r16)]) hFx (k_X7_many l D cI cZ cT H.size r17 r18 fu hr18) (vx_cwS 1 hts gX7_rate_X7_many rfl rfl rfl (by decide +kernel) ⟨Nat.le_of_ble_eq_true rfl, Nat.le_of_ble_eq_true rfl⟩) hK hP hD hS hA rfl hl.1 rfl (Nat.le_of_ble_eq_true rfl) dX7_rate_190 ⟨Nat.zero_le _, Nat.zero_le _⟩ (fun H locs hP hS => ?_)
      refine lv_iadd hx hb dX7_rate_193 ?_
      exact hret ((r14 - r16) + r18) (z1 + z2) H locs _ ls (Option.some.inj h) hP hD hS dX7_rate_194
    have h := (if_neg c13).symm.trans h
    refine lv_tableOut (tgt := 195) hx hb dX7_rate_89 (sw_out (lo := 0) (hi := 4) (by decide) (by decide) (fun j h1 h2 => ?_)) (by decide) ?_
    · rcases (show j = 0 ∨ j = 1 ∨ j = 2 ∨ j = 3 ∨ j = 4 by omega) with rfl | rfl | rfl | rfl | rfl
      · exact c1
      · exact c3
      · exact c6
      · exact c10
      · exact c13
    · refine lv_aload_n hx hb dX7_rate_195 rfl (lv_at hl 0 rfl) ?_
      refine lv_iload_n hx hb dX7_rate_196 rfl (lv_at hl 2 rfl) ?_
      obtain ⟨r19, hr19, h⟩ := xk_some h
      refine vx_VJ (As := [.int x2]) (rest := []) hFx (k_X7_fee l D cI cZ cT q H.size v_size v_at v_begin v_token v_told v_undos v_changed v_felt v_wents v_wish (z1 + z2) v_town x2 r19 hr19) (cwV 1 hts gX7_rate_X7_fee rfl rfl rfl (by decide +kernel) ⟨Nat.le_of_ble_eq_true rfl, Nat.le_of_ble_eq_true rfl⟩) hK hP hD hS hA [0, 1] rfl rfl 7 0 rfl rfl rfl hl.1 rfl (Nat.le_of_ble_eq_true rfl) dX7_rate_197 ⟨Nat.zero_le _, Nat.zero_le _⟩ (fun H locs hP hS => ?_)
      refine lv_aload_n hx hb dX7_rate_200 rfl (lv_at hl 0 rfl) ?_
      refine va_get (C := RX7) (T := TX7) (N := 34) (v := .ref (q 9)) hx hb hts iw7 hown hK hP 0 rfl rfl 8 (Nat.le_of_ble_eq_true rfl) lk19 (fun _ h9 => h9) rfl dX7_rate_201 ?_
      refine lv_iconst (v := 1) hx hb dX7_rate_204 (by decide) ?_
      obtain ⟨hi20, h⟩ := xb_some h
      refine va_iald hx hb hK hP 2 0 rfl rfl hi20 dX7_rate_205 ?_
      refine lv_iadd hx hb dX7_rate_206 ?_
      exact hret (r19 + (v_now (1 : Int32).toNatClampNeg)) (z1 + z2) H locs _ ls (Option.some.inj h) hP hD hS dX7_rate_207
  have h := hf
  unfold f_X7_rate at h
  obtain ⟨H, eH⟩ : ∃ H, H = s.heap := ⟨_, rfl⟩
  rw [← eH] at hP ⊢
  obtain ⟨locs, el⟩ : ∃ locs : List Loc, locs = [] := ⟨_, rfl⟩
  rw [← el] at hS ⊢
  have hS : va_S A s.heap H locs := by rw [eH]; exact hS
  refine lv_iload_n hx hb dX7_rate_0 rfl (lv_at hl 1 rfl) ?_
  refine lv_i2l hx hb dX7_rate_1 rfl ?_
  refine lv_lconst (v := 0) hx hb dX7_rate_2 (by decide) ?_
  refine lv_ldc2 (v := (5)) hx hb hown (hts (.constantLong RX7 230 (5)) (by decide +kernel)) dX7_rate_3 ?_
  obtain ⟨r21, hr21, h⟩ := xk_some h
  refine vx_SJ (As := [.long x1.toInt64, .long (0 : Int64), .long (5 : Int64)]) (rest := []) hFx (k_X7_in l D cI cZ cT H.size x1.toInt64 (0 : Int64) (5 : Int64) r21 hr21) (vx_cwS 3 hts gX7_rate_X7_in rfl rfl rfl (by decide +kernel) ⟨Nat.le_of_ble_eq_true rfl, Nat.le_of_ble_eq_true rfl⟩) hK hP hD hS hA rfl hl.1 rfl (Nat.le_of_ble_eq_true rfl) dX7_rate_6 ⟨Nat.zero_le _, Nat.zero_le _⟩ (fun H locs hP hS => ?_)
  refine lv_if_eq (tgt := 20) hx hb dX7_rate_9 (by decide) (fun c22 => ?_) (fun c22 => ?_)
  · have h := (if_pos c22).symm.trans h
    refine lv_ldcw (v := (-1000000)) hx hb hown (hts (.constant RX7 281 (-1000000)) (by decide +kernel)) dX7_rate_20 ?_
    exact hret (-1000000 : Int32) v_trace H locs _ ls (Option.some.inj h) hP hD hS dX7_rate_23
  · have h := (if_neg c22).symm.trans h
    refine lv_aload_n hx hb dX7_rate_12 rfl (lv_at hl 0 rfl) ?_
    refine lv_iload_n hx hb dX7_rate_13 rfl (lv_at hl 2 rfl) ?_
    obtain ⟨r23, hr23, h⟩ := xk_some h
    refine vx_VJ (As := [.int x2]) (rest := []) hFx (k_X7_isGuide l D cI cZ cT q H.size v_size v_at v_begin v_token v_told v_undos v_changed v_felt v_wents v_wish v_trace v_town x2 r23 hr23) (cwV 1 hts gX7_rate_X7_isGuide rfl rfl rfl (by decide +kernel) ⟨Nat.le_of_ble_eq_true rfl, Nat.le_of_ble_eq_true rfl⟩) hK hP hD hS hA [0, 1] rfl rfl 7 0 rfl rfl rfl hl.1 rfl (Nat.le_of_ble_eq_true rfl) dX7_rate_14 ⟨Nat.zero_le _, Nat.zero_le _⟩ (fun H locs hP hS => ?_)
    refine lv_if_ne (tgt := 24) hx hb dX7_rate_17 (by decide) (fun c24 => ?_) (fun c24 => ?_)
    · have h := (if_neg c24).symm.trans h
      refine lv_aload_n hx hb dX7_rate_24 rfl (lv_at hl 0 rfl) ?_
      refine lv_dup hx hb dX7_rate_25 rfl ?_
      refine va_get (C := RX7) (T := TX7) (N := 34) (v := .long v_trace) hx hb hts iw7 hown hK hP 0 rfl rfl 32 (Nat.le_of_ble_eq_true rfl) lk282 (fun _ h9 => h9) rfl dX7_rate_26 ?_
      refine lv_iload_n hx hb dX7_rate_29 rfl (lv_at hl 1 rfl) ?_
      refine lv_if_ne (tgt := 37) hx hb dX7_rate_30 (by decide) (fun c25 => ?_) (fun c25 => ?_)
      · have h := (if_neg c25).symm.trans h
        refine lv_iload_n hx hb dX7_rate_37 rfl (lv_at hl 1 rfl) ?_
        refine lv_iconst (v := 1) hx hb dX7_rate_38 (by decide) ?_
        refine lv_icmp_ne (tgt := 48) hx hb dX7_rate_39 (by decide) (fun c26 => ?_) (fun c26 => ?_)
        · have h := (if_neg c26).symm.trans h
          refine lv_iload_n hx hb dX7_rate_48 rfl (lv_at hl 1 rfl) ?_
          refine lv_iconst (v := 2) hx hb dX7_rate_49 (by decide) ?_
          refine lv_icmp_ne (tgt := 59) hx hb dX7_rate_50 (by decide) (fun c27 => ?_) (fun c27 => ?_)
          · have h := (if_neg c27).symm.trans h
            refine lv_iload_n hx hb dX7_rate_59 rfl (lv_at hl 1 rfl) ?_
            refine lv_iconst (v := 3) hx hb dX7_rate_60 (by decide) ?_
            refine lv_icmp_ne (tgt := 70) hx hb dX7_rate_61 (by decide) (fun c28 => ?_) (fun c28 => ?_)
            · have h := (if_neg c28).symm.trans h
              refine lv_iload_n hx hb dX7_rate_70 rfl (lv_at hl 1 rfl) ?_
              refine lv_iconst (v := 4) hx hb dX7_rate_71 (by decide) ?_
              refine lv_icmp_ne (tgt := 81) hx hb dX7_rate_72 (by decide) (fun c29 => ?_) (fun c29 => ?_)
              · have h := (if_neg c29).symm.trans h
                refine lv_ldc2 (v := (100001)) hx hb hown (hts (.constantLong RX7 294 (100001)) (by decide +kernel)) dX7_rate_81 ?_
                exact hJ84 v_trace x1 x2 v_trace (100001 : Int64) H locs ls h hP hD hS (lv_sub hl [0, 1, 2] rfl)
              · have h := (if_pos c29).symm.trans h
                refine lv_ldc2 (v := (10101)) hx hb hown (hts (.constantLong RX7 292 (10101)) (by decide +kernel)) dX7_rate_75 ?_
                refine lv_goto (tgt := 84) hx hb dX7_rate_78 (by decide) ?_
                exact hJ84 v_trace x1 x2 v_trace (10101 : Int64) H locs ls h hP hD hS (lv_sub hl [0, 1, 2] rfl)
            · have h := (if_pos c28).symm.trans h
              refine lv_ldc2 (v := (1011)) hx hb hown (hts (.constantLong RX7 290 (1011)) (by decide +kernel)) dX7_rate_64 ?_
              refine lv_goto (tgt := 84) hx hb dX7_rate_67 (by decide) ?_
              exact hJ84 v_trace x1 x2 v_trace (1011 : Int64) H locs ls h hP hD hS (lv_sub hl [0, 1, 2] rfl)
          · have h := (if_pos c27).symm.trans h
            refine lv_ldc2 (v := (101)) hx hb hown (hts (.constantLong RX7 288 (101)) (by decide +kernel)) dX7_rate_53 ?_
            refine lv_goto (tgt := 84) hx hb dX7_rate_56 (by decide) ?_
            exact hJ84 v_trace x1 x2 v_trace (101 : Int64) H locs ls h hP hD hS (lv_sub hl [0, 1, 2] rfl)
        · have h := (if_pos c26).symm.trans h
          refine lv_ldc2 (v := (11)) hx hb hown (hts (.constantLong RX7 286 (11)) (by decide +kernel)) dX7_rate_42 ?_
          refine lv_goto (tgt := 84) hx hb dX7_rate_45 (by decide) ?_
          exact hJ84 v_trace x1 x2 v_trace (11 : Int64) H locs ls h hP hD hS (lv_sub hl [0, 1, 2] rfl)
      · have h := (if_pos c25).symm.trans h
        refine lv_lconst (v := 1) hx hb dX7_rate_33 (by decide) ?_
        refine lv_goto (tgt := 84) hx hb dX7_rate_34 (by decide) ?_
        exact hJ84 v_trace x1 x2 v_trace (1 : Int64) H locs ls h hP hD hS (lv_sub hl [0, 1, 2] rfl)
    · have h := (if_pos c24).symm.trans h
      refine lv_ldcw (v := (-1000000)) hx hb hown (hts (.constant RX7 281 (-1000000)) (by decide +kernel)) dX7_rate_20 ?_
      exact hret (-1000000 : Int32) v_trace H locs _ ls (Option.some.inj h) hP hD hS dX7_rate_23
abbrev rm_X7_trace : Room := { frames := 0, cells := 0, slots := 0, locals := 0 }
set_option maxHeartbeats 4000000 in
set_option maxRecDepth 100000 in
theorem k_X7_trace (l : Launch) (D : va_G) (cI cZ cT : ClassId) (q : Nat → Nat) (sz : Nat) (v_size : Int32) (v_at : Int32) (v_begin : Int32) (v_token : Int32) (v_told : Int32) (v_undos : Int32) (v_changed : Int32) (v_felt : Int32) (v_wents : Int32) (v_wish : Int32) (v_trace : Int64) (res : R_X7_trace) (hf : f_X7_trace v_trace = some res) : Met l yX7_trace wsX7_trace rm_X7_trace (cPre D (tyz cI cZ cT) [.ref (q 0)] sz [oX7 q v_size v_at v_begin v_token v_told v_undos v_changed v_felt v_wents v_wish v_trace]) (cPl D (tyz cI cZ cT) (fun (r : Int64) (_ : Unit) => r = res) (fun _ => [oX7 q v_size v_at v_begin v_token v_told v_undos v_changed v_felt v_wents v_wish v_trace]) [oX7 q v_size v_at v_begin v_token v_told v_undos v_changed v_felt v_wents v_wish v_trace] sz) 0 0 (va_A [oX7 q v_size v_at v_begin v_token v_told v_undos v_changed v_felt v_wents v_wish v_trace] sz) := by
  refine vx_meth_l (by decide) rfl (Nat.le_of_ble_eq_true rfl) ?_
  intro p e s m args below meth c A Q hx hb hml hown hts hK hP hD hA hS hret ls hl
  have hown : s.vm.findClass RX7 = some m.cls := hown
  have hl : lv_has ls 1 [(0, .ref (q 0))] := hl
  have hFx : CallFix p m c cX7_trace 1 s args wsX7_trace RX7 := ⟨hx, hb, hml, hown, hts⟩
  have lk282 := hts (.fieldLink RX7 282 "FogGuidesModel" "trace" "J") (by decide +kernel)
  have iw7 : ∀ w ∈ u_ws RX7 TX7 34, w ∈ wsX7_trace := by decide +kernel
  have h := hf
  unfold f_X7_trace at h
  obtain ⟨H, eH⟩ : ∃ H, H = s.heap := ⟨_, rfl⟩
  rw [← eH] at hP ⊢
  obtain ⟨locs, el⟩ : ∃ locs : List Loc, locs = [] := ⟨_, rfl⟩
  rw [← el] at hS ⊢
  have hS : va_S A s.heap H locs := by rw [eH]; exact hS
  refine lv_aload_n hx hb dX7_trace_0 rfl (lv_at hl 0 rfl) ?_
  refine va_get (C := RX7) (T := TX7) (N := 34) (v := .long v_trace) hx hb hts iw7 hown hK hP 0 rfl rfl 32 (Nat.le_of_ble_eq_true rfl) lk282 (fun _ h9 => h9) rfl dX7_trace_1 ?_
  exact hret v_trace () H locs _ ls (Option.some.inj h) hP hD hS dX7_trace_4
abbrev rm_X7_keep : Room := { frames := 1, cells := 0, slots := 0, locals := 25 }
set_option maxHeartbeats 4000000 in
set_option maxRecDepth 100000 in
theorem k_X7_keep (l : Launch) (D : va_G) (cI cZ cT : ClassId) (q : Nat → Nat) (sz : Nat) (v_size : Int32) (v_at : Int32) (v_begin : Int32) (v_token : Int32) (v_told : Int32) (v_undos : Int32) (v_changed : Int32) (v_felt : Int32) (v_wents : Int32) (v_wish : Int32) (v_trace : Int64) (v_now : Nat → Int32) (v_undone : Nat → Int32) (v_kept : Nat → Int32) (x1 : Int32) (res : R_X7_keep) (fu : Nat) (hf : f_X7_keep fu v_now v_undone v_undos v_kept x1 = some res) : Met l yX7_keep wsX7_keep rm_X7_keep (cPre D (tyz cI cZ cT) [.ref (q 0), .int x1] sz [oX7 q v_size v_at v_begin v_token v_told v_undos v_changed v_felt v_wents v_wish v_trace, rA (q 9) cI 4 v_now, rA (q 10) cI 40 v_undone, rA (q 34) cI 92 v_kept]) (cPi D (tyz cI cZ cT) (fun (r : Int32) (u : (Nat → Int32)) => (r, u) = res) (fun u => [oX7 q v_size v_at v_begin v_token v_told v_undos v_changed v_felt v_wents v_wish v_trace, rA (q 9) cI 4 v_now, rA (q 10) cI 40 v_undone, rA (q 34) cI 92 u]) [oX7 q v_size v_at v_begin v_token v_told v_undos v_changed v_felt v_wents v_wish v_trace, rA (q 9) cI 4 v_now, rA (q 10) cI 40 v_undone, rA (q 34) cI 92 v_kept] sz) 0 0 (va_A [oX7 q v_size v_at v_begin v_token v_told v_undos v_changed v_felt v_wents v_wish v_trace, rA (q 9) cI 4 v_now, rA (q 10) cI 40 v_undone, rA (q 34) cI 92 v_kept] sz) := by
  refine vx_meth_i (by decide) rfl (Nat.le_of_ble_eq_true rfl) ?_
  intro p e s m args below meth c A Q hx hb hml hown hts hK hP hD hA hS hret ls hl
  have hown : s.vm.findClass RX7 = some m.cls := hown
  have hl : lv_has ls 4 [(0, .ref (q 0)), (1, .int x1)] := hl
  have hFx : CallFix p m c cX7_keep 4 s args wsX7_keep RX7 := ⟨hx, hb, hml, hown, hts⟩
  have lk19 := hts (.fieldLink RX7 19 "FogGuidesModel" "now" "[I") (by decide +kernel)
  have iw7 : ∀ w ∈ u_ws RX7 TX7 34, w ∈ wsX7_keep := by decide +kernel
  have lk76 := hts (.fieldLink RX7 76 "FogGuidesModel" "kept" "[I") (by decide +kernel)
  have lk22 := hts (.fieldLink RX7 22 "FogGuidesModel" "undone" "[I") (by decide +kernel)
  have lk166 := hts (.fieldLink RX7 166 "FogGuidesModel" "undos" "I") (by decide +kernel)
  have hL67 : ∀ (n67 : Nat), ∀ (v_kept : (Nat → Int32)) (x2 : Int32) (x3 : Int32) (H : Heap) (locs : List Loc) (ls : Array Slot), f_X7_keep_L67 fu n67 v_now v_undone v_undos v_kept x2 x3 = some res → va_P D vwCl [oX7 q v_size v_at v_begin v_token v_told v_undos v_changed v_felt v_wents v_wish v_trace, rA (q 9) cI 4 v_now, rA (q 10) cI 40 v_undone, rA (q 34) cI 92 v_kept] H → va_D A [oX7 q v_size v_at v_begin v_token v_told v_undos v_changed v_felt v_wents v_wish v_trace, rA (q 9) cI 4 v_now, rA (q 10) cI 40 v_undone, rA (q 34) cI 92 v_kept] → va_S A s.heap H locs → lv_has ls 4 [(0, .ref (q 0)), (2, .int x2), (3, .int x3)] → W p l e rm_X7_keep s m args below meth c H locs 0 0 Q (F0 m 67 ls []) := by
    intro n67
    induction n67 with
    | zero =>
      intro v_kept x2 x3 H locs ls h hP hD hS hl
      cases (show (none : Option R_X7_keep) = some res from h)
    | succ n67 ih67 =>
      intro v_kept x2 x3 H locs ls h hP hD hS hl
      have h : f_X7_keep_L67b fu (f_X7_keep_L67 fu n67) v_now v_undone v_undos v_kept x2 x3 = some res := h
      unfold f_X7_keep_L67b at h
      refine lv_iload_n hx hb dX7_keep_67 rfl (lv_at hl 2 rfl) ?_
      refine lv_bipush (v := 40) hx hb dX7_keep_68 (by decide) ?_
      refine lv_icmp_ge (tgt := 96) hx hb dX7_keep_70 (by decide) (fun c1 => ?_) (fun c1 => ?_)
      · have h := (if_pos c1).symm.trans h
        refine lv_aload_n hx hb dX7_keep_96 rfl (lv_at hl 0 rfl) ?_
        refine va_get (C := RX7) (T := TX7) (N := 34) (v := .ref (q 9)) hx hb hts iw7 hown hK hP 0 rfl rfl 8 (Nat.le_of_ble_eq_true rfl) lk19 (fun _ h9 => h9) rfl dX7_keep_97 ?_
        refine lv_iconst (v := 1) hx hb dX7_keep_100 (by decide) ?_
        obtain ⟨hi2, h⟩ := xb_some h
        refine va_iald hx hb hK hP 1 0 rfl rfl hi2 dX7_keep_101 ?_
        exact hret (v_now (1 : Int32).toNatClampNeg) v_kept H locs _ ls (Option.some.inj h) hP hD hS dX7_keep_102
      · have h := (if_neg c1).symm.trans h
        refine lv_aload_n hx hb dX7_keep_73 rfl (lv_at hl 0 rfl) ?_
        refine va_get (C := RX7) (T := TX7) (N := 34) (v := .ref (q 34)) hx hb hts iw7 hown hK hP 0 rfl rfl 33 (Nat.le_of_ble_eq_true rfl) lk76 (fun _ h9 => h9) rfl dX7_keep_74 ?_
        refine lv_iload_n hx hb dX7_keep_77 rfl (lv_at hl 1 rfl) ?_
        refine lv_bipush (v := 6) hx hb dX7_keep_78 (by decide) ?_
        refine lv_iadd hx hb dX7_keep_80 ?_
        refine lv_iload_n hx hb dX7_keep_81 rfl (lv_at hl 2 rfl) ?_
        refine lv_iadd hx hb dX7_keep_82 ?_
        refine lv_aload_n hx hb dX7_keep_83 rfl (lv_at hl 0 rfl) ?_
        refine va_get (C := RX7) (T := TX7) (N := 34) (v := .ref (q 10)) hx hb hts iw7 hown hK hP 0 rfl rfl 9 (Nat.le_of_ble_eq_true rfl) lk22 (fun _ h9 => h9) rfl dX7_keep_84 ?_
        refine lv_iload_n hx hb dX7_keep_87 rfl (lv_at hl 2 rfl) ?_
        obtain ⟨hi3, h⟩ := xb_some h
        refine va_iald hx hb hK hP 2 0 rfl rfl hi3 dX7_keep_88 ?_
        obtain ⟨hi4, h⟩ := xb_some h
        refine va_iast hx hb hK hP hD hS 3 0 rfl rfl hi4 dX7_keep_89 (fun H locs hP hD hS => ?_)
        have hP : va_P D vwCl [oX7 q v_size v_at v_begin v_token v_told v_undos v_changed v_felt v_wents v_wish v_trace, rA (q 9) cI 4 v_now, rA (q 10) cI 40 v_undone, rA (q 34) cI 92 (upd v_kept ((x2 + (6 : Int32)) + x3).toNatClampNeg (v_undone x3.toNatClampNeg))] H := hP
        have hD : va_D A [oX7 q v_size v_at v_begin v_token v_told v_undos v_changed v_felt v_wents v_wish v_trace, rA (q 9) cI 4 v_now, rA (q 10) cI 40 v_undone, rA (q 34) cI 92 (upd v_kept ((x2 + (6 : Int32)) + x3).toNatClampNeg (v_undone x3.toNatClampNeg))] := hD
        refine lv_iinc (v := x3 + 1) (lv' := [(3, .int (x3 + 1)), (0, .ref (q 0)), (2, .int x2)]) hx hb dX7_keep_90 hl (k := 2) rfl rfl (by decide) rfl (fun ls hl => ?_)
        refine lv_goto (tgt := 67) hx hb dX7_keep_93 (by decide) ?_
        exact ih67 (upd v_kept ((x2 + (6 : Int32)) + x3).toNatClampNeg (v_undone x3.toNatClampNeg)) x2 (x3 + 1) H locs ls h hP hD hS (lv_sub hl [1, 2, 0] rfl)
  have hL38 : ∀ (n38 : Nat), ∀ (v_kept : (Nat → Int32)) (x2 : Int32) (x3 : Int32) (H : Heap) (locs : List Loc) (ls : Array Slot), f_X7_keep_L38 fu n38 v_now v_undone v_undos v_kept x2 x3 = some res → va_P D vwCl [oX7 q v_size v_at v_begin v_token v_told v_undos v_changed v_felt v_wents v_wish v_trace, rA (q 9) cI 4 v_now, rA (q 10) cI 40 v_undone, rA (q 34) cI 92 v_kept] H → va_D A [oX7 q v_size v_at v_begin v_token v_told v_undos v_changed v_felt v_wents v_wish v_trace, rA (q 9) cI 4 v_now, rA (q 10) cI 40 v_undone, rA (q 34) cI 92 v_kept] → va_S A s.heap H locs → lv_has ls 4 [(0, .ref (q 0)), (2, .int x2), (3, .int x3)] → W p l e rm_X7_keep s m args below meth c H locs 0 0 Q (F0 m 38 ls []) := by
    intro n38
    induction n38 with
    | zero =>
      intro v_kept x2 x3 H locs ls h hP hD hS hl
      cases (show (none : Option R_X7_keep) = some res from h)
    | succ n38 ih38 =>
      intro v_kept x2 x3 H locs ls h hP hD hS hl
      have h : f_X7_keep_L38b fu (f_X7_keep_L38 fu n38) v_now v_undone v_undos v_kept x2 x3 = some res := h
      unfold f_X7_keep_L38b at h
      refine lv_iload_n hx hb dX7_keep_38 rfl (lv_at hl 2 rfl) ?_
      refine lv_iconst (v := 4) hx hb dX7_keep_39 (by decide) ?_
      refine lv_icmp_ge (tgt := 65) hx hb dX7_keep_40 (by decide) (fun c5 => ?_) (fun c5 => ?_)
      · have h := (if_pos c5).symm.trans h
        refine lv_iconst (v := 0) hx hb dX7_keep_65 (by decide) ?_
        refine lv_istore_n (lv' := [(3, .int (0 : Int32)), (0, .ref (q 0)), (2, .int x2)]) hx hb dX7_keep_66 rfl hl (by decide) rfl (fun ls hl => ?_)
        exact hL67 fu v_kept x2 (0 : Int32) H locs ls h hP hD hS (lv_sub hl [1, 2, 0] rfl)
      · have h := (if_neg c5).symm.trans h
        refine lv_aload_n hx hb dX7_keep_43 rfl (lv_at hl 0 rfl) ?_
        refine va_get (C := RX7) (T := TX7) (N := 34) (v := .ref (q 34)) hx hb hts iw7 hown hK hP 0 rfl rfl 33 (Nat.le_of_ble_eq_true rfl) lk76 (fun _ h9 => h9) rfl dX7_keep_44 ?_
        refine lv_iload_n hx hb dX7_keep_47 rfl (lv_at hl 1 rfl) ?_
        refine lv_iconst (v := 2) hx hb dX7_keep_48 (by decide) ?_
        refine lv_iadd hx hb dX7_keep_49 ?_
        refine lv_iload_n hx hb dX7_keep_50 rfl (lv_at hl 2 rfl) ?_
        refine lv_iadd hx hb dX7_keep_51 ?_
        refine lv_aload_n hx hb dX7_keep_52 rfl (lv_at hl 0 rfl) ?_
        refine va_get (C := RX7) (T := TX7) (N := 34) (v := .ref (q 9)) hx hb hts iw7 hown hK hP 0 rfl rfl 8 (Nat.le_of_ble_eq_true rfl) lk19 (fun _ h9 => h9) rfl dX7_keep_53 ?_
        refine lv_iload_n hx hb dX7_keep_56 rfl (lv_at hl 2 rfl) ?_
        obtain ⟨hi6, h⟩ := xb_some h
        refine va_iald hx hb hK hP 1 0 rfl rfl hi6 dX7_keep_57 ?_
        obtain ⟨hi7, h⟩ := xb_some h
        refine va_iast hx hb hK hP hD hS 3 0 rfl rfl hi7 dX7_keep_58 (fun H locs hP hD hS => ?_)
        have hP : va_P D vwCl [oX7 q v_size v_at v_begin v_token v_told v_undos v_changed v_felt v_wents v_wish v_trace, rA (q 9) cI 4 v_now, rA (q 10) cI 40 v_undone, rA (q 34) cI 92 (upd v_kept ((x2 + (2 : Int32)) + x3).toNatClampNeg (v_now x3.toNatClampNeg))] H := hP
        have hD : va_D A [oX7 q v_size v_at v_begin v_token v_told v_undos v_changed v_felt v_wents v_wish v_trace, rA (q 9) cI 4 v_now, rA (q 10) cI 40 v_undone, rA (q 34) cI 92 (upd v_kept ((x2 + (2 : Int32)) + x3).toNatClampNeg (v_now x3.toNatClampNeg))] := hD
        refine lv_iinc (v := x3 + 1) (lv' := [(3, .int (x3 + 1)), (0, .ref (q 0)), (2, .int x2)]) hx hb dX7_keep_59 hl (k := 2) rfl rfl (by decide) rfl (fun ls hl => ?_)
        refine lv_goto (tgt := 38) hx hb dX7_keep_62 (by decide) ?_
        exact ih38 (upd v_kept ((x2 + (2 : Int32)) + x3).toNatClampNeg (v_now x3.toNatClampNeg)) x2 (x3 + 1) H locs ls h hP hD hS (lv_sub hl [1, 2, 0] rfl)
  have h := hf
  unfold f_X7_keep at h
  obtain ⟨H, eH⟩ : ∃ H, H = s.heap := ⟨_, rfl⟩
  rw [← eH] at hP ⊢
  obtain ⟨locs, el⟩ : ∃ locs : List Loc, locs = [] := ⟨_, rfl⟩
  rw [← el] at hS ⊢
  have hS : va_S A s.heap H locs := by rw [eH]; exact hS
  refine lv_iload_n hx hb dX7_keep_0 rfl (lv_at hl 1 rfl) ?_
  refine lv_i2l hx hb dX7_keep_1 rfl ?_
  refine lv_lconst (v := 0) hx hb dX7_keep_2 (by decide) ?_
  refine lv_lconst (v := 1) hx hb dX7_keep_3 (by decide) ?_
  obtain ⟨r8, hr8, h⟩ := xk_some h
  refine vx_SJ (As := [.long x1.toInt64, .long (0 : Int64), .long (1 : Int64)]) (rest := []) hFx (k_X7_in l D cI cZ cT H.size x1.toInt64 (0 : Int64) (1 : Int64) r8 hr8) (vx_cwS 3 hts gX7_keep_X7_in rfl rfl rfl (by decide +kernel) ⟨Nat.le_of_ble_eq_true rfl, Nat.le_of_ble_eq_true rfl⟩) hK hP hD hS hA rfl hl.1 rfl (Nat.le_of_ble_eq_true rfl) dX7_keep_4 ⟨Nat.zero_le _, Nat.zero_le _⟩ (fun H locs hP hS => ?_)
  refine lv_if_ne (tgt := 12) hx hb dX7_keep_7 (by decide) (fun c9 => ?_) (fun c9 => ?_)
  · have h := (if_neg c9).symm.trans h
    refine lv_bipush (v := 46) hx hb dX7_keep_12 (by decide) ?_
    refine lv_iload_n hx hb dX7_keep_14 rfl (lv_at hl 1 rfl) ?_
    refine lv_imul hx hb dX7_keep_15 ?_
    refine lv_istore_n (lv' := [(2, .int ((46 : Int32) * x1)), (0, .ref (q 0)), (1, .int x1)]) hx hb dX7_keep_16 rfl hl (by decide) rfl (fun ls hl => ?_)
    refine lv_aload_n hx hb dX7_keep_17 rfl (lv_at hl 1 rfl) ?_
    refine va_get (C := RX7) (T := TX7) (N := 34) (v := .ref (q 34)) hx hb hts iw7 hown hK hP 0 rfl rfl 33 (Nat.le_of_ble_eq_true rfl) lk76 (fun _ h9 => h9) rfl dX7_keep_18 ?_
    refine lv_iload_n hx hb dX7_keep_21 rfl (lv_at hl 0 rfl) ?_
    refine lv_iconst (v := 1) hx hb dX7_keep_22 (by decide) ?_
    obtain ⟨hi10, h⟩ := xb_some h
    refine va_iast hx hb hK hP hD hS 3 0 rfl rfl hi10 dX7_keep_23 (fun H locs hP hD hS => ?_)
    have hP : va_P D vwCl [oX7 q v_size v_at v_begin v_token v_told v_undos v_changed v_felt v_wents v_wish v_trace, rA (q 9) cI 4 v_now, rA (q 10) cI 40 v_undone, rA (q 34) cI 92 (upd v_kept ((46 : Int32) * x1).toNatClampNeg (1 : Int32))] H := hP
    have hD : va_D A [oX7 q v_size v_at v_begin v_token v_told v_undos v_changed v_felt v_wents v_wish v_trace, rA (q 9) cI 4 v_now, rA (q 10) cI 40 v_undone, rA (q 34) cI 92 (upd v_kept ((46 : Int32) * x1).toNatClampNeg (1 : Int32))] := hD
    refine lv_aload_n hx hb dX7_keep_24 rfl (lv_at hl 1 rfl) ?_
    refine va_get (C := RX7) (T := TX7) (N := 34) (v := .ref (q 34)) hx hb hts iw7 hown hK hP 0 rfl rfl 33 (Nat.le_of_ble_eq_true rfl) lk76 (fun _ h9 => h9) rfl dX7_keep_25 ?_
    refine lv_iload_n hx hb dX7_keep_28 rfl (lv_at hl 0 rfl) ?_
    refine lv_iconst (v := 1) hx hb dX7_keep_29 (by decide) ?_
    refine lv_iadd hx hb dX7_keep_30 ?_
    refine lv_aload_n hx hb dX7_keep_31 rfl (lv_at hl 1 rfl) ?_
    refine va_get (C := RX7) (T := TX7) (N := 34) (v := .int v_undos) hx hb hts iw7 hown hK hP 0 rfl rfl 10 (Nat.le_of_ble_eq_true rfl) lk166 (fun _ h9 => h9) rfl dX7_keep_32 ?_
    obtain ⟨hi11, h⟩ := xb_some h
    refine va_iast hx hb hK hP hD hS 3 0 rfl rfl hi11 dX7_keep_35 (fun H locs hP hD hS => ?_)
    have hP : va_P D vwCl [oX7 q v_size v_at v_begin v_token v_told v_undos v_changed v_felt v_wents v_wish v_trace, rA (q 9) cI 4 v_now, rA (q 10) cI 40 v_undone, rA (q 34) cI 92 (upd (upd v_kept ((46 : Int32) * x1).toNatClampNeg (1 : Int32)) (((46 : Int32) * x1) + (1 : Int32)).toNatClampNeg v_undos)] H := hP
    have hD : va_D A [oX7 q v_size v_at v_begin v_token v_told v_undos v_changed v_felt v_wents v_wish v_trace, rA (q 9) cI 4 v_now, rA (q 10) cI 40 v_undone, rA (q 34) cI 92 (upd (upd v_kept ((46 : Int32) * x1).toNatClampNeg (1 : Int32)) (((46 : Int32) * x1) + (1 : Int32)).toNatClampNeg v_undos)] := hD
    refine lv_iconst (v := 0) hx hb dX7_keep_36 (by decide) ?_
    refine lv_istore_n (lv' := [(3, .int (0 : Int32)), (2, .int ((46 : Int32) * x1)), (0, .ref (q 0)), (1, .int x1)]) hx hb dX7_keep_37 rfl hl (by decide) rfl (fun ls hl => ?_)
    exact hL38 fu (upd (upd v_kept ((46 : Int32) * x1).toNatClampNeg (1 : Int32)) (((46 : Int32) * x1) + (1 : Int32)).toNatClampNeg v_undos) ((46 : Int32) * x1) (0 : Int32) H locs ls h hP hD hS (lv_sub hl [2, 1, 0] rfl)
  · have h := (if_pos c9).symm.trans h
    refine lv_iconst (v := (-1)) hx hb dX7_keep_10 (by decide) ?_
    exact hret (-1 : Int32) v_kept H locs _ ls (Option.some.inj h) hP hD hS dX7_keep_11
abbrev rm_X7_back : Room := { frames := 1, cells := 0, slots := 0, locals := 25 }
set_option maxHeartbeats 4000000 in
set_option maxRecDepth 100000 in
theorem k_X7_back (l : Launch) (D : va_G) (cI cZ cT : ClassId) (q : Nat → Nat) (sz : Nat) (v_size : Int32) (v_at : Int32) (v_begin : Int32) (v_token : Int32) (v_told : Int32) (v_undos : Int32) (v_changed : Int32) (v_felt : Int32) (v_wents : Int32) (v_wish : Int32) (v_trace : Int64) (v_now : Nat → Int32) (v_undone : Nat → Int32) (v_kept : Nat → Int32) (x1 : Int32) (res : R_X7_back) (fu : Nat) (hf : f_X7_back fu v_now v_undone v_undos v_kept x1 = some res) : Met l yX7_back wsX7_back rm_X7_back (cPre D (tyz cI cZ cT) [.ref (q 0), .int x1] sz [oX7 q v_size v_at v_begin v_token v_told v_undos v_changed v_felt v_wents v_wish v_trace, rA (q 9) cI 4 v_now, rA (q 10) cI 40 v_undone, rA (q 34) cI 92 v_kept]) (cPi D (tyz cI cZ cT) (fun (r : Int32) (u : (Nat → Int32) × (Nat → Int32) × Int32) => (r, u) = res) (fun u => [oX7 q v_size v_at v_begin v_token v_told u.2.2 v_changed v_felt v_wents v_wish v_trace, rA (q 9) cI 4 u.1, rA (q 10) cI 40 u.2.1, rA (q 34) cI 92 v_kept]) [oX7 q v_size v_at v_begin v_token v_told v_undos v_changed v_felt v_wents v_wish v_trace, rA (q 9) cI 4 v_now, rA (q 10) cI 40 v_undone, rA (q 34) cI 92 v_kept] sz) 0 0 (va_A [oX7 q v_size v_at v_begin v_token v_told v_undos v_changed v_felt v_wents v_wish v_trace, rA (q 9) cI 4 v_now, rA (q 10) cI 40 v_undone, rA (q 34) cI 92 v_kept] sz) := by
  refine vx_meth_i (by decide) rfl (Nat.le_of_ble_eq_true rfl) ?_
  intro p e s m args below meth c A Q hx hb hml hown hts hK hP hD hA hS hret ls hl
  have hown : s.vm.findClass RX7 = some m.cls := hown
  have hl : lv_has ls 4 [(0, .ref (q 0)), (1, .int x1)] := hl
  have hFx : CallFix p m c cX7_back 4 s args wsX7_back RX7 := ⟨hx, hb, hml, hown, hts⟩
  have lk19 := hts (.fieldLink RX7 19 "FogGuidesModel" "now" "[I") (by decide +kernel)
  have iw7 : ∀ w ∈ u_ws RX7 TX7 34, w ∈ wsX7_back := by decide +kernel
  have lk22 := hts (.fieldLink RX7 22 "FogGuidesModel" "undone" "[I") (by decide +kernel)
  have lk76 := hts (.fieldLink RX7 76 "FogGuidesModel" "kept" "[I") (by decide +kernel)
  have lk166 := hts (.fieldLink RX7 166 "FogGuidesModel" "undos" "I") (by decide +kernel)
  have hL72 : ∀ (n72 : Nat), ∀ (v_now : (Nat → Int32)) (v_undone : (Nat → Int32)) (v_undos : Int32) (x2 : Int32) (x3 : Int32) (H : Heap) (locs : List Loc) (ls : Array Slot), f_X7_back_L72 fu n72 v_now v_undone v_undos v_kept x2 x3 = some res → va_P D vwCl [oX7 q v_size v_at v_begin v_token v_told v_undos v_changed v_felt v_wents v_wish v_trace, rA (q 9) cI 4 v_now, rA (q 10) cI 40 v_undone, rA (q 34) cI 92 v_kept] H → va_D A [oX7 q v_size v_at v_begin v_token v_told v_undos v_changed v_felt v_wents v_wish v_trace, rA (q 9) cI 4 v_now, rA (q 10) cI 40 v_undone, rA (q 34) cI 92 v_kept] → va_S A s.heap H locs → lv_has ls 4 [(0, .ref (q 0)), (2, .int x2), (3, .int x3)] → W p l e rm_X7_back s m args below meth c H locs 0 0 Q (F0 m 72 ls []) := by
    intro n72
    induction n72 with
    | zero =>
      intro v_now v_undone v_undos x2 x3 H locs ls h hP hD hS hl
      cases (show (none : Option R_X7_back) = some res from h)
    | succ n72 ih72 =>
      intro v_now v_undone v_undos x2 x3 H locs ls h hP hD hS hl
      have h : f_X7_back_L72b fu (f_X7_back_L72 fu n72) v_now v_undone v_undos v_kept x2 x3 = some res := h
      unfold f_X7_back_L72b at h
      refine lv_iload_n hx hb dX7_back_72 rfl (lv_at hl 2 rfl) ?_
      refine lv_bipush (v := 40) hx hb dX7_back_73 (by decide) ?_
      refine lv_icmp_ge (tgt := 101) hx hb dX7_back_75 (by decide) (fun c1 => ?_) (fun c1 => ?_)
      · have h := (if_pos c1).symm.trans h
        refine lv_aload_n hx hb dX7_back_101 rfl (lv_at hl 0 rfl) ?_
        refine va_get (C := RX7) (T := TX7) (N := 34) (v := .ref (q 9)) hx hb hts iw7 hown hK hP 0 rfl rfl 8 (Nat.le_of_ble_eq_true rfl) lk19 (fun _ h9 => h9) rfl dX7_back_102 ?_
        refine lv_iconst (v := 1) hx hb dX7_back_105 (by decide) ?_
        obtain ⟨hi2, h⟩ := xb_some h
        refine va_iald hx hb hK hP 1 0 rfl rfl hi2 dX7_back_106 ?_
        exact hret (v_now (1 : Int32).toNatClampNeg) (v_now, v_undone, v_undos) H locs _ ls (Option.some.inj h) hP hD hS dX7_back_107
      · have h := (if_neg c1).symm.trans h
        refine lv_aload_n hx hb dX7_back_78 rfl (lv_at hl 0 rfl) ?_
        refine va_get (C := RX7) (T := TX7) (N := 34) (v := .ref (q 10)) hx hb hts iw7 hown hK hP 0 rfl rfl 9 (Nat.le_of_ble_eq_true rfl) lk22 (fun _ h9 => h9) rfl dX7_back_79 ?_
        refine lv_iload_n hx hb dX7_back_82 rfl (lv_at hl 2 rfl) ?_
        refine lv_aload_n hx hb dX7_back_83 rfl (lv_at hl 0 rfl) ?_
        refine va_get (C := RX7) (T := TX7) (N := 34) (v := .ref (q 34)) hx hb hts iw7 hown hK hP 0 rfl rfl 33 (Nat.le_of_ble_eq_true rfl) lk76 (fun _ h9 => h9) rfl dX7_back_84 ?_
        refine lv_iload_n hx hb dX7_back_87 rfl (lv_at hl 1 rfl) ?_
        refine lv_bipush (v := 6) hx hb dX7_back_88 (by decide) ?_
        refine lv_iadd hx hb dX7_back_90 ?_
        refine lv_iload_n hx hb dX7_back_91 rfl (lv_at hl 2 rfl) ?_
        refine lv_iadd hx hb dX7_back_92 ?_
        obtain ⟨hi3, h⟩ := xb_some h
        refine va_iald hx hb hK hP 3 0 rfl rfl hi3 dX7_back_93 ?_
        obtain ⟨hi4, h⟩ := xb_some h
        refine va_iast hx hb hK hP hD hS 2 0 rfl rfl hi4 dX7_back_94 (fun H locs hP hD hS => ?_)
        have hP : va_P D vwCl [oX7 q v_size v_at v_begin v_token v_told v_undos v_changed v_felt v_wents v_wish v_trace, rA (q 9) cI 4 v_now, rA (q 10) cI 40 (upd v_undone x3.toNatClampNeg (v_kept ((x2 + (6 : Int32)) + x3).toNatClampNeg)), rA (q 34) cI 92 v_kept] H := hP
        have hD : va_D A [oX7 q v_size v_at v_begin v_token v_told v_undos v_changed v_felt v_wents v_wish v_trace, rA (q 9) cI 4 v_now, rA (q 10) cI 40 (upd v_undone x3.toNatClampNeg (v_kept ((x2 + (6 : Int32)) + x3).toNatClampNeg)), rA (q 34) cI 92 v_kept] := hD
        refine lv_iinc (v := x3 + 1) (lv' := [(3, .int (x3 + 1)), (0, .ref (q 0)), (2, .int x2)]) hx hb dX7_back_95 hl (k := 2) rfl rfl (by decide) rfl (fun ls hl => ?_)
        refine lv_goto (tgt := 72) hx hb dX7_back_98 (by decide) ?_
        exact ih72 v_now (upd v_undone x3.toNatClampNeg (v_kept ((x2 + (6 : Int32)) + x3).toNatClampNeg)) v_undos x2 (x3 + 1) H locs ls h hP hD hS (lv_sub hl [1, 2, 0] rfl)
  have hL43 : ∀ (n43 : Nat), ∀ (v_now : (Nat → Int32)) (v_undone : (Nat → Int32)) (v_undos : Int32) (x2 : Int32) (x3 : Int32) (H : Heap) (locs : List Loc) (ls : Array Slot), f_X7_back_L43 fu n43 v_now v_undone v_undos v_kept x2 x3 = some res → va_P D vwCl [oX7 q v_size v_at v_begin v_token v_told v_undos v_changed v_felt v_wents v_wish v_trace, rA (q 9) cI 4 v_now, rA (q 10) cI 40 v_undone, rA (q 34) cI 92 v_kept] H → va_D A [oX7 q v_size v_at v_begin v_token v_told v_undos v_changed v_felt v_wents v_wish v_trace, rA (q 9) cI 4 v_now, rA (q 10) cI 40 v_undone, rA (q 34) cI 92 v_kept] → va_S A s.heap H locs → lv_has ls 4 [(0, .ref (q 0)), (2, .int x2), (3, .int x3)] → W p l e rm_X7_back s m args below meth c H locs 0 0 Q (F0 m 43 ls []) := by
    intro n43
    induction n43 with
    | zero =>
      intro v_now v_undone v_undos x2 x3 H locs ls h hP hD hS hl
      cases (show (none : Option R_X7_back) = some res from h)
    | succ n43 ih43 =>
      intro v_now v_undone v_undos x2 x3 H locs ls h hP hD hS hl
      have h : f_X7_back_L43b fu (f_X7_back_L43 fu n43) v_now v_undone v_undos v_kept x2 x3 = some res := h
      unfold f_X7_back_L43b at h
      refine lv_iload_n hx hb dX7_back_43 rfl (lv_at hl 2 rfl) ?_
      refine lv_iconst (v := 4) hx hb dX7_back_44 (by decide) ?_
      refine lv_icmp_ge (tgt := 70) hx hb dX7_back_45 (by decide) (fun c5 => ?_) (fun c5 => ?_)
      · have h := (if_pos c5).symm.trans h
        refine lv_iconst (v := 0) hx hb dX7_back_70 (by decide) ?_
        refine lv_istore_n (lv' := [(3, .int (0 : Int32)), (0, .ref (q 0)), (2, .int x2)]) hx hb dX7_back_71 rfl hl (by decide) rfl (fun ls hl => ?_)
        exact hL72 fu v_now v_undone v_undos x2 (0 : Int32) H locs ls h hP hD hS (lv_sub hl [1, 2, 0] rfl)
      · have h := (if_neg c5).symm.trans h
        refine lv_aload_n hx hb dX7_back_48 rfl (lv_at hl 0 rfl) ?_
        refine va_get (C := RX7) (T := TX7) (N := 34) (v := .ref (q 9)) hx hb hts iw7 hown hK hP 0 rfl rfl 8 (Nat.le_of_ble_eq_true rfl) lk19 (fun _ h9 => h9) rfl dX7_back_49 ?_
        refine lv_iload_n hx hb dX7_back_52 rfl (lv_at hl 2 rfl) ?_
        refine lv_aload_n hx hb dX7_back_53 rfl (lv_at hl 0 rfl) ?_
        refine va_get (C := RX7) (T := TX7) (N := 34) (v := .ref (q 34)) hx hb hts iw7 hown hK hP 0 rfl rfl 33 (Nat.le_of_ble_eq_true rfl) lk76 (fun _ h9 => h9) rfl dX7_back_54 ?_
        refine lv_iload_n hx hb dX7_back_57 rfl (lv_at hl 1 rfl) ?_
        refine lv_iconst (v := 2) hx hb dX7_back_58 (by decide) ?_
        refine lv_iadd hx hb dX7_back_59 ?_
        refine lv_iload_n hx hb dX7_back_60 rfl (lv_at hl 2 rfl) ?_
        refine lv_iadd hx hb dX7_back_61 ?_
        obtain ⟨hi6, h⟩ := xb_some h
        refine va_iald hx hb hK hP 3 0 rfl rfl hi6 dX7_back_62 ?_
        obtain ⟨hi7, h⟩ := xb_some h
        refine va_iast hx hb hK hP hD hS 1 0 rfl rfl hi7 dX7_back_63 (fun H locs hP hD hS => ?_)
        have hP : va_P D vwCl [oX7 q v_size v_at v_begin v_token v_told v_undos v_changed v_felt v_wents v_wish v_trace, rA (q 9) cI 4 (upd v_now x3.toNatClampNeg (v_kept ((x2 + (2 : Int32)) + x3).toNatClampNeg)), rA (q 10) cI 40 v_undone, rA (q 34) cI 92 v_kept] H := hP
        have hD : va_D A [oX7 q v_size v_at v_begin v_token v_told v_undos v_changed v_felt v_wents v_wish v_trace, rA (q 9) cI 4 (upd v_now x3.toNatClampNeg (v_kept ((x2 + (2 : Int32)) + x3).toNatClampNeg)), rA (q 10) cI 40 v_undone, rA (q 34) cI 92 v_kept] := hD
        refine lv_iinc (v := x3 + 1) (lv' := [(3, .int (x3 + 1)), (0, .ref (q 0)), (2, .int x2)]) hx hb dX7_back_64 hl (k := 2) rfl rfl (by decide) rfl (fun ls hl => ?_)
        refine lv_goto (tgt := 43) hx hb dX7_back_67 (by decide) ?_
        exact ih43 (upd v_now x3.toNatClampNeg (v_kept ((x2 + (2 : Int32)) + x3).toNatClampNeg)) v_undone v_undos x2 (x3 + 1) H locs ls h hP hD hS (lv_sub hl [1, 2, 0] rfl)
  have h := hf
  unfold f_X7_back at h
  obtain ⟨H, eH⟩ : ∃ H, H = s.heap := ⟨_, rfl⟩
  rw [← eH] at hP ⊢
  obtain ⟨locs, el⟩ : ∃ locs : List Loc, locs = [] := ⟨_, rfl⟩
  rw [← el] at hS ⊢
  have hS : va_S A s.heap H locs := by rw [eH]; exact hS
  refine lv_iload_n hx hb dX7_back_0 rfl (lv_at hl 1 rfl) ?_
  refine lv_i2l hx hb dX7_back_1 rfl ?_
  refine lv_lconst (v := 0) hx hb dX7_back_2 (by decide) ?_
  refine lv_lconst (v := 1) hx hb dX7_back_3 (by decide) ?_
  obtain ⟨r8, hr8, h⟩ := xk_some h
  refine vx_SJ (As := [.long x1.toInt64, .long (0 : Int64), .long (1 : Int64)]) (rest := []) hFx (k_X7_in l D cI cZ cT H.size x1.toInt64 (0 : Int64) (1 : Int64) r8 hr8) (vx_cwS 3 hts gX7_back_X7_in rfl rfl rfl (by decide +kernel) ⟨Nat.le_of_ble_eq_true rfl, Nat.le_of_ble_eq_true rfl⟩) hK hP hD hS hA rfl hl.1 rfl (Nat.le_of_ble_eq_true rfl) dX7_back_4 ⟨Nat.zero_le _, Nat.zero_le _⟩ (fun H locs hP hS => ?_)
  refine lv_if_ne (tgt := 12) hx hb dX7_back_7 (by decide) (fun c9 => ?_) (fun c9 => ?_)
  · have h := (if_neg c9).symm.trans h
    refine lv_bipush (v := 46) hx hb dX7_back_12 (by decide) ?_
    refine lv_iload_n hx hb dX7_back_14 rfl (lv_at hl 1 rfl) ?_
    refine lv_imul hx hb dX7_back_15 ?_
    refine lv_istore_n (lv' := [(2, .int ((46 : Int32) * x1)), (0, .ref (q 0)), (1, .int x1)]) hx hb dX7_back_16 rfl hl (by decide) rfl (fun ls hl => ?_)
    refine lv_aload_n hx hb dX7_back_17 rfl (lv_at hl 1 rfl) ?_
    refine va_get (C := RX7) (T := TX7) (N := 34) (v := .ref (q 34)) hx hb hts iw7 hown hK hP 0 rfl rfl 33 (Nat.le_of_ble_eq_true rfl) lk76 (fun _ h9 => h9) rfl dX7_back_18 ?_
    refine lv_iload_n hx hb dX7_back_21 rfl (lv_at hl 0 rfl) ?_
    obtain ⟨hi10, h⟩ := xb_some h
    refine va_iald hx hb hK hP 3 0 rfl rfl hi10 dX7_back_22 ?_
    refine lv_if_ne (tgt := 29) hx hb dX7_back_23 (by decide) (fun c11 => ?_) (fun c11 => ?_)
    · have h := (if_neg c11).symm.trans h
      refine lv_aload_n hx hb dX7_back_29 rfl (lv_at hl 1 rfl) ?_
      refine lv_aload_n hx hb dX7_back_30 rfl (lv_at hl 1 rfl) ?_
      refine va_get (C := RX7) (T := TX7) (N := 34) (v := .ref (q 34)) hx hb hts iw7 hown hK hP 0 rfl rfl 33 (Nat.le_of_ble_eq_true rfl) lk76 (fun _ h9 => h9) rfl dX7_back_31 ?_
      refine lv_iload_n hx hb dX7_back_34 rfl (lv_at hl 0 rfl) ?_
      refine lv_iconst (v := 1) hx hb dX7_back_35 (by decide) ?_
      refine lv_iadd hx hb dX7_back_36 ?_
      obtain ⟨hi12, h⟩ := xb_some h
      refine va_iald hx hb hK hP 3 0 rfl rfl hi12 dX7_back_37 ?_
      refine va_put (C := RX7) (T := TX7) (N := 34) (v := .int (v_kept (((46 : Int32) * x1) + (1 : Int32)).toNatClampNeg)) (ty := .int) hx hb hts iw7 tyX7 tyX7_ok nmX7 hown hK hP hD hS 0 rfl rfl 10 (Nat.le_of_ble_eq_true rfl) lk166 (fun _ h9 => h9) rfl (by decide +kernel) rfl rfl (Nat.le_of_ble_eq_true rfl) dX7_back_38 (fun H locs hP hD hS => ?_)
      have hP : va_P D vwCl [oX7 q v_size v_at v_begin v_token v_told (v_kept (((46 : Int32) * x1) + (1 : Int32)).toNatClampNeg) v_changed v_felt v_wents v_wish v_trace, rA (q 9) cI 4 v_now, rA (q 10) cI 40 v_undone, rA (q 34) cI 92 v_kept] H := hP
      have hD : va_D A [oX7 q v_size v_at v_begin v_token v_told (v_kept (((46 : Int32) * x1) + (1 : Int32)).toNatClampNeg) v_changed v_felt v_wents v_wish v_trace, rA (q 9) cI 4 v_now, rA (q 10) cI 40 v_undone, rA (q 34) cI 92 v_kept] := hD
      refine lv_iconst (v := 0) hx hb dX7_back_41 (by decide) ?_
      refine lv_istore_n (lv' := [(3, .int (0 : Int32)), (2, .int ((46 : Int32) * x1)), (0, .ref (q 0)), (1, .int x1)]) hx hb dX7_back_42 rfl hl (by decide) rfl (fun ls hl => ?_)
      exact hL43 fu v_now v_undone (v_kept (((46 : Int32) * x1) + (1 : Int32)).toNatClampNeg) ((46 : Int32) * x1) (0 : Int32) H locs ls h hP hD hS (lv_sub hl [2, 1, 0] rfl)
    · have h := (if_pos c11).symm.trans h
      refine lv_bipush (v := (-2)) hx hb dX7_back_26 (by decide) ?_
      exact hret (-2 : Int32) (v_now, v_undone, v_undos) H locs _ ls (Option.some.inj h) hP hD hS dX7_back_28
  · have h := (if_pos c9).symm.trans h
    refine lv_iconst (v := (-1)) hx hb dX7_back_10 (by decide) ?_
    exact hret (-1 : Int32) (v_now, v_undone, v_undos) H locs _ ls (Option.some.inj h) hP hD hS dX7_back_11
abbrev rm_X7_count : Room := { frames := 0, cells := 0, slots := 0, locals := 0 }
set_option maxHeartbeats 4000000 in
set_option maxRecDepth 100000 in
theorem k_X7_count (l : Launch) (D : va_G) (cI cZ cT : ClassId) (q : Nat → Nat) (sz : Nat) (v_size : Int32) (v_at : Int32) (v_begin : Int32) (v_token : Int32) (v_told : Int32) (v_undos : Int32) (v_changed : Int32) (v_felt : Int32) (v_wents : Int32) (v_wish : Int32) (v_trace : Int64) (v_town : Nat → Int32) (x1 : Int32) (res : R_X7_count) (hf : f_X7_count v_size v_town v_undos v_felt v_wents v_wish x1 = some res) : Met l yX7_count wsX7_count rm_X7_count (cPre D (tyz cI cZ cT) [.ref (q 0), .int x1] sz [oX7 q v_size v_at v_begin v_token v_told v_undos v_changed v_felt v_wents v_wish v_trace, rA (q 8) cI 64 v_town]) (cPi D (tyz cI cZ cT) (fun (r : Int32) (_ : Unit) => r = res) (fun _ => [oX7 q v_size v_at v_begin v_token v_told v_undos v_changed v_felt v_wents v_wish v_trace, rA (q 8) cI 64 v_town]) [oX7 q v_size v_at v_begin v_token v_told v_undos v_changed v_felt v_wents v_wish v_trace, rA (q 8) cI 64 v_town] sz) 0 0 (va_A [oX7 q v_size v_at v_begin v_token v_told v_undos v_changed v_felt v_wents v_wish v_trace, rA (q 8) cI 64 v_town] sz) := by
  refine vx_meth_i (by decide) rfl (Nat.le_of_ble_eq_true rfl) ?_
  intro p e s m args below meth c A Q hx hb hml hown hts hK hP hD hA hS hret ls hl
  have hown : s.vm.findClass RX7 = some m.cls := hown
  have hl : lv_has ls 2 [(0, .ref (q 0)), (1, .int x1)] := hl
  have hFx : CallFix p m c cX7_count 2 s args wsX7_count RX7 := ⟨hx, hb, hml, hown, hts⟩
  have lk16 := hts (.fieldLink RX7 16 "FogGuidesModel" "town" "[I") (by decide +kernel)
  have iw7 : ∀ w ∈ u_ws RX7 TX7 34, w ∈ wsX7_count := by decide +kernel
  have lk157 := hts (.fieldLink RX7 157 "FogGuidesModel" "felt" "I") (by decide +kernel)
  have lk160 := hts (.fieldLink RX7 160 "FogGuidesModel" "wents" "I") (by decide +kernel)
  have lk163 := hts (.fieldLink RX7 163 "FogGuidesModel" "wish" "I") (by decide +kernel)
  have lk166 := hts (.fieldLink RX7 166 "FogGuidesModel" "undos" "I") (by decide +kernel)
  have lk91 := hts (.fieldLink RX7 91 "FogGuidesModel" "size" "I") (by decide +kernel)
  have h := hf
  unfold f_X7_count at h
  obtain ⟨H, eH⟩ : ∃ H, H = s.heap := ⟨_, rfl⟩
  rw [← eH] at hP ⊢
  obtain ⟨locs, el⟩ : ∃ locs : List Loc, locs = [] := ⟨_, rfl⟩
  rw [← el] at hS ⊢
  have hS : va_S A s.heap H locs := by rw [eH]; exact hS
  refine lv_iload_n hx hb dX7_count_0 rfl (lv_at hl 1 rfl) ?_
  by_cases c1 : x1 = (0 : Int32)
  · refine lv_tableIn (off := 55) (tgt := 56) hx hb dX7_count_1 (by rw [c1]; decide) (by rw [c1]; decide) (by rw [c1]; decide) (by decide) ?_
    have h := (if_pos c1).symm.trans h
    refine lv_aload_n hx hb dX7_count_56 rfl (lv_at hl 0 rfl) ?_
    refine va_get (C := RX7) (T := TX7) (N := 34) (v := .ref (q 8)) hx hb hts iw7 hown hK hP 0 rfl rfl 7 (Nat.le_of_ble_eq_true rfl) lk16 (fun _ h9 => h9) rfl dX7_count_57 ?_
    refine lv_iload_n hx hb dX7_count_60 rfl (lv_at hl 1 rfl) ?_
    obtain ⟨hi2, h⟩ := xb_some h
    refine va_iald hx hb hK hP 1 0 rfl rfl hi2 dX7_count_61 ?_
    exact hret (v_town x1.toNatClampNeg) () H locs _ ls (Option.some.inj h) hP hD hS dX7_count_62
  have h := (if_neg c1).symm.trans h
  by_cases c3 : x1 = (1 : Int32)
  · refine lv_tableIn (off := 55) (tgt := 56) hx hb dX7_count_1 (by rw [c3]; decide) (by rw [c3]; decide) (by rw [c3]; decide) (by decide) ?_
    have h := (if_pos c3).symm.trans h
    refine lv_aload_n hx hb dX7_count_56 rfl (lv_at hl 0 rfl) ?_
    refine va_get (C := RX7) (T := TX7) (N := 34) (v := .ref (q 8)) hx hb hts iw7 hown hK hP 0 rfl rfl 7 (Nat.le_of_ble_eq_true rfl) lk16 (fun _ h9 => h9) rfl dX7_count_57 ?_
    refine lv_iload_n hx hb dX7_count_60 rfl (lv_at hl 1 rfl) ?_
    obtain ⟨hi4, h⟩ := xb_some h
    refine va_iald hx hb hK hP 1 0 rfl rfl hi4 dX7_count_61 ?_
    exact hret (v_town x1.toNatClampNeg) () H locs _ ls (Option.some.inj h) hP hD hS dX7_count_62
  have h := (if_neg c3).symm.trans h
  by_cases c5 : x1 = (2 : Int32)
  · refine lv_tableIn (off := 55) (tgt := 56) hx hb dX7_count_1 (by rw [c5]; decide) (by rw [c5]; decide) (by rw [c5]; decide) (by decide) ?_
    have h := (if_pos c5).symm.trans h
    refine lv_aload_n hx hb dX7_count_56 rfl (lv_at hl 0 rfl) ?_
    refine va_get (C := RX7) (T := TX7) (N := 34) (v := .ref (q 8)) hx hb hts iw7 hown hK hP 0 rfl rfl 7 (Nat.le_of_ble_eq_true rfl) lk16 (fun _ h9 => h9) rfl dX7_count_57 ?_
    refine lv_iload_n hx hb dX7_count_60 rfl (lv_at hl 1 rfl) ?_
    obtain ⟨hi6, h⟩ := xb_some h
    refine va_iald hx hb hK hP 1 0 rfl rfl hi6 dX7_count_61 ?_
    exact hret (v_town x1.toNatClampNeg) () H locs _ ls (Option.some.inj h) hP hD hS dX7_count_62
  have h := (if_neg c5).symm.trans h
  by_cases c7 : x1 = (3 : Int32)
  · refine lv_tableIn (off := 55) (tgt := 56) hx hb dX7_count_1 (by rw [c7]; decide) (by rw [c7]; decide) (by rw [c7]; decide) (by decide) ?_
    have h := (if_pos c7).symm.trans h
    refine lv_aload_n hx hb dX7_count_56 rfl (lv_at hl 0 rfl) ?_
    refine va_get (C := RX7) (T := TX7) (N := 34) (v := .ref (q 8)) hx hb hts iw7 hown hK hP 0 rfl rfl 7 (Nat.le_of_ble_eq_true rfl) lk16 (fun _ h9 => h9) rfl dX7_count_57 ?_
    refine lv_iload_n hx hb dX7_count_60 rfl (lv_at hl 1 rfl) ?_
    obtain ⟨hi8, h⟩ := xb_some h
    refine va_iald hx hb hK hP 1 0 rfl rfl hi8 dX7_count_61 ?_
    exact hret (v_town x1.toNatClampNeg) () H locs _ ls (Option.some.inj h) hP hD hS dX7_count_62
  have h := (if_neg c7).symm.trans h
  by_cases c9 : x1 = (4 : Int32)
  · refine lv_tableIn (off := 55) (tgt := 56) hx hb dX7_count_1 (by rw [c9]; decide) (by rw [c9]; decide) (by rw [c9]; decide) (by decide) ?_
    have h := (if_pos c9).symm.trans h
    refine lv_aload_n hx hb dX7_count_56 rfl (lv_at hl 0 rfl) ?_
    refine va_get (C := RX7) (T := TX7) (N := 34) (v := .ref (q 8)) hx hb hts iw7 hown hK hP 0 rfl rfl 7 (Nat.le_of_ble_eq_true rfl) lk16 (fun _ h9 => h9) rfl dX7_count_57 ?_
    refine lv_iload_n hx hb dX7_count_60 rfl (lv_at hl 1 rfl) ?_
    obtain ⟨hi10, h⟩ := xb_some h
    refine va_iald hx hb hK hP 1 0 rfl rfl hi10 dX7_count_61 ?_
    exact hret (v_town x1.toNatClampNeg) () H locs _ ls (Option.some.inj h) hP hD hS dX7_count_62
  have h := (if_neg c9).symm.trans h
  by_cases c11 : x1 = (5 : Int32)
  · refine lv_tableIn (off := 62) (tgt := 63) hx hb dX7_count_1 (by rw [c11]; decide) (by rw [c11]; decide) (by rw [c11]; decide) (by decide) ?_
    have h := (if_pos c11).symm.trans h
    refine lv_aload_n hx hb dX7_count_63 rfl (lv_at hl 0 rfl) ?_
    refine va_get (C := RX7) (T := TX7) (N := 34) (v := .int v_felt) hx hb hts iw7 hown hK hP 0 rfl rfl 19 (Nat.le_of_ble_eq_true rfl) lk157 (fun _ h9 => h9) rfl dX7_count_64 ?_
    exact hret v_felt () H locs _ ls (Option.some.inj h) hP hD hS dX7_count_67
  have h := (if_neg c11).symm.trans h
  by_cases c12 : x1 = (6 : Int32)
  · refine lv_tableIn (off := 67) (tgt := 68) hx hb dX7_count_1 (by rw [c12]; decide) (by rw [c12]; decide) (by rw [c12]; decide) (by decide) ?_
    have h := (if_pos c12).symm.trans h
    refine lv_aload_n hx hb dX7_count_68 rfl (lv_at hl 0 rfl) ?_
    refine va_get (C := RX7) (T := TX7) (N := 34) (v := .int v_wents) hx hb hts iw7 hown hK hP 0 rfl rfl 21 (Nat.le_of_ble_eq_true rfl) lk160 (fun _ h9 => h9) rfl dX7_count_69 ?_
    exact hret v_wents () H locs _ ls (Option.some.inj h) hP hD hS dX7_count_72
  have h := (if_neg c12).symm.trans h
  by_cases c13 : x1 = (7 : Int32)
  · refine lv_tableIn (off := 72) (tgt := 73) hx hb dX7_count_1 (by rw [c13]; decide) (by rw [c13]; decide) (by rw [c13]; decide) (by decide) ?_
    have h := (if_pos c13).symm.trans h
    refine lv_aload_n hx hb dX7_count_73 rfl (lv_at hl 0 rfl) ?_
    refine va_get (C := RX7) (T := TX7) (N := 34) (v := .int v_wish) hx hb hts iw7 hown hK hP 0 rfl rfl 27 (Nat.le_of_ble_eq_true rfl) lk163 (fun _ h9 => h9) rfl dX7_count_74 ?_
    exact hret v_wish () H locs _ ls (Option.some.inj h) hP hD hS dX7_count_77
  have h := (if_neg c13).symm.trans h
  by_cases c14 : x1 = (8 : Int32)
  · refine lv_tableIn (off := 77) (tgt := 78) hx hb dX7_count_1 (by rw [c14]; decide) (by rw [c14]; decide) (by rw [c14]; decide) (by decide) ?_
    have h := (if_pos c14).symm.trans h
    refine lv_aload_n hx hb dX7_count_78 rfl (lv_at hl 0 rfl) ?_
    refine va_get (C := RX7) (T := TX7) (N := 34) (v := .int v_undos) hx hb hts iw7 hown hK hP 0 rfl rfl 10 (Nat.le_of_ble_eq_true rfl) lk166 (fun _ h9 => h9) rfl dX7_count_79 ?_
    exact hret v_undos () H locs _ ls (Option.some.inj h) hP hD hS dX7_count_82
  have h := (if_neg c14).symm.trans h
  by_cases c15 : x1 = (9 : Int32)
  · refine lv_tableIn (off := 82) (tgt := 83) hx hb dX7_count_1 (by rw [c15]; decide) (by rw [c15]; decide) (by rw [c15]; decide) (by decide) ?_
    have h := (if_pos c15).symm.trans h
    refine lv_aload_n hx hb dX7_count_83 rfl (lv_at hl 0 rfl) ?_
    refine va_get (C := RX7) (T := TX7) (N := 34) (v := .int v_size) hx hb hts iw7 hown hK hP 0 rfl rfl 1 (Nat.le_of_ble_eq_true rfl) lk91 (fun _ h9 => h9) rfl dX7_count_84 ?_
    exact hret v_size () H locs _ ls (Option.some.inj h) hP hD hS dX7_count_87
  have h := (if_neg c15).symm.trans h
  refine lv_tableOut (tgt := 88) hx hb dX7_count_1 (sw_out (lo := 0) (hi := 9) (by decide) (by decide) (fun j h1 h2 => ?_)) (by decide) ?_
  · rcases (show j = 0 ∨ j = 1 ∨ j = 2 ∨ j = 3 ∨ j = 4 ∨ j = 5 ∨ j = 6 ∨ j = 7 ∨ j = 8 ∨ j = 9 by omega) with rfl | rfl | rfl | rfl | rfl | rfl | rfl | rfl | rfl | rfl
    · exact c1
    · exact c3
    · exact c5
    · exact c7
    · exact c9
    · exact c11
    · exact c12
    · exact c13
    · exact c14
    · exact c15
  · refine lv_iconst (v := (-1)) hx hb dX7_count_88 (by decide) ?_
    exact hret (-1 : Int32) () H locs _ ls (Option.some.inj h) hP hD hS dX7_count_89
