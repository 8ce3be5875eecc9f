def Steps (Sim : SIMT) : Prop := St_type Sim ∧ St_clear Sim ∧ St_town Sim ∧ St_corner Sim ∧ St_street Sim ∧ St_guide Sim ∧ St_fog Sim ∧ St_hires Sim ∧ St_leaves Sim ∧ St_leads Sim ∧ St_alone Sim ∧ St_waits Sim ∧ St_undo Sim ∧ St_now Sim ∧ St_soonest Sim ∧ St_cheapest Sim ∧ St_byOne Sim ∧ St_forFee Sim ∧ St_byBells Sim ∧ St_taught Sim ∧ St_feels Sim ∧ St_went Sim ∧ St_forget Sim ∧ St_fits Sim ∧ St_falseMark Sim ∧ St_wishes Sim ∧ St_grants Sim ∧ St_day Sim ∧ St_rate Sim ∧ St_keep Sim ∧ St_back Sim ∧ St_count Sim ∧ St_trace Sim
theorem law_i5 {L i : Nat} (hL : L ≤ 2560) (hi : i ≤ L) (h : ¬ Int32.ofNat L - 5 < nI i) : i + 5 ≤ L := by
  rw [Int32.lt_iff_toInt_lt] at h
  have h1 : (Int32.ofNat L - 5).toInt = (L : Int) - 5 := pk_sub_toInt (a := L) (b := 5) (by omega) (by omega)
  have h2 : (nI i).toInt = (i : Int) := nI_toInt (by omega)
  omega
set_option maxHeartbeats 8000000 in
set_option maxRecDepth 100000 in
theorem law_loop {p : Program} {l : Launch} {e : Env} {s : State} {m : MethodId} {below : List Frame} {meth : Method} {c : Code} {D : va_G} {cI cZ cT : ClassId} {b L tA : Nat} {xs : Nat → Int32} (Sim : SIMT) (hSt : Steps Sim) (hL : L ≤ 2560) (C0 : lw_At p s m meth c b L xs) (hK : va_K D vwCl (tyz cI cZ cT) s) (hTr : cTr tA (fun q : Nat => s.heap.size ≤ q) s s.heap) (q : Nat → Nat) : ∀ (n i : Nat), i ≤ L → L + 1 ≤ i + 5 * n → ∀ (u : Nat → Nat → Nat) (as tr : Int64) (I : Nat → Int32) (F : Nat → Nat → Int32) (J : Nat → Int32) (G : Nat → Nat → Int32) (H : Heap) (locs : List Loc) (ls : Array Slot), Sim I F as J G tr → va_P D vwCl (wX6 cI cZ cT u as I F ++ wX7 cI q tr J G) H → va_D (fun q : Nat => s.heap.size ≤ q) (wX6 cI cZ cT u as I F ++ wX7 cI q tr J G) → va_S (fun q : Nat => s.heap.size ≤ q) s.heap H locs → lv_has ls 4 [(0, .ref b), (1, .ref (u 0 0)), (2, .ref (q 0)), (3, .int (nI i))] → W p l e room_1 s m #[Value.ref b] below meth c H locs 77 2367 (lw_Z below #[Value.ref b] s) (F0 m 18 ls []) := by
  obtain ⟨hx, hb, hr, hml, hown, hts, hX, hbl, hlocks, hgv⟩ := id C0
  obtain ⟨s_type, s_clear, s_town, s_corner, s_street, s_guide, s_fog, s_hires, s_leaves, s_leads, s_alone, s_waits, s_undo, s_now, s_soonest, s_cheapest, s_byOne, s_forFee, s_byBells, s_taught, s_feels, s_went, s_forget, s_fits, s_falseMark, s_wishes, s_grants, s_day, s_rate, s_keep, s_back, s_count, s_trace⟩ := hSt
  have hbA : ¬ (fun q : Nat => s.heap.size ≤ q) b := Nat.not_le.mpr hbl
  intro n
  induction n with
  | zero =>
    intro i h1 h2
    exact absurd h2 (by omega)
  | succ n ih =>
    intro i hi hin u as tr I F J G H locs ls hsim hP hD hS hl
    refine lv_iload_n hx hb dL_law_18 rfl (lv_at hl 3 rfl) ?_
    refine lv_aload_n hx hb dL_law_19 rfl (lv_at hl 0 rfl) ?_
    refine va_slen hx hb hX hbl hbA hS dL_law_20 ?_
    refine lv_iconst (v := 5) hx hb dL_law_21 (by decide) ?_
    refine lv_isub hx hb dL_law_22 ?_
    refine lv_icmp_gt (tgt := 1046) hx hb dL_law_23 (by decide) (fun c0 => ?_) (fun c0 => ?_)
    · refine lv_iconst (v := 1) hx hb dL_law_1046 (by decide) ?_
      refine va_forget (fun q hq => hS.2.2 q hq) ?_
      refine W.widen (k := 600000) (n := 7302250) (Nat.le_of_ble_eq_true rfl) (Nat.le_of_ble_eq_true rfl) ?_
      exact lw_ret hx hb hr hlocks dL_law_1047
    · have h5 := law_i5 hL hi c0
      have hi0 : vp_in (nI i) L := vp_in_nI (by omega) (by omega)
      have hi1 : vp_in (nI i + 1) L := by rw [show nI i + 1 = nI (i + 1) from nI_add i 1]; exact vp_in_nI (by omega) (by omega)
      have hi2 : vp_in (nI i + 2) L := by rw [show nI i + 2 = nI (i + 2) from nI_add i 2]; exact vp_in_nI (by omega) (by omega)
      have hi3 : vp_in (nI i + 3) L := by rw [show nI i + 3 = nI (i + 3) from nI_add i 3]; exact vp_in_nI (by omega) (by omega)
      have hi4 : vp_in (nI i + 4) L := by rw [show nI i + 4 = nI (i + 4) from nI_add i 4]; exact vp_in_nI (by omega) (by omega)
      have next : ∀ (u : Nat → Nat → Nat) (as tr : Int64) (I : Nat → Int32) (F : Nat → Nat → Int32) (J : Nat → Int32) (G : Nat → Nat → Int32) (H : Heap) (locs : List Loc) (ls : Array Slot), Sim I F as J G tr → va_P D vwCl (wX6 cI cZ cT u as I F ++ wX7 cI q tr J G) H → va_D (fun q : Nat => s.heap.size ≤ q) (wX6 cI cZ cT u as I F ++ wX7 cI q tr J G) → va_S (fun q : Nat => s.heap.size ≤ q) s.heap H locs → lv_has ls 4 [(0, .ref b), (1, .ref (u 0 0)), (2, .ref (q 0)), (3, .int (nI i))] → W p l e room_1 s m #[Value.ref b] below meth c H locs 77 2367 (lw_Z below #[Value.ref b] s) (F0 m 1040 ls []) := by
        intro u as tr I F J G H locs ls hsim hP hD hS hl
        refine lv_iinc (v := nI (i + 5)) (lv' := [(3, .int (nI (i + 5))), (0, .ref b), (1, .ref (u 0 0)), (2, .ref (q 0))]) hx hb dL_law_1040 hl (k := 3) rfl (nI_add i 5) (by decide) rfl (fun ls hl => ?_)
        refine lv_goto (tgt := 18) hx hb dL_law_1043 (by decide) ?_
        exact ih (i + 5) h5 (by omega) u as tr I F J G H locs ls hsim hP hD hS (lv_sub hl [1, 2, 3, 0] rfl)
      refine lv_aload_n hx hb dL_law_26 rfl (lv_at hl 0 rfl) ?_
      refine lv_iload_n hx hb dL_law_27 rfl (lv_at hl 3 rfl) ?_
      refine va_sld hx hb hX hbl hbA hS hi0 dL_law_28 ?_
      refine lv_bipush (v := 63) hx hb dL_law_29 (by decide) ?_
      refine lv_iand hx hb dL_law_31 ?_
      generalize xs (nI i).toNatClampNeg &&& 63 = y
      by_cases c0 : y = (0 : Int32)
      · refine lv_tableIn (off := 148) (tgt := 180) hx hb dL_law_32 (by rw [c0]; decide) (by rw [c0]; decide) (by rw [c0]; decide) (by decide) ?_
        exact lc_type Sim s_type C0 hK hTr (nI i) hi1 hi2 hi3 hi4 q u as tr I F J G hsim H locs ls hP hD hS hl next
      by_cases c1 : y = (1 : Int32)
      · refine lv_tableIn (off := 171) (tgt := 203) hx hb dL_law_32 (by rw [c1]; decide) (by rw [c1]; decide) (by rw [c1]; decide) (by decide) ?_
        exact lc_clear Sim s_clear C0 hK hTr (nI i) hi1 hi2 hi3 hi4 q u as tr I F J G hsim H locs ls hP hD hS hl next
      by_cases c2 : y = (2 : Int32)
      · refine lv_tableIn (off := 184) (tgt := 216) hx hb dL_law_32 (by rw [c2]; decide) (by rw [c2]; decide) (by rw [c2]; decide) (by decide) ?_
        exact lc_town Sim s_town C0 hK hTr (nI i) hi1 hi2 hi3 hi4 q u as tr I F J G hsim H locs ls hP hD hS hl next
      by_cases c3 : y = (3 : Int32)
      · refine lv_tableIn (off := 197) (tgt := 229) hx hb dL_law_32 (by rw [c3]; decide) (by rw [c3]; decide) (by rw [c3]; decide) (by decide) ?_
        exact lc_corner Sim s_corner C0 hK hTr (nI i) hi1 hi2 hi3 hi4 q u as tr I F J G hsim H locs ls hP hD hS hl next
      by_cases c4 : y = (4 : Int32)
      · refine lv_tableIn (off := 220) (tgt := 252) hx hb dL_law_32 (by rw [c4]; decide) (by rw [c4]; decide) (by rw [c4]; decide) (by decide) ?_
        exact lc_street Sim s_street C0 hK hTr (nI i) hi1 hi2 hi3 hi4 q u as tr I F J G hsim H locs ls hP hD hS hl next
      by_cases c5 : y = (5 : Int32)
      · refine lv_tableIn (off := 253) (tgt := 285) hx hb dL_law_32 (by rw [c5]; decide) (by rw [c5]; decide) (by rw [c5]; decide) (by decide) ?_
        exact lc_guide Sim s_guide C0 hK hTr (nI i) hi1 hi2 hi3 hi4 q u as tr I F J G hsim H locs ls hP hD hS hl next
      by_cases c6 : y = (6 : Int32)
      · refine lv_tableIn (off := 286) (tgt := 318) hx hb dL_law_32 (by rw [c6]; decide) (by rw [c6]; decide) (by rw [c6]; decide) (by decide) ?_
        exact lc_fog Sim s_fog C0 hK hTr (nI i) hi1 hi2 hi3 hi4 q u as tr I F J G hsim H locs ls hP hD hS hl next
      by_cases c7 : y = (7 : Int32)
      · refine lv_tableIn (off := 309) (tgt := 341) hx hb dL_law_32 (by rw [c7]; decide) (by rw [c7]; decide) (by rw [c7]; decide) (by decide) ?_
        exact lc_hires Sim s_hires C0 hK hTr (nI i) hi1 hi2 hi3 hi4 q u as tr I F J G hsim H locs ls hP hD hS hl next
      by_cases c8 : y = (8 : Int32)
      · refine lv_tableIn (off := 332) (tgt := 364) hx hb dL_law_32 (by rw [c8]; decide) (by rw [c8]; decide) (by rw [c8]; decide) (by decide) ?_
        exact lc_leaves Sim s_leaves C0 hK hTr (nI i) hi1 hi2 hi3 hi4 q u as tr I F J G hsim H locs ls hP hD hS hl next
      by_cases c9 : y = (9 : Int32)
      · refine lv_tableIn (off := 345) (tgt := 377) hx hb dL_law_32 (by rw [c9]; decide) (by rw [c9]; decide) (by rw [c9]; decide) (by decide) ?_
        exact lc_leads Sim s_leads C0 hK hTr (nI i) hi1 hi2 hi3 hi4 q u as tr I F J G hsim H locs ls hP hD hS hl next
      by_cases c10 : y = (10 : Int32)
      · refine lv_tableIn (off := 368) (tgt := 400) hx hb dL_law_32 (by rw [c10]; decide) (by rw [c10]; decide) (by rw [c10]; decide) (by decide) ?_
        exact lc_alone Sim s_alone C0 hK hTr (nI i) hi1 hi2 hi3 hi4 q u as tr I F J G hsim H locs ls hP hD hS hl next
      by_cases c11 : y = (11 : Int32)
      · refine lv_tableIn (off := 391) (tgt := 423) hx hb dL_law_32 (by rw [c11]; decide) (by rw [c11]; decide) (by rw [c11]; decide) (by decide) ?_
        exact lc_waits Sim s_waits C0 hK hTr (nI i) hi1 hi2 hi3 hi4 q u as tr I F J G hsim H locs ls hP hD hS hl next
      by_cases c12 : y = (12 : Int32)
      · refine lv_tableIn (off := 414) (tgt := 446) hx hb dL_law_32 (by rw [c12]; decide) (by rw [c12]; decide) (by rw [c12]; decide) (by decide) ?_
        exact lc_undo Sim s_undo C0 hK hTr (nI i) hi1 hi2 hi3 hi4 q u as tr I F J G hsim H locs ls hP hD hS hl next
      by_cases c13 : y = (13 : Int32)
      · refine lv_tableIn (off := 427) (tgt := 459) hx hb dL_law_32 (by rw [c13]; decide) (by rw [c13]; decide) (by rw [c13]; decide) (by decide) ?_
        exact lc_now Sim s_now C0 hK hTr (nI i) hi1 hi2 hi3 hi4 q u as tr I F J G hsim H locs ls hP hD hS hl next
      by_cases c14 : y = (14 : Int32)
      · refine lv_tableIn (off := 450) (tgt := 482) hx hb dL_law_32 (by rw [c14]; decide) (by rw [c14]; decide) (by rw [c14]; decide) (by decide) ?_
        exact lc_soonest Sim s_soonest C0 hK hTr (nI i) hi1 hi2 hi3 hi4 q u as tr I F J G hsim H locs ls hP hD hS hl next
      by_cases c15 : y = (15 : Int32)
      · refine lv_tableIn (off := 493) (tgt := 525) hx hb dL_law_32 (by rw [c15]; decide) (by rw [c15]; decide) (by rw [c15]; decide) (by decide) ?_
        exact lc_cheapest Sim s_cheapest C0 hK hTr (nI i) hi1 hi2 hi3 hi4 q u as tr I F J G hsim H locs ls hP hD hS hl next
      by_cases c16 : y = (16 : Int32)
      · refine lv_tableIn (off := 536) (tgt := 568) hx hb dL_law_32 (by rw [c16]; decide) (by rw [c16]; decide) (by rw [c16]; decide) (by decide) ?_
        exact lc_byOne Sim s_byOne C0 hK hTr (nI i) hi1 hi2 hi3 hi4 q u as tr I F J G hsim H locs ls hP hD hS hl next
      by_cases c17 : y = (17 : Int32)
      · refine lv_tableIn (off := 569) (tgt := 601) hx hb dL_law_32 (by rw [c17]; decide) (by rw [c17]; decide) (by rw [c17]; decide) (by decide) ?_
        exact lc_forFee Sim s_forFee C0 hK hTr (nI i) hi1 hi2 hi3 hi4 q u as tr I F J G hsim H locs ls hP hD hS hl next
      by_cases c18 : y = (18 : Int32)
      · refine lv_tableIn (off := 612) (tgt := 644) hx hb dL_law_32 (by rw [c18]; decide) (by rw [c18]; decide) (by rw [c18]; decide) (by decide) ?_
        exact lc_byBells Sim s_byBells C0 hK hTr (nI i) hi1 hi2 hi3 hi4 q u as tr I F J G hsim H locs ls hP hD hS hl next
      by_cases c19 : y = (19 : Int32)
      · refine lv_tableIn (off := 655) (tgt := 687) hx hb dL_law_32 (by rw [c19]; decide) (by rw [c19]; decide) (by rw [c19]; decide) (by decide) ?_
        exact lc_taught Sim s_taught C0 hK hTr (nI i) hi1 hi2 hi3 hi4 q u as tr I F J G hsim H locs ls hP hD hS hl next
      by_cases c20 : y = (20 : Int32)
      · refine lv_tableIn (off := 688) (tgt := 720) hx hb dL_law_32 (by rw [c20]; decide) (by rw [c20]; decide) (by rw [c20]; decide) (by decide) ?_
        exact lc_feels Sim s_feels C0 hK hTr (nI i) hi1 hi2 hi3 hi4 q u as tr I F J G hsim H locs ls hP hD hS hl next
      by_cases c21 : y = (21 : Int32)
      · refine lv_tableIn (off := 711) (tgt := 743) hx hb dL_law_32 (by rw [c21]; decide) (by rw [c21]; decide) (by rw [c21]; decide) (by decide) ?_
        exact lc_went Sim s_went C0 hK hTr (nI i) hi1 hi2 hi3 hi4 q u as tr I F J G hsim H locs ls hP hD hS hl next
      by_cases c22 : y = (22 : Int32)
      · refine lv_tableIn (off := 734) (tgt := 766) hx hb dL_law_32 (by rw [c22]; decide) (by rw [c22]; decide) (by rw [c22]; decide) (by decide) ?_
        exact lc_forget Sim s_forget C0 hK hTr (nI i) hi1 hi2 hi3 hi4 q u as tr I F J G hsim H locs ls hP hD hS hl next
      by_cases c23 : y = (23 : Int32)
      · refine lv_tableIn (off := 747) (tgt := 779) hx hb dL_law_32 (by rw [c23]; decide) (by rw [c23]; decide) (by rw [c23]; decide) (by decide) ?_
        exact lc_fits Sim s_fits C0 hK hTr (nI i) hi1 hi2 hi3 hi4 q u as tr I F J G hsim H locs ls hP hD hS hl next
      by_cases c24 : y = (24 : Int32)
      · refine lv_tableIn (off := 770) (tgt := 802) hx hb dL_law_32 (by rw [c24]; decide) (by rw [c24]; decide) (by rw [c24]; decide) (by decide) ?_
        exact lc_falseMark Sim s_falseMark C0 hK hTr (nI i) hi1 hi2 hi3 hi4 q u as tr I F J G hsim H locs ls hP hD hS hl next
      by_cases c25 : y = (25 : Int32)
      · refine lv_tableIn (off := 783) (tgt := 815) hx hb dL_law_32 (by rw [c25]; decide) (by rw [c25]; decide) (by rw [c25]; decide) (by decide) ?_
        exact lc_wishes Sim s_wishes C0 hK hTr (nI i) hi1 hi2 hi3 hi4 q u as tr I F J G hsim H locs ls hP hD hS hl next
      by_cases c26 : y = (26 : Int32)
      · refine lv_tableIn (off := 826) (tgt := 858) hx hb dL_law_32 (by rw [c26]; decide) (by rw [c26]; decide) (by rw [c26]; decide) (by decide) ?_
        exact lc_grants Sim s_grants C0 hK hTr (nI i) hi1 hi2 hi3 hi4 q u as tr I F J G hsim H locs ls hP hD hS hl next
      by_cases c27 : y = (27 : Int32)
      · refine lv_tableIn (off := 839) (tgt := 871) hx hb dL_law_32 (by rw [c27]; decide) (by rw [c27]; decide) (by rw [c27]; decide) (by decide) ?_
        exact lc_day Sim s_day C0 hK hTr (nI i) hi1 hi2 hi3 hi4 q u as tr I F J G hsim H locs ls hP hD hS hl next
      by_cases c28 : y = (28 : Int32)
      · refine lv_tableIn (off := 892) (tgt := 924) hx hb dL_law_32 (by rw [c28]; decide) (by rw [c28]; decide) (by rw [c28]; decide) (by decide) ?_
        exact lc_rate Sim s_rate C0 hK hTr (nI i) hi1 hi2 hi3 hi4 q u as tr I F J G hsim H locs ls hP hD hS hl next
      by_cases c29 : y = (29 : Int32)
      · refine lv_tableIn (off := 925) (tgt := 957) hx hb dL_law_32 (by rw [c29]; decide) (by rw [c29]; decide) (by rw [c29]; decide) (by decide) ?_
        exact lc_keep Sim s_keep C0 hK hTr (nI i) hi1 hi2 hi3 hi4 q u as tr I F J G hsim H locs ls hP hD hS hl next
      by_cases c30 : y = (30 : Int32)
      · refine lv_tableIn (off := 948) (tgt := 980) hx hb dL_law_32 (by rw [c30]; decide) (by rw [c30]; decide) (by rw [c30]; decide) (by decide) ?_
        exact lc_back Sim s_back C0 hK hTr (nI i) hi1 hi2 hi3 hi4 q u as tr I F J G hsim H locs ls hP hD hS hl next
      by_cases c31 : y = (31 : Int32)
      · refine lv_tableIn (off := 971) (tgt := 1003) hx hb dL_law_32 (by rw [c31]; decide) (by rw [c31]; decide) (by rw [c31]; decide) (by decide) ?_
        exact lc_count Sim s_count C0 hK hTr (nI i) hi1 hi2 hi3 hi4 q u as tr I F J G hsim H locs ls hP hD hS hl next
      by_cases c32 : y = (32 : Int32)
      · refine lv_tableIn (off := 994) (tgt := 1026) hx hb dL_law_32 (by rw [c32]; decide) (by rw [c32]; decide) (by rw [c32]; decide) (by decide) ?_
        exact lc_trace Sim s_trace C0 hK hTr (nI i) hi1 hi2 hi3 hi4 q u as tr I F J G hsim H locs ls hP hD hS hl next
      refine lv_tableOut (tgt := 1040) hx hb dL_law_32 (sw_out (lo := 0) (hi := 32) (by decide) (by decide) (fun j h1 h2 => ?_)) (by decide) ?_
      · rcases (show j = 0 ∨ j = 1 ∨ j = 2 ∨ j = 3 ∨ j = 4 ∨ j = 5 ∨ j = 6 ∨ j = 7 ∨ j = 8 ∨ j = 9 ∨ j = 10 ∨ j = 11 ∨ j = 12 ∨ j = 13 ∨ j = 14 ∨ j = 15 ∨ j = 16 ∨ j = 17 ∨ j = 18 ∨ j = 19 ∨ j = 20 ∨ j = 21 ∨ j = 22 ∨ j = 23 ∨ j = 24 ∨ j = 25 ∨ j = 26 ∨ j = 27 ∨ j = 28 ∨ j = 29 ∨ j = 30 ∨ j = 31 ∨ j = 32 by omega) with rfl | rfl | rfl | rfl | rfl | rfl | rfl | rfl | rfl | rfl | rfl | rfl | rfl | rfl | rfl | rfl | rfl | rfl | rfl | rfl | rfl | rfl | rfl | rfl | rfl | rfl | rfl | rfl | rfl | rfl | rfl | rfl | rfl
        · exact c0
        · exact c1
        · exact c2
        · exact c3
        · exact c4
        · exact c5
        · exact c6
        · exact c7
        · exact c8
        · exact c9
        · exact c10
        · exact c11
        · exact c12
        · exact c13
        · exact c14
        · exact c15
        · exact c16
        · exact c17
        · exact c18
        · exact c19
        · exact c20
        · exact c21
        · exact c22
        · exact c23
        · exact c24
        · exact c25
        · exact c26
        · exact c27
        · exact c28
        · exact c29
        · exact c30
        · exact c31
        · exact c32
      · exact next u as tr I F J G H locs ls hsim hP hD hS hl
