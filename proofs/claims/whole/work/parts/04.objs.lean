abbrev tyz (cI cZ cT : ClassId) : List (ClassId × FieldType) := [(cI, .int), (cZ, .boolean), (cT, .object "FogGuides$Tale")]
abbrev rA (a : Nat) (c : ClassId) (n : Nat) (f : Nat → Int32) : Nat × va_E := (a, .inl (c, n, .inl f))
abbrev oX0 (q : Nat → Nat) (v_minutes : Int32) (v_paid : Int32) (v_first : Int32) : Nat × va_E := (q 0, .inr (0, [.ref (q 1), .ref (q 2), .int v_minutes, .int v_paid, .int v_first]))
abbrev oX1 (q : Nat → Nat) (v_corner : Int32) (v_minute : Int32) (v_paid : Int32) (v_leader : Int32) (v_undoable : Int32) : Nat × va_E := (q 0, .inr (1, [.int v_corner, .int v_minute, .int v_paid, .int v_leader, .int v_undoable, .ref (q 6), .ref (q 7), .ref (q 8), .ref (q 9)]))
abbrev oX2 (q : Nat → Nat) (v_length : Int32) (v_place : Int32) (v_token : Int32) (v_tokenAt : Int32) (v_value : Int32) (v_fault : Int32) : Nat × va_E := (q 0, .inr (2, [.ref (q 1), .int v_length, .int v_place, .int v_token, .int v_tokenAt, .int v_value, .int v_fault]))
abbrev oX3 (q : Nat → Nat) (v_felt : Int32) (v_walked : Int32) : Nat × va_E := (q 0, .inr (3, [.int v_felt, .int v_walked, .ref (q 3), .ref (q 4), .ref (q 5), .ref (q 6)]))
abbrev oX4 (q : Nat → Nat) (v_cornerCount : Int32) (v_streetCount : Int32) (v_guideCount : Int32) (v_bellCount : Int32) (v_hand : Int32) (v_handTold : Int32) : Nat × va_E := (q 0, .inr (4, [.int v_cornerCount, .int v_streetCount, .int v_guideCount, .int v_bellCount, .int v_hand, .int v_handTold, .ref (q 7), .ref (q 8), .ref (q 9), .ref (q 10), .ref (q 11), .ref (q 12), .ref (q 13), .ref (q 14), .ref (q 15)]))
abbrev oX5 (q : Nat → Nat) (v_size : Int32) (v_bestWorth : Int32) (v_bestSet : Int32) : Nat × va_E := (q 0, .inr (5, [.int v_size, .ref (q 2), .ref (q 3), .ref (q 4), .ref (q 5), .int v_bestWorth, .int v_bestSet]))
abbrev oX6 (q : Nat → Nat) (r_reader : Nat) (r_map : Nat) (r_spareMap : Nat) (r_tale : Nat) (r_routes : Nat) (r_touches : Nat) (r_wishList : Nat) (v_asked : Int64) : Nat × va_E := (q 0, .inr (6, [.ref r_reader, .ref r_map, .ref r_spareMap, .ref r_tale, .ref (q 5), .ref (q 6), .ref r_routes, .ref r_touches, .ref r_wishList, .long v_asked]))
abbrev oX7 (q : Nat → Nat) (v_size : Int32) (v_at : Int32) (v_begin : Int32) (v_token : Int32) (v_told : Int32) (v_undos : Int32) (v_changed : Int32) (v_felt : Int32) (v_wents : Int32) (v_wish : Int32) (v_trace : Int64) : Nat × va_E := (q 0, .inr (7, [.ref (q 1), .int v_size, .int v_at, .int v_begin, .int v_token, .int v_told, .ref (q 7), .ref (q 8), .ref (q 9), .ref (q 10), .int v_undos, .ref (q 12), .ref (q 13), .ref (q 14), .int v_changed, .ref (q 16), .ref (q 17), .ref (q 18), .ref (q 19), .int v_felt, .ref (q 21), .int v_wents, .ref (q 23), .ref (q 24), .ref (q 25), .ref (q 26), .ref (q 27), .int v_wish, .ref (q 29), .ref (q 30), .ref (q 31), .ref (q 32), .long v_trace, .ref (q 34)]))
theorem sw_out {x : Int32} {lo hi : Int} (h1 : -2147483648 ≤ lo) (h2 : hi ≤ 2147483647) (h : ∀ j : Int, lo ≤ j → j ≤ hi → ¬ x = Int32.ofInt j) : x.toInt < lo ∨ hi < x.toInt := by
  by_cases a : x.toInt < lo
  · exact Or.inl a
  · by_cases b : hi < x.toInt
    · exact Or.inr b
    · exact absurd (Int32.ofInt_toInt x).symm (h x.toInt (by omega) (by omega))
