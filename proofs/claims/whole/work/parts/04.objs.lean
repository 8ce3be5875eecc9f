abbrev tyz (cI cZ cT : ClassId) : List (ClassId × FieldType) := [(cI, .int), (cZ, .boolean), (cT, .object "FogGuides$Tale")]
abbrev rA (a : Nat) (c : ClassId) (n : Nat) (f : Nat → Int32) : Nat × va_E := (a, .inl (c, n, .inl f))
abbrev oX0 (q : Nat → Nat) (v_minutes : Int32) (v_paid : Int32) (v_first : Int32) : Nat × va_E := (q 0, .inr (0, [.ref (q 1), .ref (q 2), .int v_minutes, .int v_paid, .int v_first]))
abbrev oX1 (q : Nat → Nat) (v_corner : Int32) (v_minute : Int32) (v_paid : Int32) (v_leader : Int32) (v_undoable : Int32) : Nat × va_E := (q 0, .inr (1, [.int v_corner, .int v_minute, .int v_paid, .int v_leader, .int v_undoable, .ref (q 6), .ref (q 7), .ref (q 8), .ref (q 9)]))
abbrev oX2 (q : Nat → Nat) (v_length : Int32) (v_place : Int32) (v_token : Int32) (v_tokenAt : Int32) (v_value : Int32) (v_fault : Int32) : Nat × va_E := (q 0, .inr (2, [.ref (q 1), .int v_length, .int v_place, .int v_token, .int v_tokenAt, .int v_value, .int v_fault]))
abbrev oX3 (q : Nat → Nat) (v_felt : Int32) (v_walked : Int32) : Nat × va_E := (q 0, .inr (3, [.int v_felt, .int v_walked, .ref (q 3), .ref (q 4), .ref (q 5), .ref (q 6)]))
abbrev oX4 (q : Nat → Nat) (v_cornerCount : Int32) (v_streetCount : Int32) (v_guideCount : Int32) (v_bellCount : Int32) (v_hand : Int32) (v_handTold : Int32) : Nat × va_E := (q 0, .inr (4, [.int v_cornerCount, .int v_streetCount, .int v_guideCount, .int v_bellCount, .int v_hand, .int v_handTold, .ref (q 7), .ref (q 8), .ref (q 9), .ref (q 10), .ref (q 11), .ref (q 12), .ref (q 13), .ref (q 14), .ref (q 15)]))
abbrev oX5 (q : Nat → Nat) (v_size : Int32) (v_bestWorth : Int32) (v_bestSet : Int32) : Nat × va_E := (q 0, .inr (5, [.int v_size, .ref (q 2), .ref (q 3), .ref (q 4), .ref (q 5), .int v_bestWorth, .int v_bestSet]))
abbrev oX6 (q : Nat → Nat) (r_reader : Nat) (r_map : Nat) (r_spareMap : Nat) (r_tale : Nat) (r_routes : Nat) (r_touches : Nat) (r_wishList : Nat) (v_asked : Int64) : Nat × va_E := (q 0, .inr (6, [.ref r_reader, .ref r_map, .ref r_spareMap, .ref r_tale, .ref (q 5), .ref (q 6), .ref r_routes, .ref r_touches, .ref r_wishList, .long v_asked]))
abbrev oX7 (q : Nat → Nat) (v_size : Int32) (v_at : Int32) (v_begin : Int32) (v_token : Int32) (v_told : Int32) (v_undos : Int32) (v_changed : Int32) (v_felt : Int32) (v_wents : Int32) (v_wish : Int32) (v_trace : Int64) : Nat × va_E := (q 0, .inr (7, [.ref (q 1), .int v_size, .int v_at, .int v_begin, .int v_token, .int v_told, .ref (q 7), .ref (q 8), .ref (q 9), .ref (q 10), .int v_undos, .ref (q 12), .ref (q 13), .ref (q 14), .int v_changed, .ref (q 16), .ref (q 17), .ref (q 18), .ref (q 19), .int v_felt, .ref (q 21), .int v_wents, .ref (q 23), .ref (q 24), .ref (q 25), .ref (q 26), .ref (q 27), .int v_wish, .ref (q 29), .ref (q 30), .ref (q 31), .ref (q 32), .long v_trace, .ref (q 34)]))
def imf (a0 a1 : Nat) : Nat → Option Nat := fun j => if j = 0 then some a0 else some a1
abbrev rI (a : Nat) (c : ClassId) (a0 a1 : Nat) : Nat × va_E := (a, .inl (c, 2, .inr (.inr (.inr (.inr (imf a0 a1))))))
theorem im_0 {x : Int32} {a0 a1 : Nat} (h : x = 0) : va_rf (imf a0 a1 x.toNatClampNeg) = .ref a0 := by rw [h]; rfl
theorem im_1 {x : Int32} {a0 a1 : Nat} (hi : vp_in x 2) (h : ¬ x = 0) : va_rf (imf a0 a1 x.toNatClampNeg) = .ref a1 := by
  have h1 : ¬ x.toNatClampNeg = 0 := fun e => h (by
    have h2 : ¬ x < 0 := fun q => hi (Or.inl q)
    rw [Int32.lt_iff_toInt_lt] at h2
    have h3 : x.toInt = 0 := by
      have : x.toNatClampNeg = x.toInt.toNat := rfl
      have h0 : (0 : Int32).toInt = 0 := rfl
      omega
    exact Int32.toInt_inj.mp h3)
  unfold imf
  rw [if_neg h1]
  rfl
theorem sw_look {x : Int32} {d : Int} : ∀ (l : List (Int × Int)), (∀ q ∈ l, ¬ x = Int32.ofInt q.1) → Op.lookupswitch.offset l d x.toInt = d
  | [], _ => rfl
  | (a, o) :: r, h => by
    rw [Op.lookupswitch.offset_cons, if_neg (fun e => h (a, o) List.mem_cons_self (by show x = Int32.ofInt a; rw [e]; exact (Int32.ofInt_toInt x).symm))]
    exact sw_look r (fun q hq => h q (List.mem_cons_of_mem _ hq))
theorem sw_out {x : Int32} {lo hi : Int} (h1 : -2147483648 ≤ lo) (h2 : hi ≤ 2147483647) (h : ∀ j : Int, lo ≤ j → j ≤ hi → ¬ x = Int32.ofInt j) : x.toInt < lo ∨ hi < x.toInt := by
  by_cases a : x.toInt < lo
  · exact Or.inl a
  · by_cases b : hi < x.toInt
    · exact Or.inr b
    · exact absurd (Int32.ofInt_toInt x).symm (h x.toInt (by omega) (by omega))
def qf (l : List Nat) : Nat → Nat := fun k => l.getD k 0
theorem vx_eqI {D : va_G} {cI cZ cT cA : ClassId} {s : State} (h : va_K D vwCl (tyz cI cZ cT ++ [(cA, .int)]) s) : cI = cA ∧ va_K D vwCl (tyz cI cZ cT) s := by
  have h1 : s.vm.findClass ("[" ++ FieldType.int.toString) = some cI := (h.2 0 (cI, .int) rfl).2
  have h2 : s.vm.findClass ("[" ++ FieldType.int.toString) = some cA := (h.2 3 (cA, .int) rfl).2
  exact ⟨Option.some.inj (h1.symm.trans h2), h.sub [0, 1, 2] rfl⟩
theorem vx_eqZ {D : va_G} {cI cZ cT cA : ClassId} {s : State} (h : va_K D vwCl (tyz cI cZ cT ++ [(cA, .boolean)]) s) : cZ = cA ∧ va_K D vwCl (tyz cI cZ cT) s := by
  have h1 : s.vm.findClass ("[" ++ FieldType.boolean.toString) = some cZ := (h.2 1 (cZ, .boolean) rfl).2
  have h2 : s.vm.findClass ("[" ++ FieldType.boolean.toString) = some cA := (h.2 3 (cA, .boolean) rfl).2
  exact ⟨Option.some.inj (h1.symm.trans h2), h.sub [0, 1, 2] rfl⟩
theorem vx_eqT {D : va_G} {cI cZ cT cA : ClassId} {s : State} (h : va_K D vwCl (tyz cI cZ cT ++ [(cA, .object "FogGuides$Tale")]) s) : cT = cA ∧ va_K D vwCl (tyz cI cZ cT) s := by
  obtain ⟨kA, comp, -, -, -, h1⟩ := (h.2 2 (cT, .object "FogGuides$Tale") rfl).2
  obtain ⟨kB, comq, -, -, -, h2⟩ := (h.2 3 (cA, .object "FogGuides$Tale") rfl).2
  exact ⟨Option.some.inj (h1.symm.trans h2), h.sub [0, 1, 2] rfl⟩
