/-! which corners lie beside one another; went -/
theorem fa_and (a b : Nat) : nI a &&& nI b = nI (a &&& b) := by
  apply Int32.toBitVec_inj.1
  show BitVec.ofNat 32 a &&& BitVec.ofNat 32 b = BitVec.ofNat 32 (a &&& b)
  apply BitVec.eq_of_getLsbD_eq
  intro i hi
  simp [hi]
theorem fa_or (a b : Nat) : nI a ||| nI b = nI (a ||| b) := by
  apply Int32.toBitVec_inj.1
  show BitVec.ofNat 32 a ||| BitVec.ofNat 32 b = BitVec.ofNat 32 (a ||| b)
  apply BitVec.eq_of_getLsbD_eq
  intro i hi
  simp [hi]
theorem or_lt7 {a k : Nat} (ha : a < 128) (hk : k < 7) : a ||| 2 ^ k < 128 := by
  have : 2 ^ k < 2 ^ 7 := Nat.pow_lt_pow_right (by decide) hk
  exact Nat.or_lt_two_pow (n := 7) ha this
/-- the street s leads from a to d -/
def nb1 (T : Nat → Nat → Nat) (a d s : Nat) : Bool := decide ((T 2 s = a ∨ T 3 s = a) ∧ (if T 2 s = a then T 3 s else T 2 s) = d)
def besR (T : Nat → Nat → Nat) (a d : Nat) : Nat → Nat → Bool
  | _, 0 => false
  | x, n + 1 => nb1 T a d x || besR T a d (x + 1) n
/-- a and d lie beside one another -/
def Bes (T : Nat → Nat → Nat) (a d : Nat) : Bool := besR T a d 0 (T 0 1)
section BES
variable {T : Nat → Nat → Nat} {nc ns ng nb hd : Int32} {mk ea eb ln pa fe kn hi bl tw : Nat → Int32}
theorem next4 (hO : TOk T) (h6 : TwA T nc ns ng nb hd mk ea eb ln pa fe kn hi bl) {c fu : Nat} (hc : c < 2 ^ 31) : ∀ (d x n m : Nat), x + d = T 0 1 → d < n → m < 128 → ∃ m', m' < 128 ∧ f_X4_nextTo_L4 fu n ns ea eb (nI c) (nI m) (nI x) = some (nI m') ∧ ∀ i, m'.testBit i = (m.testBit i || besR T c i x d) := by
  intro d
  induction d with
  | zero =>
    intro x n m hx hn hm
    obtain ⟨k, rfl⟩ : ∃ k, n = k + 1 := ⟨n - 1, by omega⟩
    refine ⟨m, hm, ?_, fun i => by show _ = (m.testBit i || false); rw [Bool.or_false]⟩
    show f_X4_nextTo_L4b fu (f_X4_nextTo_L4 fu k) ns ea eb (nI c) (nI m) (nI x) = _
    unfold f_X4_nextTo_L4b
    have := hO.2.1
    rw [h6.2.1, leE (by omega) (by omega), if_pos (by omega)]
  | succ d ih =>
    intro x n m hx hn hm
    obtain ⟨k, rfl⟩ : ∃ k, n = k + 1 := ⟨n - 1, by omega⟩
    have o1 := hO.1
    have o2 := hO.2.1
    have os := hO.2.2.2.2.2.2.1 x (by omega)
    have hst : f_X4_nextTo_L4 fu (k + 1) ns ea eb (nI c) (nI m) (nI x) = if T 2 x = c ∨ T 3 x = c then f_X4_nextTo_L4 fu k ns ea eb (nI c) (nI (m ||| 2 ^ (if T 2 x = c then T 3 x else T 2 x))) (nI (x + 1)) else f_X4_nextTo_L4 fu k ns ea eb (nI c) (nI m) (nI (x + 1)) := by
      show f_X4_nextTo_L4b fu (f_X4_nextTo_L4 fu k) ns ea eb (nI c) (nI m) (nI x) = _
      unfold f_X4_nextTo_L4b
      rw [at6 hO h6 (by omega) hc, acr6 hO h6 (by omega) hc, show nI x + 1 = nI (x + 1) from nI_add x 1]
      rw [show (if ns ≤ nI x then (some (nI m) : Option R_X4_nextTo) else _) = _ from if_neg (by rw [h6.2.1]; exact nI_ge (by omega) (by omega))]
      simp only [Option.bind_some, b01i]
      rw [oneShl (by split <;> omega), fa_or]
    by_cases h : T 2 x = c ∨ T 3 x = c
    · obtain ⟨m', h1, h2, h3⟩ := ih (x + 1) k (m ||| 2 ^ (if T 2 x = c then T 3 x else T 2 x)) (by omega) (by omega) (or_lt7 hm (by split <;> omega))
      refine ⟨m', h1, by rw [hst, if_pos h]; exact h2, fun i => ?_⟩
      rw [h3, Nat.testBit_or, Nat.testBit_two_pow]
      show _ = (m.testBit i || (nb1 T c i x || besR T c i (x + 1) d))
      unfold nb1
      rw [Bool.or_assoc]
      congr 2
      simp [h]
    · obtain ⟨m', h1, h2, h3⟩ := ih (x + 1) k m (by omega) (by omega) hm
      refine ⟨m', h1, by rw [hst, if_neg h]; exact h2, fun i => ?_⟩
      rw [h3]
      show _ = (m.testBit i || (nb1 T c i x || besR T c i (x + 1) d))
      unfold nb1
      simp [h]
theorem nextTo6 (hO : TOk T) (h6 : TwA T nc ns ng nb hd mk ea eb ln pa fe kn hi bl) {c fu : Nat} (hc : c < 2 ^ 31) (hf : 10 ≤ fu) : ∃ m, m < 128 ∧ f_X4_nextTo fu ns ea eb (nI c) = some (nI m) ∧ ∀ i, m.testBit i = Bes T c i := by
  have := hO.2.1
  obtain ⟨m, h1, h2, h3⟩ := next4 hO h6 (fu := fu) hc (T 0 1) 0 fu 0 (by omega) (by omega) (by omega)
  exact ⟨m, h1, h2, fun i => by rw [h3, Nat.zero_testBit, Bool.false_or]; rfl⟩
theorem bes5 (hO : TOk T) (h7 : TwB T tw) {a c fu : Nat} (ha : a < 2 ^ 31) (hc : c < 2 ^ 31) : ∀ (d x n : Nat) (b : Bool), x + d = T 0 1 → d < n → f_X7_areBeside_L5 fu n tw (nI a) (nI c) (bi b) (nI x) = some (bi (b || besR T a c x d)) := by
  intro d
  induction d with
  | zero =>
    intro x n b hx hn
    obtain ⟨k, rfl⟩ : ∃ k, n = k + 1 := ⟨n - 1, by omega⟩
    have o2 := hO.2.1
    show f_X7_areBeside_L5b fu (f_X7_areBeside_L5 fu k) tw (nI a) (nI c) (bi b) (nI x) = _
    unfold f_X7_areBeside_L5b
    rw [xb_l (by decide), show ((1 : Int32).toNatClampNeg) = 1 from rfl, h7.2.1, leE (by omega) (by omega), if_pos (by omega)]
    unfold bi
    rw [xz_b]
    show _ = some (if (b || false) = true then (1 : Int32) else 0)
    rw [Bool.or_false]
  | succ d ih =>
    intro x n b hx hn
    obtain ⟨k, rfl⟩ : ∃ k, n = k + 1 := ⟨n - 1, by omega⟩
    have o1 := hO.1
    have o2 := hO.2.1
    have os := hO.2.2.2.2.2.2.1 x (by omega)
    show f_X7_areBeside_L5b fu (f_X7_areBeside_L5 fu k) tw (nI a) (nI c) (bi b) (nI x) = _
    unfold f_X7_areBeside_L5b
    rw [xb_l (by decide), show ((1 : Int32).toNatClampNeg) = 1 from rfl, h7.2.1, leE (by omega) (by omega), if_neg (by omega), bi0, over7 hO h7 (by omega) ha, show nI x + 1 = nI (x + 1) from nI_add x 1]
    simp only [Option.bind_some]
    have h0 := ih (x + 1) k false (by omega) (by omega)
    have h1 := ih (x + 1) k true (by omega) (by omega)
    have hnb : ((if T 2 x = a ∨ T 3 x = a then nI (if T 2 x = a then T 3 x else T 2 x) else -9) = nI c) ↔ nb1 T a c x = true := by
      unfold nb1
      by_cases h : T 2 x = a ∨ T 3 x = a
      · rw [if_pos h, nI_eq (by split <;> omega) hc]
        simp [h]
      · rw [if_neg h]
        simp only [h, false_and, decide_false]
        exact ⟨fun e => absurd e.symm (neg9 hc), fun e => by cases e⟩
    show (if b = true then f_X7_areBeside_L5 fu k tw (nI a) (nI c) (bi true) (nI (x + 1)) else (if (if T 2 x = a ∨ T 3 x = a then nI (if T 2 x = a then T 3 x else T 2 x) else -9) = nI c then f_X7_areBeside_L5 fu k tw (nI a) (nI c) (bi true) (nI (x + 1)) else f_X7_areBeside_L5 fu k tw (nI a) (nI c) (bi false) (nI (x + 1)))) = some (bi (b || (nb1 T a c x || besR T a c (x + 1) d)))
    rw [h0, h1]
    cases b
    · by_cases e : nb1 T a c x = true
      · rw [if_neg (by decide), if_pos (hnb.mpr e), e]
        rfl
      · rw [if_neg (by decide), if_neg (fun q => e (hnb.mp q))]
        simp [e]
    · rfl
theorem beside7 (hO : TOk T) (h7 : TwB T tw) {a c fu : Nat} (ha : a < 2 ^ 31) (hc : c < 2 ^ 31) (hf : 10 ≤ fu) : f_X7_areBeside fu tw (nI a) (nI c) = some (bi (Bes T a c)) := by
  have := hO.2.1
  exact bes5 hO h7 ha hc (T 0 1) 0 fu false (by omega) (by omega)
end BES
theorem st_went : St_went Sim := by
  intro I F as J G tr x1 h
  obtain ⟨T, hO, h6, h7, ha, r1, r2, r3, r4, r5, ⟨n, hn, e6, e7, ht⟩, r6⟩ := h
  have hold : Sim I F as J G tr := ⟨T, hO, h6, h7, ha, r1, r2, r3, r4, r5, ⟨n, hn, e6, e7, ht⟩, r6⟩
  have o1 := hO.1
  by_cases hx : 0 ≤ x1.toInt ∧ x1.toInt < T 0 0
  · obtain ⟨c, hc, rfl⟩ := of_in hx.1 hx.2
    have j6 : f_X6_went_J47 50 (I 6) (I 7) (F 3) (F 4) (I 27) (F 27) (nI c) = if n < 6 then some (nI (n + 1), nI (n + 1), upd (F 27) n (nI c)) else some (-3, I 27, F 27) := by
      unfold f_X6_went_J47 f_X3_addCorner
      rw [e6, show (6 : Int32) = nI 6 from rfl, ltE (by omega) (by decide)]
      by_cases hf : n < 6
      · rw [if_pos hf, if_pos hf, xb_nI _ hf (by decide), cl n (by omega), show nI n + 1 = nI (n + 1) from nI_add n 1]
        rfl
      · rw [if_neg hf, if_neg hf]
        rfl
    have j7 : f_X7_went_J39 50 (G 2) (J 8) (G 13) (nI c) = if n < 6 then some (nI (n + 1), nI (n + 1), upd (G 13) n (nI c)) else some (-3, J 8, G 13) := by
      unfold f_X7_went_J39
      rw [e7, show (6 : Int32) = nI 6 from rfl, eqE (by omega) (by decide)]
      by_cases hf : n < 6
      · rw [if_neg (by omega), if_pos hf, xb_nI _ hf (by decide), cl n (by omega), show nI n + 1 = nI (n + 1) from nI_add n 1]
      · rw [if_pos (by omega), if_neg hf]
    have fin : ∀ (b : Bool), f_X6_went 50 (I 6) (I 7) (F 3) (F 4) (I 27) (F 27) (nI c) = (if b then f_X6_went_J47 50 (I 6) (I 7) (F 3) (F 4) (I 27) (F 27) (nI c) else some (-2, I 27, F 27)) → f_X7_went 50 (G 2) (J 8) (G 13) (nI c) = (if b then f_X7_went_J39 50 (G 2) (J 8) (G 13) (nI c) else some (-2, J 8, G 13)) → ∃ (fu : Nat) (r : R_X6_went) (fv : Nat) (v : R_X7_went), f_X6_went fu (I 6) (I 7) (F 3) (F 4) (I 27) (F 27) (nI c) = some r ∧ f_X7_went fv (G 2) (J 8) (G 13) (nI c) = some v ∧ r.1 = v.1 ∧ Sim (qi [I 0, I 1, I 2, I 3, I 4, I 5, I 6, I 7, I 8, I 9, I 10, I 11, I 12, I 13, I 14, I 15, I 16, I 17, I 18, I 19, I 20, I 21, I 22, I 23, I 24, I 25, I 26, r.2.1, I 28, I 29, I 30, I 31, I 32, I 33, I 34, I 35, I 36, I 37, I 38, I 39, I 40]) (qF [F 0, F 1, F 2, F 3, F 4, F 5, F 6, F 7, F 8, F 9, F 10, F 11, F 12, F 13, F 14, F 15, F 16, F 17, F 18, F 19, F 20, F 21, F 22, F 23, F 24, F 25, F 26, r.2.2, F 28, F 29, F 30, F 31, F 32, F 33, F 34, F 35, F 36, F 37, F 38, F 39, F 40, F 41]) as (qi [J 0, J 1, J 2, J 3, J 4, J 5, J 6, J 7, v.2.1, J 9]) (qF [G 0, G 1, G 2, G 3, G 4, G 5, G 6, G 7, G 8, G 9, G 10, G 11, G 12, v.2.2, G 14, G 15, G 16, G 17, G 18, G 19, G 20, G 21, G 22]) tr := by
      intro b q6 q7
      cases b
      · exact ⟨50, _, 50, _, q6, q7, rfl, T, hO, h6, h7, ha, r1, r2, r3, r4, r5, ⟨n, hn, e6, e7, ht⟩, r6⟩
      · rw [if_pos rfl, j6] at q6
        rw [if_pos rfl, j7] at q7
        by_cases hf : n < 6
        · rw [if_pos hf] at q6 q7
          refine ⟨50, _, 50, _, q6, q7, rfl, T, hO, h6, h7, ha, r1, r2, r3, r4, r5, ⟨n + 1, by omega, rfl, rfl, fun k hk => ?_⟩, r6⟩
          show ∃ b, b < T 0 0 ∧ upd (F 27) n (nI c) k = nI b ∧ upd (G 13) n (nI c) k = nI b
          unfold upd
          by_cases e : k = n
          · exact ⟨c, hc, by rw [if_pos e], by rw [if_pos e]⟩
          · rw [if_neg e, if_neg e]
            exact ht k (by omega)
        · rw [if_neg hf] at q6 q7
          exact ⟨50, _, 50, _, q6, q7, rfl, T, hO, h6, h7, ha, r1, r2, r3, r4, r5, ⟨n, hn, e6, e7, ht⟩, r6⟩
    by_cases z : n = 0
    · refine fin true ?_ ?_
      · rw [if_pos rfl]
        unfold f_X6_went
        rw [show f_X4_hasCorner (I 6) (nI c) = some (if 0 ≤ (nI c).toInt ∧ (nI c).toInt < T 0 0 then 1 else 0) from by rw [h6.1]; exact hasC6 (by omega) _]
        simp only [Option.bind_some, b01i]
        rw [if_pos hx, if_pos (by rw [e6, z]; decide)]
      · rw [if_pos rfl]
        unfold f_X7_went
        rw [isC7 h7.1 (by omega)]
        simp only [Option.bind_some, b01i]
        rw [if_pos hx, if_pos (by rw [e7, z]; decide)]
    · obtain ⟨a, hac, ea6, ea7⟩ := ht (n - 1) (by omega)
      obtain ⟨m, hm, em, hbit⟩ := nextTo6 hO h6 (c := a) (fu := 50) (by omega) (by omega)
      refine fin (Bes T a c) ?_ ?_
      · unfold f_X6_went f_X3_lastWalked
        rw [show f_X4_hasCorner (I 6) (nI c) = some (if 0 ≤ (nI c).toInt ∧ (nI c).toInt < T 0 0 then 1 else 0) from by rw [h6.1]; exact hasC6 (by omega) _]
        simp only [Option.bind_some, b01i]
        rw [if_pos hx, if_neg (by rw [e6]; exact nI_nle (by omega) (by omega)), if_neg (by rw [e6]; exact nI_nle (by omega) (by omega)), show I 27 - 1 = nI (n - 1) from by rw [e6]; exact pk_sub (b := 1) (by omega), xb_nI _ (by omega) (by decide), cl _ (by omega), ea6]
        simp only [Option.bind_some]
        rw [em]
        simp only [Option.bind_some]
        rw [bit0 (by omega) (by omega), hbit]
      · unfold f_X7_went
        rw [isC7 h7.1 (by omega)]
        simp only [Option.bind_some, b01i]
        rw [if_pos hx, if_neg (by rw [e7]; exact nI_nle (by omega) (by omega)), show J 8 - 1 = nI (n - 1) from by rw [e7]; exact pk_sub (b := 1) (by omega), xb_nI _ (by omega) (by decide), cl _ (by omega), ea7, beside7 hO h7 (by omega) (by omega) (by omega)]
        simp only [Option.bind_some, bi0]
  · have q6 : f_X6_went 50 (I 6) (I 7) (F 3) (F 4) (I 27) (F 27) x1 = some (-1, I 27, F 27) := by
      unfold f_X6_went
      rw [h6.1, hasC6 (by omega)]
      simp only [Option.bind_some, b01i]
      rw [if_neg hx]
    have q7 : f_X7_went 50 (G 2) (J 8) (G 13) x1 = some (-1, J 8, G 13) := by
      unfold f_X7_went
      rw [isC7 h7.1 (by omega)]
      simp only [Option.bind_some, b01i]
      rw [if_neg hx]
    exact ⟨50, _, 50, _, q6, q7, rfl, T, hO, h6, h7, ha, r1, r2, r3, r4, r5, ⟨n, hn, e6, e7, ht⟩, r6⟩
