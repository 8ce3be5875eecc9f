/-! rate -/
set_option maxRecDepth 100000 in
theorem manyE : ∀ n, n < 512 → f_X7_many 50 (nI n) = f_J6_bitCount_0f7a4 (nI n) := by decide +kernel
theorem bitC_some (x : Int32) : ∃ r : Int32, f_J6_bitCount_0f7a4 x = some r := ⟨_, rfl⟩
theorem rateA_step {fu n : Nat} {as : Int64} {pa fe kn hi : Nat → Int32} {mi : Int32} {k d : Nat} {x2 : Int32} : f_X6_rateAs fu (n + 1) as pa fe kn hi mi (nI k) x2 (nI d) = f_X6_rateAsb fu (f_X6_rateAs fu n) as pa fe kn hi mi (nI k) x2 (nI d) := rfl
theorem rngG {α : Type} (x : Int32) (A B : α) : (if x < 0 then A else (if (6 : Int32) ≤ x then A else B)) = if 0 ≤ x.toInt ∧ x.toInt ≤ 5 then B else A := by
  simp only [Int32.lt_iff_toInt_lt, Int32.le_iff_toInt_le, show (0 : Int32).toInt = 0 from rfl, show (6 : Int32).toInt = 6 from rfl]
  split
  · rw [if_neg (by omega)]
  · split
    · rw [if_neg (by omega)]
    · rw [if_pos (by omega)]
/-- what 'rate' answers, and what comes to the trace -/
def rateV (k : Nat) (f p kb hb m : Int32) : Int32 := match k with
  | 0 => f
  | 1 => f + p
  | 2 => f - kb
  | 3 => 2 * (f + p)
  | 4 => f - kb + hb
  | _ => f + m
def rateT (k : Nat) : Int64 := match k with
  | 0 => 1
  | 1 => 11
  | 2 => 101
  | 3 => 1011
  | 4 => 10101
  | _ => 100001
theorem i64_add (a b c d : Int64) (h : b + c = d) : a + b + c = a + d := by rw [Int64.add_assoc, h]
theorem i64_add3 (a b c d e : Int64) (h : b + c + d = e) : a + b + c + d = a + e := by rw [Int64.add_assoc, Int64.add_assoc, ← Int64.add_assoc b c d, h]
section RATE
variable {as : Int64} {pa fe kn hi : Nat → Int32} {mi f p kb hb : Int32} {g : Nat}
theorem rate6 (hg : g < 4) (hf : fe g = f) (hp : pa g = p) (hk : f_J6_bitCount_0f7a4 (kn g) = some kb) (hh : f_J6_bitCount_0f7a4 (hi g) = some hb) {k : Nat} (hk6 : k < 6) : f_X6_rateAs 50 4 as pa fe kn hi mi (nI k) (nI g) 0 = some (rateV k f p kb hb mi, as + rateT k) := by
  have q4 : ∀ {α : Type} (A : Option α), xb (nI g) 4 A = A := fun A => xb_nI A hg (by decide)
  have L0 : ∀ (n : Nat) (as : Int64) (d : Int32), ¬ (6 : Int32) ≤ d → f_X6_rateAs 50 (n + 1) as pa fe kn hi mi 0 (nI g) d = some (f, as + 1) := by
    intro n as d hd
    show f_X6_rateAsb 50 (f_X6_rateAs 50 n) as pa fe kn hi mi 0 (nI g) d = _
    unfold f_X6_rateAsb
    rw [if_neg hd, if_neg (by decide), if_pos (by decide), xb_l (by decide), if_neg (by decide), if_neg (by decide), if_neg (by decide), if_neg (by decide), if_neg (by decide), q4, cl g (by omega), hf]
    rfl
  have L1 : ∀ (n : Nat) (as : Int64) (d : Int32), ¬ (6 : Int32) ≤ d → ¬ (6 : Int32) ≤ d + 1 → f_X6_rateAs 50 (n + 2) as pa fe kn hi mi 1 (nI g) d = some (f + p, as + 10 + 1) := by
    intro n as d hd hd1
    show f_X6_rateAsb 50 (f_X6_rateAs 50 (n + 1)) as pa fe kn hi mi 1 (nI g) d = _
    unfold f_X6_rateAsb
    rw [if_neg hd, if_neg (by decide), if_pos (by decide), xb_l (by decide), if_pos rfl, L0 n _ _ hd1]
    simp only [Option.bind_some, q4, cl g (show g < 2 ^ 31 by omega), hp]
    rfl
  have L2 : ∀ (n : Nat) (as : Int64) (d : Int32), ¬ (6 : Int32) ≤ d → ¬ (6 : Int32) ≤ d + 1 → f_X6_rateAs 50 (n + 2) as pa fe kn hi mi 2 (nI g) d = some (f - kb, as + 100 + 1) := by
    intro n as d hd hd1
    show f_X6_rateAsb 50 (f_X6_rateAs 50 (n + 1)) as pa fe kn hi mi 2 (nI g) d = _
    unfold f_X6_rateAsb
    rw [if_neg hd, if_neg (by decide), if_pos (by decide), xb_l (by decide), if_neg (by decide), if_pos rfl, L0 n _ _ hd1]
    simp only [Option.bind_some, q4, cl g (show g < 2 ^ 31 by omega), hk]
    rfl
  rcases (show k = 0 ∨ k = 1 ∨ k = 2 ∨ k = 3 ∨ k = 4 ∨ k = 5 by omega) with rfl | rfl | rfl | rfl | rfl | rfl
  · exact L0 3 as 0 (by decide)
  · rw [show f_X6_rateAs 50 4 as pa fe kn hi mi (nI 1) (nI g) 0 = _ from L1 2 as 0 (by decide) (by decide), i64_add _ _ _ 11 rfl]
    rfl
  · rw [show f_X6_rateAs 50 4 as pa fe kn hi mi (nI 2) (nI g) 0 = _ from L2 2 as 0 (by decide) (by decide), i64_add _ _ _ 101 rfl]
    rfl
  · show f_X6_rateAsb 50 (f_X6_rateAs 50 3) as pa fe kn hi mi 3 (nI g) 0 = _
    unfold f_X6_rateAsb
    rw [if_neg (by decide), if_neg (by decide), if_pos (by decide), xb_l (by decide), if_neg (by decide), if_neg (by decide), if_pos rfl, L1 1 _ _ (by decide) (by decide)]
    simp only [Option.bind_some]
    rw [i64_add3 _ _ _ _ 1011 (by decide), Int32.mul_comm]
    rfl
  · show f_X6_rateAsb 50 (f_X6_rateAs 50 3) as pa fe kn hi mi 4 (nI g) 0 = _
    unfold f_X6_rateAsb
    rw [if_neg (by decide), if_neg (by decide), if_pos (by decide), xb_l (by decide), if_neg (by decide), if_neg (by decide), if_neg (by decide), if_pos rfl, L2 1 _ _ (by decide) (by decide)]
    simp only [Option.bind_some, q4, cl g (show g < 2 ^ 31 by omega), hh]
    rw [i64_add3 _ _ _ _ 10101 (by decide)]
    rfl
  · show f_X6_rateAsb 50 (f_X6_rateAs 50 3) as pa fe kn hi mi 5 (nI g) 0 = _
    unfold f_X6_rateAsb
    rw [if_neg (by decide), if_neg (by decide), if_pos (by decide), xb_l (by decide), if_neg (by decide), if_neg (by decide), if_neg (by decide), if_neg (by decide), if_pos rfl, L0 2 _ _ (by decide)]
    simp only [Option.bind_some]
    rw [i64_add _ _ _ 100001 (by decide)]
    rfl
end RATE
theorem rate7 {T : Nat → Nat → Nat} {tw now : Nat → Int32} {tr : Int64} (hO : TOk T) (h7 : TwB T tw) {g k : Nat} (hg : g < T 0 2) (hk : k < 6) {kb hb : Int32} (e1 : f_J6_bitCount_0f7a4 (nI (T 7 g)) = some kb) (e2 : f_J6_bitCount_0f7a4 (nI (T 8 g)) = some hb) : f_X7_rate 50 tw now tr (nI k) (nI g) = some (rateV k (nI (T 6 g)) (nI (T 5 g)) kb hb (now 1), tr + rateT k) := by
  have o := hO.2.2.2.2.2.2.2.1 g hg
  have o1 := pw7 hO
  have o2 := pw9 hO
  have o3 := hO.2.2.1
  have m1 : f_X7_many 50 (nI (T 7 g)) = some kb := by rw [manyE _ (by omega)]; exact e1
  have m2 : f_X7_many 50 (nI (T 8 g)) = some hb := by rw [manyE _ (by omega)]; exact e2
  unfold f_X7_rate f_X7_rate_J84
  rw [in7n (nI k) 0 5 0 5 rfl rfl, isG7 h7.2.2.1 (by omega), fee7 hO h7 hg, pace7 hO h7 hg, known7 hO h7 hg, his7 hO h7 hg]
  simp only [Option.bind_some, b01i, m1, m2]
  rw [if_pos (by rw [tl k (by omega)]; omega), if_pos (by rw [tl g (by omega)]; omega), xb_l (by decide)]
  rcases (show k = 0 ∨ k = 1 ∨ k = 2 ∨ k = 3 ∨ k = 4 ∨ k = 5 by omega) with rfl | rfl | rfl | rfl | rfl | rfl <;> rfl
theorem st_rate : St_rate Sim := by
  intro I F as J G tr x1 x2 h
  obtain ⟨T, hO, h6, h7, ha, r1, r2, r3⟩ := h
  have o3 := hO.2.2.1
  have n1 : G 3 1 = I 19 := r2.1.2.2.2.2.2.1
  by_cases hx : (0 ≤ x1.toInt ∧ x1.toInt ≤ 5) ∧ 0 ≤ x2.toInt ∧ x2.toInt < T 0 2
  · obtain ⟨k, hk, rfl⟩ : ∃ k : Nat, k < 6 ∧ x1 = nI k := of_in hx.1.1 (by omega)
    obtain ⟨g, hg, rfl⟩ := of_in hx.2.1 hx.2.2
    obtain ⟨kb, e1⟩ := bitC_some (nI (T 7 g))
    obtain ⟨hb, e2⟩ := bitC_some (nI (T 8 g))
    have hgg := h6.2.2.2.2.2.2.2.1 g hg
    have q6 : f_X6_rate 50 as (I 8) (F 6) (F 7) (F 8) (F 9) (I 19) (nI k) (nI g) = some (rateV k (nI (T 6 g)) (nI (T 5 g)) kb hb (I 19), as + rateT k) := by
      unfold f_X6_rate
      rw [rngG, if_pos hx.1, h6.2.2.1, hasG6 (by omega), rate6 (by omega) hgg.2.1 hgg.1 (by rw [hgg.2.2.1]; exact e1) (by rw [hgg.2.2.2]; exact e2) hk]
      simp only [Option.bind_some, b01i]
      rw [if_pos hx.2]
    have q7 := rate7 (now := G 3) (tr := tr) hO h7 hg hk e1 e2
    rw [n1] at q7
    exact ⟨50, _, 50, _, q6, q7, rfl, T, hO, h6, h7, by show as + rateT k = tr + rateT k; rw [ha], r1, r2, r3⟩
  · have q6 : f_X6_rate 50 as (I 8) (F 6) (F 7) (F 8) (F 9) (I 19) x1 x2 = some (-1000000, as) := by
      unfold f_X6_rate
      rw [rngG, h6.2.2.1, hasG6 (by omega)]
      simp only [Option.bind_some, b01i]
      by_cases c : 0 ≤ x1.toInt ∧ x1.toInt ≤ 5
      · rw [if_pos c, if_neg (fun q => hx ⟨c, q⟩)]
      · rw [if_neg c]
    have q7 : f_X7_rate 50 (G 2) (G 3) tr x1 x2 = some (-1000000, tr) := by
      unfold f_X7_rate
      rw [in7n x1 0 5 0 5 rfl rfl, isG7 h7.2.2.1 (by omega)]
      simp only [Option.bind_some, b01i]
      by_cases c : 0 ≤ x1.toInt ∧ x1.toInt ≤ 5
      · rw [if_pos c, if_neg (fun q => hx ⟨c, q⟩)]
      · rw [if_neg c]
    exact ⟨50, _, 50, _, q6, q7, rfl, T, hO, h6, h7, ha, r1, r2, r3⟩
