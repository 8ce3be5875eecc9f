/-! numbers of the pure functions -/
theorem xb_nI {α : Type} {i n : Nat} (k : Option α) (h : i < n) (hn : n < 2 ^ 31) : xb (nI i) n k = k := by
  unfold xb
  rw [if_neg (nI_in h hn)]
theorem xb_l {α : Type} {i : Int32} {n : Nat} {k : Option α} (h : ¬ (i < 0 ∨ n ≤ i.toNatClampNeg)) : xb i n k = k := by
  unfold xb
  rw [if_neg h]
theorem xz_b {α : Type} {p : Prop} [Decidable p] {k : Option α} : xz (if p then 1 else 0) k = k := by
  unfold xz
  split <;> simp
theorem xz_1 {α : Type} {k : Option α} : xz (1 : Int32) k = k := by
  unfold xz
  simp
theorem xz_0 {α : Type} {k : Option α} : xz (0 : Int32) k = k := by
  unfold xz
  simp
theorem xd_nI {α : Type} {d : Nat} (k : Option α) (h0 : 0 < d) (hd : d < 2 ^ 31) : xd (nI d) k = k := by
  unfold xd
  rw [if_neg (nI_ne0 h0 hd)]
theorem b01 {p : Prop} [Decidable p] : ((if p then (1 : Int32) else 0) = 0) ↔ ¬ p := by
  split <;> simp [*]
theorem in7 (a b c : Int64) : f_X7_in a b c = some (if b.toInt ≤ a.toInt ∧ a.toInt ≤ c.toInt then (1 : Int32) else 0) := by
  unfold f_X7_in
  simp only [lg_cmp_lt, lg_cmp_gt, Int64.lt_iff_toInt_lt]
  split
  · rw [if_neg (by omega)]
  · split
    · rw [if_neg (by omega)]
    · rw [if_pos (by omega)]
theorem in7x (x : Int32) (lo hi : Int64) : f_X7_in x.toInt64 lo hi = some (if lo.toInt ≤ x.toInt ∧ x.toInt ≤ hi.toInt then (1 : Int32) else 0) := by
  rw [in7, Int32.toInt_toInt64]
/-- an int within 0 .. n - 1 is a number -/
theorem of_in {x : Int32} {n : Nat} (h0 : 0 ≤ x.toInt) (h1 : x.toInt < n) : ∃ j : Nat, j < n ∧ x = nI j := by
  refine ⟨x.toInt.toNat, by omega, ?_⟩
  have hx : x.toInt < 2 ^ 31 := Int32.toInt_lt x
  apply Int32.toInt_inj.mp
  rw [nI_toInt (by omega)]
  omega
theorem tl (n : Nat) (h : n < 2 ^ 31) : (nI n).toInt = n := nI_toInt h
theorem cl (n : Nat) (h : n < 2 ^ 31) : (nI n).toNatClampNeg = n := nI_clamp h
theorem lit (n : Nat) : (OfNat.ofNat n : Int32) = nI n := rfl
theorem rng6 {α : Type} (x M : Int32) (m : Int) (hM : M.toInt = m) (A B : α) : (if x < 0 then A else (if x ≤ M then B else A)) = if 0 ≤ x.toInt ∧ x.toInt ≤ m then B else A := by
  simp only [Int32.lt_iff_toInt_lt, Int32.le_iff_toInt_le, hM, show (0 : Int32).toInt = 0 from rfl]
  split
  · rw [if_neg (by omega)]
  · split
    · rw [if_pos (by omega)]
    · rw [if_neg (by omega)]
theorem rngL {α : Type} (x L M : Int32) (l m : Int) (hL : L.toInt = l) (hM : M.toInt = m) (A B : α) : (if x < L then A else (if x ≤ M then B else A)) = if l ≤ x.toInt ∧ x.toInt ≤ m then B else A := by
  simp only [Int32.lt_iff_toInt_lt, Int32.le_iff_toInt_le, hM, hL]
  split
  · rw [if_neg (by omega)]
  · split
    · rw [if_pos (by omega)]
    · rw [if_neg (by omega)]
theorem in7n (x : Int32) (L M : Int64) (l m : Int) (hL : L.toInt = l) (hM : M.toInt = m) : f_X7_in x.toInt64 L M = some (if l ≤ x.toInt ∧ x.toInt ≤ m then (1 : Int32) else 0) := by
  rw [in7x, hL, hM]
theorem b01i {α : Type} {p : Prop} [Decidable p] (A B : α) : (if (if p then (1 : Int32) else 0) = 0 then A else B) = if p then B else A := by
  by_cases h : p <;> simp [h]
theorem ltE {α : Type} {a b : Nat} (ha : a < 2 ^ 31) (hb : b < 2 ^ 31) (A B : α) : (if nI a < nI b then A else B) = if a < b then A else B := by
  by_cases h : a < b
  · rw [if_pos h, if_pos (nI_lt h hb)]
  · rw [if_neg h, if_neg (nI_nlt (by omega) ha)]
theorem leE {α : Type} {a b : Nat} (ha : a < 2 ^ 31) (hb : b < 2 ^ 31) (A B : α) : (if nI a ≤ nI b then A else B) = if a ≤ b then A else B := by
  by_cases h : a ≤ b
  · rw [if_pos h, if_pos (nI_le h hb)]
  · rw [if_neg h, if_neg (nI_ge (by omega) ha)]
theorem eqE {α : Type} {a b : Nat} (ha : a < 2 ^ 31) (hb : b < 2 ^ 31) (A B : α) : (if nI a = nI b then A else B) = if a = b then A else B := by
  by_cases h : a = b
  · rw [if_pos h, if_pos (by rw [h])]
  · rw [if_neg h, if_neg (fun e => h ((nI_eq ha hb).mp e))]
/-- the bit of a number -/
theorem bitE {a k : Nat} (ha : a < 2 ^ 31) (hk : k < 31) : (nI a >>> (nI k &&& 31)) &&& 1 = if a.testBit k then 1 else 0 := by
  have hs : ∀ n, n < 32 → ((nI n &&& 31).toBitVec.smod 32).toNat = n := by decide +kernel
  rw [pk_shrN ha _ k (hs k (by omega)), pk_andN (k := 1) (by have := Nat.div_le_self a (2 ^ k); omega) (by decide), Nat.testBit_eq_decide_div_mod_eq]
  rcases Nat.mod_two_eq_zero_or_one (a / 2 ^ k) with h | h
  · simp [h]; rfl
  · simp [h]; rfl
theorem oneShl {k : Nat} (hk : k < 31) : (1 : Int32) <<< (nI k &&& 31) = nI (2 ^ k) := by
  have hs : ∀ n, n < 32 → ((nI n &&& 31).toBitVec.smod 32).toNat = n := by decide +kernel
  have := pk_shlN (n := 1) (nI k &&& 31) k (hs k (by omega)) (by have : 2 ^ k < 2 ^ 32 := Nat.pow_lt_pow_right (by decide) (by omega); omega)
  rw [Nat.one_mul] at this
  exact this
theorem maskE {r k : Nat} (hr : r < 2 ^ 32) (hk : k < 31) : nI r &&& ((1 : Int32) <<< (nI k &&& 31) - 1) = nI (r % 2 ^ k) := by
  rw [oneShl hk]
  have h1 : nI (2 ^ k) - 1 = nI (2 ^ k - 1) := pk_sub (a := 2 ^ k) (b := 1) (Nat.one_le_two_pow)
  rw [h1]
  exact pk_andN hr k (pk_tn (by have : 2 ^ k < 2 ^ 32 := Nat.pow_lt_pow_right (by decide) (by omega); omega))
