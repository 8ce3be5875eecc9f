/-! the relation between the class's state and the reference's -/
/-- a town in numbers: T 0 0 corners, T 0 1 streets, T 0 2 guides, T 0 3 bells, T 0 4 hand; T 1 marks, T 2 and T 3 a street's ends, T 4 lengths, T 5 paces, T 6 fees, T 7 what is known, T 8 what is his, T 9 bells -/
def TOk (T : Nat → Nat → Nat) : Prop := T 0 0 ≤ 7 ∧ T 0 1 ≤ 9 ∧ T 0 2 ≤ 4 ∧ T 0 3 ≤ 8 ∧ T 0 4 ≤ 9 ∧ (∀ k, k < T 0 0 → T 1 k < 4) ∧ (∀ k, k < T 0 1 → T 2 k < T 0 0 ∧ T 3 k < T 0 0 ∧ T 2 k ≠ T 3 k ∧ 1 ≤ T 4 k ∧ T 4 k ≤ 9) ∧ (∀ k, k < T 0 2 → T 5 k ≤ 5 ∧ T 6 k ≤ 9 ∧ T 7 k < 2 ^ T 0 1 ∧ T 8 k < 2 ^ T 0 0) ∧ ∀ k, k < T 0 3 → T 9 k < 2
/-- the class's map holds T -/
def TwA (T : Nat → Nat → Nat) (nc ns ng nb hd : Int32) (mk ea eb ln pa fe kn hi bl : Nat → Int32) : Prop := nc = nI (T 0 0) ∧ ns = nI (T 0 1) ∧ ng = nI (T 0 2) ∧ nb = nI (T 0 3) ∧ hd = nI (T 0 4) ∧ (∀ k, k < T 0 0 → mk k = nI (T 1 k)) ∧ (∀ k, k < T 0 1 → ea k = nI (T 2 k) ∧ eb k = nI (T 3 k) ∧ ln k = nI (T 4 k)) ∧ (∀ k, k < T 0 2 → pa k = nI (T 5 k) ∧ fe k = nI (T 6 k) ∧ kn k = nI (T 7 k) ∧ hi k = nI (T 8 k)) ∧ ∀ k, k < T 0 3 → bl k = nI (T 9 k)
/-- the reference's town holds T -/
def TwB (T : Nat → Nat → Nat) (tw : Nat → Int32) : Prop := tw 0 = nI (T 0 0) ∧ tw 1 = nI (T 0 1) ∧ tw 2 = nI (T 0 2) ∧ tw 3 = nI (T 0 4) ∧ tw 4 = nI (T 0 3) ∧ (∀ k, k < T 0 0 → tw (6 + k) = nI (T 1 k)) ∧ (∀ k, k < T 0 1 → tw (13 + 3 * k) = nI (T 2 k) ∧ tw (14 + 3 * k) = nI (T 3 k) ∧ tw (15 + 3 * k) = nI (T 4 k)) ∧ (∀ k, k < T 0 2 → tw (40 + 4 * k) = nI (T 5 k) ∧ tw (41 + 4 * k) = nI (T 6 k) ∧ (∃ r, r < 512 ∧ tw (42 + 4 * k) = nI r ∧ r % 2 ^ T 0 1 = T 7 k) ∧ ∃ r, r < 128 ∧ tw (43 + 4 * k) = nI r ∧ r % 2 ^ T 0 0 = T 8 k) ∧ ∀ k, k < T 0 3 → tw (56 + k) = nI (T 9 k)
/-- one row of 'now': corner, minute, paid, who leads; the reference's from place o on -/
def RowS (T : Nat → Nat → Nat) (co mi pa le : Int32) (n : Nat → Int32) (o : Nat) : Prop := (∃ c, co = nI c ∧ (c < T 0 0 ∨ (T 0 0 = 0 ∧ c = 0))) ∧ (∃ k, mi = nI k ∧ k ≤ 9999) ∧ (∃ k, pa = nI k ∧ k ≤ 99999) ∧ (le = -9 ∨ ∃ g, g < T 0 2 ∧ le = nI g) ∧ n o = (if T 0 0 = 0 then -9 else co) ∧ n (o + 1) = mi ∧ n (o + 2) = pa ∧ n (o + 3) = le
/-- a tale: now, and what may be undone -/
def TaleS (T : Nat → Nat → Nat) (co mi pa le un : Int32) (cs ms ps ls : Nat → Int32) (n : Nat → Int32) (o : Nat) (un7 : Int32) (ud : Nat → Int32) (o2 : Nat) : Prop := RowS T co mi pa le n o ∧ ∃ k, k ≤ 10 ∧ un = nI k ∧ un7 = nI k ∧ ∀ j, j < k → RowS T (cs j) (ms j) (ps j) (ls j) ud (o2 + 4 * j)
def TextS (n6 n7 : Int32) (t6 t7 : Nat → Int32) : Prop := ∃ n, n ≤ 200 ∧ n6 = nI n ∧ n7 = nI n ∧ ∀ k, k < n → ∃ b, b < 256 ∧ t6 k = nI b ∧ t7 k = nI b
def FeltS (n6 n7 : Int32) (a6 a7 : Nat → Int32) (M : Nat) : Prop := ∃ n, n ≤ 6 ∧ n6 = nI n ∧ n7 = nI n ∧ ∀ k, k < n → ∃ b, b < M ∧ a6 k = nI b ∧ a7 k = nI b
def WishS (T : Nat → Nat → Nat) (n6 n7 : Int32) (a6 b6 w6 a7 b7 w7 : Nat → Int32) : Prop := ∃ n, n ≤ 4 ∧ n6 = nI n ∧ n7 = nI n ∧ ∀ k, k < n → ∃ a b w, a < T 0 0 ∧ b < T 0 0 ∧ a ≠ b ∧ w ≤ 99 ∧ a6 k = nI a ∧ b6 k = nI b ∧ w6 k = nI w ∧ a7 k = nI a ∧ b7 k = nI b ∧ w7 k = nI w
/-- an image: kept on both sides, or on none -/
def ImgS (T : Nat → Nat → Nat) (kp : Int32) (co mi pa le un : Int32) (cs ms ps ls : Nat → Int32) (kt : Nat → Int32) (o : Nat) : Prop := (kp = 0 ∧ kt o = 0) ∨ (kp = 1 ∧ kt o = 1 ∧ TaleS T co mi pa le un cs ms ps ls kt (o + 2) (kt (o + 1)) kt (o + 6))
def SimT (T : Nat → Nat → Nat) : SIMT := fun I F as J G tr =>
  TOk T ∧ TwA T (I 6) (I 7) (I 8) (I 9) (I 10) (F 2) (F 3) (F 4) (F 5) (F 6) (F 7) (F 8) (F 9) (F 10) ∧ TwB T (G 2) ∧ as = tr ∧ TextS (I 0) (J 0) (F 1) (G 0) ∧
  TaleS T (I 18) (I 19) (I 20) (I 21) (I 22) (F 20) (F 21) (F 22) (F 23) (G 3) 0 (J 5) (G 4) 0 ∧
  ImgS T (F 0 0) (I 31) (I 32) (I 33) (I 34) (I 35) (F 34) (F 35) (F 36) (F 37) (G 22) 0 ∧
  ImgS T (F 0 1) (I 36) (I 37) (I 38) (I 39) (I 40) (F 38) (F 39) (F 40) (F 41) (G 22) 46 ∧
  FeltS (I 26) (J 7) (F 26) (G 12) 4 ∧ FeltS (I 27) (J 8) (F 27) (G 13) (T 0 0) ∧
  WishS T (I 28) (J 9) (F 30) (F 31) (F 32) (G 18) (G 19) (G 20)
def Sim : SIMT := fun I F as J G tr => ∃ T, SimT T I F as J G tr
/-! the calls that only look a thing up or count -/
theorem st_type : St_type Sim := by
  intro I F as J G tr x1 h
  obtain ⟨T, hO, h6, h7, ha, ⟨n, hn, e6, e7, ht⟩, r1, r2, r3, r4, r5, r6⟩ := h
  unfold f_X6_type f_X7_type
  rw [rng6 x1 255 255 rfl, in7n x1 0 255 0 255 rfl rfl]
  simp only [Option.bind_some, b01i, e6, e7]
  by_cases h : 0 ≤ x1.toInt ∧ x1.toInt ≤ 255
  · rw [if_pos h, if_pos h]
    unfold f_X2_put
    rw [show (200 : Int32) = nI 200 from rfl, ltE (by omega) (by decide), eqE (by omega) (by decide)]
    obtain ⟨b, hb, rfl⟩ : ∃ b : Nat, b < 256 ∧ x1 = nI b := of_in h.1 (by omega)
    by_cases hf : n < 200
    · rw [if_pos hf, if_neg (by omega), xb_nI _ hf (by decide), xb_nI _ hf (by decide), cl n (by omega), show nI n + 1 = nI (n + 1) from nI_add n 1]
      refine ⟨_, _, rfl, rfl, rfl, T, hO, h6, h7, ha, ⟨n + 1, by omega, rfl, rfl, ?_⟩, r1, r2, r3, r4, r5, r6⟩
      intro k hk
      show ∃ c, c < 256 ∧ upd (F 1) n (nI b) k = nI c ∧ upd (G 0) n (nI b) k = nI c
      unfold upd
      by_cases e : k = n
      · exact ⟨b, hb, by rw [if_pos e], by rw [if_pos e]⟩
      · rw [if_neg e, if_neg e]
        exact ht k (by omega)
    · rw [if_neg hf, if_pos (by omega)]
      exact ⟨_, _, rfl, rfl, rfl, T, hO, h6, h7, ha, ⟨n, hn, rfl, rfl, ht⟩, r1, r2, r3, r4, r5, r6⟩
  · rw [if_neg h, if_neg h]
    exact ⟨_, _, rfl, rfl, rfl, T, hO, h6, h7, ha, ⟨n, hn, rfl, rfl, ht⟩, r1, r2, r3, r4, r5, r6⟩
theorem st_clear : St_clear Sim := by
  intro I F as J G tr h
  obtain ⟨T, hO, h6, h7, ha, ⟨n, hn, e6, e7, ht⟩, r⟩ := h
  exact ⟨_, _, rfl, rfl, by rw [e6, e7], T, hO, h6, h7, ha, ⟨0, by omega, rfl, rfl, fun k hk => by omega⟩, r⟩
theorem st_trace : St_trace Sim := by
  intro I F as J G tr h
  obtain ⟨T, hO, h6, h7, ha, r⟩ := h
  exact ⟨_, _, rfl, rfl, ha, T, hO, h6, h7, ha, r⟩
theorem hasC6 {n : Nat} (hn : n < 2 ^ 31) (x : Int32) : f_X4_hasCorner (nI n) x = some (if 0 ≤ x.toInt ∧ x.toInt < n then (1 : Int32) else 0) := by
  unfold f_X4_hasCorner
  simp only [Int32.lt_iff_toInt_lt, Int32.le_iff_toInt_le, tl n hn, show (0 : Int32).toInt = 0 from rfl]
  split
  · rw [if_neg (by omega)]
  · split
    · rw [if_neg (by omega)]
    · rw [if_pos (by omega)]
theorem hasS6 {n : Nat} (hn : n < 2 ^ 31) (x : Int32) : f_X4_hasStreet (nI n) x = some (if 0 ≤ x.toInt ∧ x.toInt < n then (1 : Int32) else 0) := hasC6 hn x
theorem hasG6 {n : Nat} (hn : n < 2 ^ 31) (x : Int32) : f_X4_hasGuide (nI n) x = some (if 0 ≤ x.toInt ∧ x.toInt < n then (1 : Int32) else 0) := hasC6 hn x
theorem hi7 {n : Nat} (hn : n < 2 ^ 30) : ((nI n - 1).toInt64).toInt = (n : Int) - 1 := by
  rw [Int32.toInt_toInt64]
  exact pk_sub_toInt (a := n) (b := 1) hn (by decide)
theorem isC7 {tw : Nat → Int32} {n : Nat} (h : tw 0 = nI n) (hn : n < 2 ^ 30) (x : Int32) : f_X7_isCorner tw x = some (if 0 ≤ x.toInt ∧ x.toInt < n then (1 : Int32) else 0) := by
  unfold f_X7_isCorner
  rw [xb_l (by decide), show ((0 : Int32).toNatClampNeg) = 0 from rfl, h, in7x, hi7 hn]
  simp only [Option.bind_some, xz_b]
  congr 1
  by_cases c : 0 ≤ x.toInt ∧ x.toInt < n
  · rw [if_pos c, if_pos ⟨c.1, by omega⟩]
  · rw [if_neg c, if_neg (fun q => c ⟨q.1, by have := q.2; omega⟩)]
