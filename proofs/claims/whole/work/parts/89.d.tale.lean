/-! what is done, and undone -/
theorem n45_step {fu n u k : Nat} {now ud : Nat → Int32} (hk : k < 4) (hu : u ≤ 9) : f_X7_notes_L45 fu (n + 1) now ud (nI u) (nI k) = f_X7_notes_L45 fu n now (upd ud (4 * u + k) (now k)) (nI u) (nI (k + 1)) := by
  show f_X7_notes_L45b fu (f_X7_notes_L45 fu n) now ud (nI u) (nI k) = _
  unfold f_X7_notes_L45b
  rw [show (4 : Int32) = nI 4 from rfl, leE (by decide) (by omega), if_neg (by omega), xb_nI _ hk (by decide), pk_mul, nI_add, xb_nI _ (by omega) (by decide), cl _ (by omega), cl _ (by omega), show nI k + 1 = nI (k + 1) from nI_add k 1]
theorem n45_end {fu n u : Nat} {now ud : Nat → Int32} : f_X7_notes_L45 fu (n + 1) now ud (nI u) (nI 4) = some (ud, nI (u + 1)) := by
  show f_X7_notes_L45b fu (f_X7_notes_L45 fu n) now ud (nI u) (nI 4) = _
  unfold f_X7_notes_L45b
  rw [if_pos (by decide), show nI u + 1 = nI (u + 1) from nI_add u 1]
def put4 (ud : Nat → Int32) (u : Nat) (now : Nat → Int32) : Nat → Int32 := upd (upd (upd (upd ud (4 * u + 0) (now 0)) (4 * u + 1) (now 1)) (4 * u + 2) (now 2)) (4 * u + 3) (now 3)
theorem put4_at {ud now : Nat → Int32} {u i : Nat} (hi : i < 4) : put4 ud u now (4 * u + i) = now i := by
  unfold put4 upd
  rcases (show i = 0 ∨ i = 1 ∨ i = 2 ∨ i = 3 by omega) with rfl | rfl | rfl | rfl
  · rw [if_neg (by omega), if_neg (by omega), if_neg (by omega), if_pos rfl]
  · rw [if_neg (by omega), if_neg (by omega), if_pos rfl]
  · rw [if_neg (by omega), if_pos rfl]
  · rw [if_pos rfl]
theorem put4_ne {ud now : Nat → Int32} {u j : Nat} (hj : j < 4 * u) : put4 ud u now j = ud j := by
  unfold put4 upd
  rw [if_neg (by omega), if_neg (by omega), if_neg (by omega), if_neg (by omega)]
theorem n45 {fu n u : Nat} {now ud : Nat → Int32} (hn : 5 ≤ n) (hu : u ≤ 9) : f_X7_notes_L45 fu n now ud (nI u) 0 = some (put4 ud u now, nI (u + 1)) := by
  obtain ⟨m, rfl⟩ : ∃ m, n = m + 5 := ⟨n - 5, by omega⟩
  show f_X7_notes_L45 fu (m + 4 + 1) now ud (nI u) (nI 0) = _
  rw [n45_step (by omega) hu, n45_step (by omega) hu, n45_step (by omega) hu, n45_step (by omega) hu, n45_end]
  rfl
def sh4 (ud : Nat → Int32) (m : Nat) : Nat → Int32 := fun j => if j + 4 < m then ud (j + 4) else ud j
theorem n11 {fu : Nat} {now ud : Nat → Int32} {u : Int32} : ∀ (d m n : Nat), m + d = 40 → 4 ≤ m → d < n → f_X7_notes_L11 fu n now (sh4 ud m) u (nI m) = f_X7_notes_L45 fu fu now (sh4 ud 40) 9 0 := by
  intro d
  induction d with
  | zero =>
    intro m n hm h4 hn
    obtain ⟨k, rfl⟩ : ∃ k, n = k + 1 := ⟨n - 1, by omega⟩
    show f_X7_notes_L11b fu (f_X7_notes_L11 fu k) now (sh4 ud m) u (nI m) = _
    unfold f_X7_notes_L11b
    rw [show m = 40 by omega, if_pos (by decide)]
  | succ d ih =>
    intro m n hm h4 hn
    obtain ⟨k, rfl⟩ : ∃ k, n = k + 1 := ⟨n - 1, by omega⟩
    show f_X7_notes_L11b fu (f_X7_notes_L11 fu k) now (sh4 ud m) u (nI m) = _
    unfold f_X7_notes_L11b
    rw [show (40 : Int32) = nI 40 from rfl, leE (by decide) (by omega), if_neg (by omega), xb_nI _ (by omega) (by decide), show nI m - 4 = nI (m - 4) from pk_sub (b := 4) h4, xb_nI _ (by omega) (by decide), cl _ (by omega), cl _ (by omega), show nI m + 1 = nI (m + 1) from nI_add m 1]
    have e : upd (sh4 ud m) (m - 4) (sh4 ud m m) = sh4 ud (m + 1) := by
      funext j
      unfold upd sh4
      by_cases h1 : j = m - 4
      · subst h1
        rw [if_pos rfl, if_neg (by omega), if_pos (by omega), show m - 4 + 4 = m by omega]
      · rw [if_neg h1]
        by_cases h2 : j + 4 < m
        · rw [if_pos h2, if_pos (by omega)]
        · rw [if_neg h2, if_neg (by omega)]
    rw [e]
    exact ih (m + 1) k (by omega) (by omega) (by omega)
theorem sh4_4 (ud : Nat → Int32) : sh4 ud 4 = ud := by
  funext j
  unfold sh4
  rw [if_neg (by omega)]
theorem notes7 {fu k : Nat} {now ud : Nat → Int32} (hf : 50 ≤ fu) (hk : k ≤ 10) : f_X7_notes fu now ud (nI k) = if k < 10 then some (put4 ud k now, nI (k + 1)) else some (put4 (sh4 ud 40) 9 now, nI 10) := by
  unfold f_X7_notes
  rw [show (10 : Int32) = nI 10 from rfl, eqE (by omega) (by decide)]
  by_cases h : k < 10
  · rw [if_neg (by omega), if_pos h, n45 (by omega) (by omega)]
  · rw [if_pos (by omega), if_neg h]
    have := n11 (fu := fu) (now := now) (ud := ud) (u := nI k) 36 4 fu (by omega) (by omega) (by omega)
    rw [sh4_4] at this
    rw [show (4 : Int32) = nI 4 from rfl, this]
    exact n45 (u := 9) (by omega) (by omega)
/-- a row is shifted by one -/
def sh1 (f : Nat → Int32) : Nat → Int32 := fun j => if j < 9 then f (1 + j) else f j
theorem cpy1 (f : Nat → Int32) : va_cpy f f (1 : Int32).toNatClampNeg (0 : Int32).toNatClampNeg (9 : Int32).toNatClampNeg = sh1 f := by
  funext j
  show (if 0 ≤ j ∧ j < 0 + 9 then f (1 + (j - 0)) else f j) = if j < 9 then f (1 + j) else f j
  by_cases h : j < 9
  · rw [if_pos ⟨by omega, by omega⟩, if_pos h, Nat.sub_zero]
  · rw [if_neg (fun q => h (by omega)), if_neg h]
theorem rem6 {k : Nat} (hk : k ≤ 10) (co mi pa le : Int32) (cs ms ps ls : Nat → Int32) : f_X1_remember co mi pa le (nI k) cs ms ps ls = if k < 10 then some (nI (k + 1), upd cs k co, upd ms k mi, upd ps k pa, upd ls k le) else some (nI 10, upd (sh1 cs) 9 co, upd (sh1 ms) 9 mi, upd (sh1 ps) 9 pa, upd (sh1 ls) 9 le) := by
  have J : ∀ (k : Nat) (cs ms ps ls : Nat → Int32), k < 10 → f_X1_remember_J13 co mi pa le (nI k) cs ms ps ls = some (nI (k + 1), upd cs k co, upd ms k mi, upd ps k pa, upd ls k le) := by
    intro k cs ms ps ls h
    unfold f_X1_remember_J13
    simp only [xb_nI _ h (show 10 < 2 ^ 31 by decide), cl k (show k < 2 ^ 31 by omega), show nI k + 1 = nI (k + 1) from nI_add k 1]
  unfold f_X1_remember
  rw [show (10 : Int32) = nI 10 from rfl, ltE (by omega) (by decide)]
  by_cases h : k < 10
  · rw [if_pos h, if_pos h, J k _ _ _ _ h]
  · rw [if_neg h, if_neg h]
    unfold f_X1_loseOldest
    simp only [cpy1]
    have hy : ∀ A : Option R_X1_loseOldest, xy (1 : Int32) (0 : Int32) (9 : Int32) 10 10 A = A := by
      intro A
      unfold xy
      rw [if_neg (by decide)]
    rw [hy, hy, hy, hy]
    simp only [Option.bind_some]
    exact J 9 _ _ _ _ (by omega)
theorem RowS.same {T : Nat → Nat → Nat} {co mi pa le : Int32} {n n' : Nat → Int32} {o o' : Nat} (h : RowS T co mi pa le n o) (h0 : n' o' = n o) (h1 : n' (o' + 1) = n (o + 1)) (h2 : n' (o' + 2) = n (o + 2)) (h3 : n' (o' + 3) = n (o + 3)) : RowS T co mi pa le n' o' := by
  obtain ⟨a, b, c, d, e0, e1, e2, e3⟩ := h
  exact ⟨a, b, c, d, h0.trans e0, h1.trans e1, h2.trans e2, h3.trans e3⟩
/-- what is noted on both sides -/
theorem tale_note {T : Nat → Nat → Nat} {co mi pa le un un7 : Int32} {cs ms ps ls now ud : Nat → Int32} (h : TaleS T co mi pa le un cs ms ps ls now 0 un7 ud 0) : ∃ (un' : Int32) (cs' ms' ps' ls' ud' : Nat → Int32), f_X1_remember co mi pa le un cs ms ps ls = some (un', cs', ms', ps', ls') ∧ (∀ fu, 50 ≤ fu → f_X7_notes fu now ud un7 = some (ud', un')) ∧ ∃ k, k ≤ 10 ∧ un' = nI k ∧ un' = nI k ∧ ∀ j, j < k → RowS T (cs' j) (ms' j) (ps' j) (ls' j) ud' (0 + 4 * j) := by
  obtain ⟨hr, k, hk, rfl, rfl, hj⟩ := h
  rw [rem6 hk]
  by_cases h : k < 10
  · rw [if_pos h]
    refine ⟨_, _, _, _, _, _, rfl, fun fu hf => by rw [notes7 hf hk, if_pos h], k + 1, by omega, rfl, rfl, fun j hj' => ?_⟩
    by_cases e : j = k
    · subst e
      unfold upd
      rw [if_pos rfl, if_pos rfl, if_pos rfl, if_pos rfl, Nat.zero_add]
      exact hr.same (put4_at (i := 0) (by omega)) (put4_at (i := 1) (by omega)) (put4_at (i := 2) (by omega)) (put4_at (i := 3) (by omega))
    · unfold upd
      rw [if_neg e, if_neg e, if_neg e, if_neg e]
      exact (hj j (by omega)).same (put4_ne (by omega)) (put4_ne (by omega)) (put4_ne (by omega)) (put4_ne (by omega))
  · rw [if_neg h]
    refine ⟨_, _, _, _, _, _, rfl, fun fu hf => by rw [notes7 hf hk, if_neg h], 10, by omega, rfl, rfl, fun j hj' => ?_⟩
    by_cases e : j = 9
    · subst e
      unfold upd
      rw [if_pos rfl, if_pos rfl, if_pos rfl, if_pos rfl, Nat.zero_add]
      exact hr.same (put4_at (i := 0) (by omega)) (put4_at (i := 1) (by omega)) (put4_at (i := 2) (by omega)) (put4_at (i := 3) (by omega))
    · unfold upd sh1
      rw [if_neg e, if_neg e, if_neg e, if_neg e, if_pos (by omega), if_pos (by omega), if_pos (by omega), if_pos (by omega)]
      have hs : ∀ i, i < 4 → put4 (sh4 ud 40) 9 now (0 + 4 * j + i) = ud (0 + 4 * (1 + j) + i) := by
        intro i hi
        rw [put4_ne (by omega)]
        unfold sh4
        rw [if_pos (by omega)]
        congr 1
        omega
      exact (hj (1 + j) (by omega)).same (hs 0 (by omega)) (hs 1 (by omega)) (hs 2 (by omega)) (hs 3 (by omega))
theorem st_waits : St_waits Sim := by
  intro I F as J G tr x1 h
  obtain ⟨T, hO, h6, h7, ha, r1, h8, r3, r4, r5, r6, r7⟩ := h
  have h8' := h8
  obtain ⟨hr, k, hk, u6, u7, hj⟩ := h8
  obtain ⟨⟨c, ec, hc⟩, ⟨mm, em, hm⟩, hp, hl, n0, n1, n2, n3⟩ := hr
  obtain ⟨un', cs', ms', ps', ls', ud', e6, e7, hrows⟩ := tale_note h8'
  by_cases hx : 1 ≤ x1.toInt ∧ x1.toInt ≤ 99
  · obtain ⟨w, hw, rfl⟩ : ∃ w : Nat, w < 100 ∧ x1 = nI w := of_in (by omega) (by omega)
    have hw1 : 1 ≤ w := by have := hx.1; rw [tl w (by omega)] at this; omega
    by_cases hh : mm + w ≤ 9999
    · have q6 : f_X6_waits (I 18) (I 19) (I 20) (I 21) (I 22) (F 20) (F 21) (F 22) (F 23) (nI w) = some (nI (mm + w), I 18, nI (mm + w), I 20 + 0, I 21, un', cs', ms', ps', ls') := by
        unfold f_X6_waits f_X1_step
        rw [rngL (nI w) 1 99 1 99 rfl rfl, if_pos hx, e6, em, nI_add, show (9999 : Int32) = nI 9999 from rfl, leE (by omega) (by decide), if_pos hh]
        rfl
      have q7 : f_X7_waits 50 (G 3) (G 4) (J 5) (nI w) = some (nI (mm + w), upd (G 3) 1 (nI (mm + w)), ud', un') := by
        unfold f_X7_waits
        rw [in7n (nI w) 1 99 1 99 rfl rfl, e7 50 (by omega)]
        simp only [Option.bind_some, b01i]
        rw [if_pos hx]
        have q4 : ∀ {α : Type} (A : Option α), xb (1 : Int32) 4 A = A := fun A => xb_l (by decide)
        simp only [q4, show ((1 : Int32).toNatClampNeg) = 1 from rfl, show G 3 1 = nI mm from n1.trans em]
        rw [nI_add, show (9999 : Int32) = nI 9999 from rfl, leE (by omega) (by decide), if_pos hh]
        rfl
      refine ⟨_, 50, _, q6, q7, rfl, T, hO, h6, h7, ha, r1, ⟨⟨⟨c, ec, hc⟩, ⟨mm + w, rfl, hh⟩, ?_, hl, ?_, rfl, ?_, ?_⟩, hrows⟩, r3, r4, r5, r6, r7⟩
      · show ∃ k, I 20 + 0 = nI k ∧ k ≤ 99999
        rw [Int32.add_zero]
        exact hp
      · exact n0
      · show G 3 2 = I 20 + 0
        rw [Int32.add_zero]
        exact n2
      · exact n3
    · have q6 : f_X6_waits (I 18) (I 19) (I 20) (I 21) (I 22) (F 20) (F 21) (F 22) (F 23) (nI w) = some (-2, I 18, I 19, I 20, I 21, I 22, F 20, F 21, F 22, F 23) := by
        unfold f_X6_waits
        rw [rngL (nI w) 1 99 1 99 rfl rfl, if_pos hx, em, nI_add, show (9999 : Int32) = nI 9999 from rfl, leE (by omega) (by decide), if_neg hh]
      have q7 : f_X7_waits 50 (G 3) (G 4) (J 5) (nI w) = some (-2, G 3, G 4, J 5) := by
        unfold f_X7_waits
        rw [in7n (nI w) 1 99 1 99 rfl rfl]
        simp only [Option.bind_some, b01i]
        rw [if_pos hx]
        have q4 : ∀ {α : Type} (A : Option α), xb (1 : Int32) 4 A = A := fun A => xb_l (by decide)
        simp only [q4, show ((1 : Int32).toNatClampNeg) = 1 from rfl, show G 3 1 = nI mm from n1.trans em]
        rw [nI_add, show (9999 : Int32) = nI 9999 from rfl, leE (by omega) (by decide), if_neg hh]
      exact ⟨_, 50, _, q6, q7, rfl, T, hO, h6, h7, ha, r1, h8', r3, r4, r5, r6, r7⟩
  · have q6 : f_X6_waits (I 18) (I 19) (I 20) (I 21) (I 22) (F 20) (F 21) (F 22) (F 23) x1 = some (-1, I 18, I 19, I 20, I 21, I 22, F 20, F 21, F 22, F 23) := by
      unfold f_X6_waits
      rw [rngL x1 1 99 1 99 rfl rfl, if_neg hx]
    have q7 : f_X7_waits 50 (G 3) (G 4) (J 5) x1 = some (-1, G 3, G 4, J 5) := by
      unfold f_X7_waits
      rw [in7n x1 1 99 1 99 rfl rfl]
      simp only [Option.bind_some, b01i]
      rw [if_neg hx]
    exact ⟨_, 50, _, q6, q7, rfl, T, hO, h6, h7, ha, r1, h8', r3, r4, r5, r6, r7⟩
