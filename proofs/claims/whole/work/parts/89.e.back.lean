/-! leaves, undo, keep, back -/
def cpR (src : Nat → Int32) (a b : Nat) : Nat → Nat → (Nat → Int32) → (Nat → Int32)
  | 0, _, dst => dst
  | d + 1, x, dst => cpR src a b d (x + 1) (upd dst (b + x) (src (a + x)))
theorem cpR_at {src : Nat → Int32} {a b : Nat} : ∀ (d x : Nat) (dst : Nat → Int32) (j : Nat), cpR src a b d x dst j = if b + x ≤ j ∧ j < b + x + d then src (a + (j - b)) else dst j := by
  intro d
  induction d with
  | zero =>
    intro x dst j
    rw [if_neg (by omega)]
    rfl
  | succ d ih =>
    intro x dst j
    show cpR src a b d (x + 1) (upd dst (b + x) (src (a + x))) j = _
    rw [ih]
    unfold upd
    by_cases h1 : j = b + x
    · rw [if_neg (by omega), if_pos h1, if_pos (by omega), h1, show b + x - b = x by omega]
    · by_cases h2 : b + (x + 1) ≤ j ∧ j < b + (x + 1) + d
      · rw [if_pos h2, if_pos (by omega)]
      · rw [if_neg h2, if_neg h1, if_neg (by omega)]
theorem cp_loop {R : Type} (L : Nat → (Nat → Int32) → Int32 → Option R) (E : (Nat → Int32) → Option R) (src : Nat → Int32) (a b N : Nat) (hs : ∀ (n x : Nat) (dst : Nat → Int32), x < N → L (n + 1) dst (nI x) = L n (upd dst (b + x) (src (a + x))) (nI (x + 1))) (he : ∀ (n : Nat) (dst : Nat → Int32), L (n + 1) dst (nI N) = E dst) : ∀ (d x n : Nat) (dst : Nat → Int32), x + d = N → d < n → L n dst (nI x) = E (cpR src a b d x dst) := by
  intro d
  induction d with
  | zero =>
    intro x n dst hx hn
    obtain ⟨k, rfl⟩ : ∃ k, n = k + 1 := ⟨n - 1, by omega⟩
    rw [show x = N by omega, he]
    rfl
  | succ d ih =>
    intro x n dst hx hn
    obtain ⟨k, rfl⟩ : ∃ k, n = k + 1 := ⟨n - 1, by omega⟩
    rw [hs k x dst (by omega), ih (x + 1) k _ (by omega) (by omega)]
    rfl
theorem st_leaves : St_leaves Sim := by
  intro I F as J G tr h
  obtain ⟨T, hO, h6, h7, ha, r1, h8, r3, r4, r5, r6, r7⟩ := h
  have h8' := h8
  obtain ⟨hr, k, hk, u6, u7, hj⟩ := h8
  obtain ⟨hc, hm, hp, hl, n0, n1, n2, n3⟩ := hr
  obtain ⟨un', cs', ms', ps', ls', ud', e6, e7, hrows⟩ := tale_note h8'
  have q4 : ∀ {α : Type} (A : Option α), xb (3 : Int32) 4 A = A := fun A => xb_l (by decide)
  by_cases hx : I 21 = -9
  · have q6 : f_X6_leaves (I 18) (I 19) (I 20) (I 21) (I 22) (F 20) (F 21) (F 22) (F 23) = some (-2, I 18, I 19, I 20, I 21, I 22, F 20, F 21, F 22, F 23) := by
      unfold f_X6_leaves
      rw [if_pos hx]
    have q7 : f_X7_leaves 50 (G 3) (G 4) (J 5) = some (-2, G 3, G 4, J 5) := by
      unfold f_X7_leaves
      rw [q4, show ((3 : Int32).toNatClampNeg) = 3 from rfl, if_pos (n3.trans hx)]
    exact ⟨_, 50, _, q6, q7, rfl, T, hO, h6, h7, ha, r1, h8', r3, r4, r5, r6, r7⟩
  · have q6 : f_X6_leaves (I 18) (I 19) (I 20) (I 21) (I 22) (F 20) (F 21) (F 22) (F 23) = some (I 21, I 18, I 19 + 0, I 20 + 0, -9, un', cs', ms', ps', ls') := by
      unfold f_X6_leaves f_X1_step
      rw [if_neg hx, e6]
      rfl
    have q7 : f_X7_leaves 50 (G 3) (G 4) (J 5) = some (G 3 3, upd (G 3) 3 (-9), ud', un') := by
      unfold f_X7_leaves
      rw [e7 50 (by omega)]
      simp only [q4, show ((3 : Int32).toNatClampNeg) = 3 from rfl]
      rw [if_neg (fun e => hx (n3.symm.trans e))]
      rfl
    refine ⟨_, 50, _, q6, q7, n3.symm, T, hO, h6, h7, ha, r1, ⟨⟨hc, ?_, ?_, Or.inl rfl, n0, ?_, ?_, rfl⟩, hrows⟩, r3, r4, r5, r6, r7⟩
    · show ∃ k, I 19 + 0 = nI k ∧ k ≤ 9999
      rw [Int32.add_zero]; exact hm
    · show ∃ k, I 20 + 0 = nI k ∧ k ≤ 99999
      rw [Int32.add_zero]; exact hp
    · show G 3 1 = I 19 + 0
      rw [Int32.add_zero]; exact n1
    · show G 3 2 = I 20 + 0
      rw [Int32.add_zero]; exact n2
theorem undo22 {fu n u : Nat} {now ud : Nat → Int32} (hn : 4 < n) (hu : u ≤ 9) : f_X7_undo_L22 fu n now ud (nI u) 0 = some (nI u, cpR ud (4 * u) 0 4 0 now, nI u) := by
  refine cp_loop (fun n dst x => f_X7_undo_L22 fu n dst ud (nI u) x) (fun dst => some (nI u, dst, nI u)) ud (4 * u) 0 4 ?_ ?_ 4 0 n now rfl hn
  · intro n x dst hx
    show f_X7_undo_L22b fu (f_X7_undo_L22 fu n) dst ud (nI u) (nI x) = _
    unfold f_X7_undo_L22b
    rw [show (4 : Int32) = nI 4 from rfl, leE (by decide) (by omega), if_neg (by omega), pk_mul, nI_add, xb_nI _ (by omega) (by decide), xb_nI _ hx (by decide), cl _ (by omega), cl _ (by omega), show nI x + 1 = nI (x + 1) from nI_add x 1, Nat.zero_add]
  · intro n dst
    show f_X7_undo_L22b fu (f_X7_undo_L22 fu n) dst ud (nI u) (nI 4) = _
    unfold f_X7_undo_L22b
    rw [if_pos (by decide)]
theorem st_undo : St_undo Sim := by
  intro I F as J G tr h
  obtain ⟨T, hO, h6, h7, ha, r1, h8, r3, r4, r5, r6, r7⟩ := h
  have h8' := h8
  obtain ⟨hr, k, hk, u6, u7, hj⟩ := h8
  by_cases hz : k = 0
  · have q6 : f_X6_undo (I 18) (I 19) (I 20) (I 21) (I 22) (F 20) (F 21) (F 22) (F 23) = some (-2, I 18, I 19, I 20, I 21, I 22) := by
      unfold f_X6_undo f_X1_takeBack
      rw [u6, hz, if_neg (by decide)]
      rfl
    have q7 : f_X7_undo 50 (G 3) (G 4) (J 5) = some (-2, G 3, J 5) := by
      unfold f_X7_undo
      rw [u7, hz, if_pos (by decide)]
    exact ⟨_, 50, _, q6, q7, rfl, T, hO, h6, h7, ha, r1, h8', r3, r4, r5, r6, r7⟩
  · obtain ⟨m, rfl⟩ : ∃ m, k = m + 1 := ⟨k - 1, by omega⟩
    have q6 : f_X6_undo (I 18) (I 19) (I 20) (I 21) (I 22) (F 20) (F 21) (F 22) (F 23) = some (nI m, F 20 m, F 21 m, F 22 m, F 23 m, nI m) := by
      unfold f_X6_undo f_X1_takeBack
      rw [u6, show (1 : Int32) = nI 1 from rfl, leE (by decide) (by omega), if_pos (by omega), pk_sub (by omega), show m + 1 - 1 = m from rfl]
      simp only [xb_nI _ (show m < 10 by omega) (show 10 < 2 ^ 31 by decide), cl m (show m < 2 ^ 31 by omega)]
      rfl
    have q7 : f_X7_undo 50 (G 3) (G 4) (J 5) = some (nI m, cpR (G 4) (4 * m) 0 4 0 (G 3), nI m) := by
      unfold f_X7_undo
      rw [u7, if_neg (nI_ne0 (by omega) (by omega)), show nI (m + 1) - 1 = nI m from nI_pred m]
      exact undo22 (by omega) (by omega)
    have hv : ∀ i, i < 4 → cpR (G 4) (4 * m) 0 4 0 (G 3) (0 + i) = G 4 (0 + 4 * m + i) := by
      intro i hi
      rw [cpR_at, if_pos (by omega)]
      congr 1
      omega
    exact ⟨_, 50, _, q6, q7, rfl, T, hO, h6, h7, ha, r1, ⟨(hj m (by omega)).same (hv 0 (by omega)) (hv 1 (by omega)) (hv 2 (by omega)) (hv 3 (by omega)), m, by omega, rfl, rfl, fun j hj' => hj j (by omega)⟩, r3, r4, r5, r6, r7⟩
theorem cpy10 (f g : Nat → Int32) {j : Nat} (hj : j < 10) : va_cpy f g (0 : Int32).toNatClampNeg (0 : Int32).toNatClampNeg (10 : Int32).toNatClampNeg j = f j := by
  show (if 0 ≤ j ∧ j < 0 + 10 then f (0 + (j - 0)) else g j) = f j
  rw [if_pos ⟨by omega, by omega⟩, Nat.zero_add, Nat.sub_zero]
def cp10 (f g : Nat → Int32) : Nat → Int32 := va_cpy f g (0 : Int32).toNatClampNeg (0 : Int32).toNatClampNeg (10 : Int32).toNatClampNeg
theorem become6 (co mi pa le un oc om op ol ou : Int32) (cs ms ps ls os1 os2 os3 os4 : Nat → Int32) : f_X1_become co mi pa le un cs ms ps ls oc om op ol ou os1 os2 os3 os4 = some (oc, om, op, ol, ou, cp10 os1 cs, cp10 os2 ms, cp10 os3 ps, cp10 os4 ls) := by
  unfold f_X1_become
  have hy : ∀ A : Option R_X1_become, xy (0 : Int32) (0 : Int32) (10 : Int32) 10 10 A = A := by
    intro A
    unfold xy
    rw [if_neg (by decide)]
  rw [hy, hy, hy, hy]
  rfl
/-- a tale's copy is the same tale -/
theorem TaleS.copy {T : Nat → Nat → Nat} {co mi pa le un un7 un7' : Int32} {cs ms ps ls c2 m2 p2 l2 n ud n' ud' : Nat → Int32} {o o2 p p2o : Nat} (h : TaleS T co mi pa le un cs ms ps ls n o un7 ud o2) (hn : ∀ i, i < 4 → n' (p + i) = n (o + i)) (hu : un7' = un7) (hd : ∀ j, j < 40 → ud' (p2o + j) = ud (o2 + j)) : TaleS T co mi pa le un (cp10 cs c2) (cp10 ms m2) (cp10 ps p2) (cp10 ls l2) n' p un7' ud' p2o := by
  obtain ⟨hr, k, hk, u6, u7, hj⟩ := h
  refine ⟨hr.same (hn 0 (by omega)) (hn 1 (by omega)) (hn 2 (by omega)) (hn 3 (by omega)), k, hk, u6, hu.trans u7, fun j hj' => ?_⟩
  unfold cp10
  rw [cpy10 _ _ (by omega), cpy10 _ _ (by omega), cpy10 _ _ (by omega), cpy10 _ _ (by omega)]
  have hv : ∀ i, i < 4 → ud' (p2o + 4 * j + i) = ud (o2 + 4 * j + i) := by
    intro i hi
    have := hd (4 * j + i) (by omega)
    rw [show p2o + 4 * j + i = p2o + (4 * j + i) by omega, show o2 + 4 * j + i = o2 + (4 * j + i) by omega]
    exact this
  exact (hj j hj').same (hv 0 (by omega)) (hv 1 (by omega)) (hv 2 (by omega)) (hv 3 (by omega))
theorem ImgS.same {T : Nat → Nat → Nat} {kp co mi pa le un : Int32} {cs ms ps ls kt kt' : Nat → Int32} {o : Nat} (h : ImgS T kp co mi pa le un cs ms ps ls kt o) (hk : ∀ j, o ≤ j → j < o + 46 → kt' j = kt j) : ImgS T kp co mi pa le un cs ms ps ls kt' o := by
  rcases h with ⟨h1, h2⟩ | ⟨h1, h2, hr, k, hk1, u6, u7, hj⟩
  · exact Or.inl ⟨h1, (hk o (by omega) (by omega)).trans h2⟩
  · refine Or.inr ⟨h1, (hk o (by omega) (by omega)).trans h2, hr.same (hk _ (by omega) (by omega)) (hk _ (by omega) (by omega)) (hk _ (by omega) (by omega)) (hk _ (by omega) (by omega)), k, hk1, u6, (hk _ (by omega) (by omega)).trans u7, fun j hj' => (hj j hj').same (hk _ (by omega) (by omega)) (hk _ (by omega) (by omega)) (hk _ (by omega) (by omega)) (hk _ (by omega) (by omega))⟩
theorem keep67 {fu n o : Nat} {now ud kt : Nat → Int32} {un : Int32} (hn : 40 < n) (ho : o ≤ 46) : f_X7_keep_L67 fu n now ud un kt (nI o) 0 = some (now 1, cpR ud 0 (o + 6) 40 0 kt) := by
  refine cp_loop (fun n dst x => f_X7_keep_L67 fu n now ud un dst (nI o) x) (fun dst => some (now 1, dst)) ud 0 (o + 6) 40 ?_ ?_ 40 0 n kt rfl hn
  · intro n x dst hx
    show f_X7_keep_L67b fu (f_X7_keep_L67 fu n) now ud un dst (nI o) (nI x) = _
    unfold f_X7_keep_L67b
    rw [show (40 : Int32) = nI 40 from rfl, leE (by decide) (by omega), if_neg (by omega), xb_nI _ hx (by decide), show nI o + 6 = nI (o + 6) from nI_add o 6, nI_add, xb_nI _ (by omega) (by decide), cl _ (by omega), cl _ (by omega), show nI x + 1 = nI (x + 1) from nI_add x 1, Nat.zero_add]
  · intro n dst
    show f_X7_keep_L67b fu (f_X7_keep_L67 fu n) now ud un dst (nI o) (nI 40) = _
    unfold f_X7_keep_L67b
    rw [if_pos (by decide), xb_l (by decide)]
    rfl
theorem keep38 {fu n o : Nat} {now ud kt : Nat → Int32} {un : Int32} (hf : 50 ≤ fu) (hn : 4 < n) (ho : o ≤ 46) : f_X7_keep_L38 fu n now ud un kt (nI o) 0 = some (now 1, cpR ud 0 (o + 6) 40 0 (cpR now 0 (o + 2) 4 0 kt)) := by
  refine cp_loop (fun n dst x => f_X7_keep_L38 fu n now ud un dst (nI o) x) (fun dst => some (now 1, cpR ud 0 (o + 6) 40 0 dst)) now 0 (o + 2) 4 ?_ ?_ 4 0 n kt rfl hn
  · intro n x dst hx
    show f_X7_keep_L38b fu (f_X7_keep_L38 fu n) now ud un dst (nI o) (nI x) = _
    unfold f_X7_keep_L38b
    rw [show (4 : Int32) = nI 4 from rfl, leE (by decide) (by omega), if_neg (by omega), xb_nI _ hx (by decide), show nI o + 2 = nI (o + 2) from nI_add o 2, nI_add, xb_nI _ (by omega) (by decide), cl _ (by omega), cl _ (by omega), show nI x + 1 = nI (x + 1) from nI_add x 1, Nat.zero_add]
  · intro n dst
    show f_X7_keep_L38b fu (f_X7_keep_L38 fu n) now ud un dst (nI o) (nI 4) = _
    unfold f_X7_keep_L38b
    rw [if_pos (by decide), keep67 (by omega) ho]
theorem back72 {fu n o : Nat} {now ud kt : Nat → Int32} {un : Int32} (hn : 40 < n) (ho : o ≤ 46) : f_X7_back_L72 fu n now ud un kt (nI o) 0 = some (now 1, now, cpR kt (o + 6) 0 40 0 ud, un) := by
  refine cp_loop (fun n dst x => f_X7_back_L72 fu n now dst un kt (nI o) x) (fun dst => some (now 1, now, dst, un)) kt (o + 6) 0 40 ?_ ?_ 40 0 n ud rfl hn
  · intro n x dst hx
    show f_X7_back_L72b fu (f_X7_back_L72 fu n) now dst un kt (nI o) (nI x) = _
    unfold f_X7_back_L72b
    rw [show (40 : Int32) = nI 40 from rfl, leE (by decide) (by omega), if_neg (by omega), show nI o + 6 = nI (o + 6) from nI_add o 6, nI_add, xb_nI _ (by omega) (by decide), xb_nI _ hx (by decide), cl _ (by omega), cl _ (by omega), show nI x + 1 = nI (x + 1) from nI_add x 1, Nat.zero_add]
  · intro n dst
    show f_X7_back_L72b fu (f_X7_back_L72 fu n) now dst un kt (nI o) (nI 40) = _
    unfold f_X7_back_L72b
    rw [if_pos (by decide), xb_l (by decide)]
    rfl
theorem back43 {fu n o : Nat} {now ud kt : Nat → Int32} {un : Int32} (hf : 50 ≤ fu) (hn : 4 < n) (ho : o ≤ 46) : f_X7_back_L43 fu n now ud un kt (nI o) 0 = some (cpR kt (o + 2) 0 4 0 now 1, cpR kt (o + 2) 0 4 0 now, cpR kt (o + 6) 0 40 0 ud, un) := by
  refine cp_loop (fun n dst x => f_X7_back_L43 fu n dst ud un kt (nI o) x) (fun dst => some (dst 1, dst, cpR kt (o + 6) 0 40 0 ud, un)) kt (o + 2) 0 4 ?_ ?_ 4 0 n now rfl hn
  · intro n x dst hx
    show f_X7_back_L43b fu (f_X7_back_L43 fu n) dst ud un kt (nI o) (nI x) = _
    unfold f_X7_back_L43b
    rw [show (4 : Int32) = nI 4 from rfl, leE (by decide) (by omega), if_neg (by omega), show nI o + 2 = nI (o + 2) from nI_add o 2, nI_add, xb_nI _ (by omega) (by decide), xb_nI _ hx (by decide), cl _ (by omega), cl _ (by omega), show nI x + 1 = nI (x + 1) from nI_add x 1, Nat.zero_add]
  · intro n dst
    show f_X7_back_L43b fu (f_X7_back_L43 fu n) dst ud un kt (nI o) (nI 4) = _
    unfold f_X7_back_L43b
    rw [if_pos (by decide), back72 (by omega) ho]
theorem rng2 {α : Type} (x : Int32) (A B : α) : (if x < 0 then A else (if x < 2 then B else A)) = if 0 ≤ x.toInt ∧ x.toInt ≤ 1 then B else A := by
  simp only [Int32.lt_iff_toInt_lt, show (0 : Int32).toInt = 0 from rfl, show (2 : Int32).toInt = 2 from rfl]
  split
  · rw [if_neg (by omega)]
  · split
    · rw [if_pos (by omega)]
    · rw [if_neg (by omega)]
/-- what 'keep' leaves in the reference's row -/
def ktN (kt now ud : Nat → Int32) (un : Int32) (o : Nat) : Nat → Int32 := cpR ud 0 (o + 6) 40 0 (cpR now 0 (o + 2) 4 0 (upd (upd kt o 1) (o + 1) un))
theorem ktN_out {kt now ud : Nat → Int32} {un : Int32} {o j : Nat} (h : j < o ∨ o + 46 ≤ j) : ktN kt now ud un o j = kt j := by
  unfold ktN
  rw [cpR_at, if_neg (by omega), cpR_at, if_neg (by omega)]
  unfold upd
  rw [if_neg (by omega), if_neg (by omega)]
theorem ktN_img {T : Nat → Nat → Nat} {co mi pa le un un7 : Int32} {cs ms ps ls c2 m2 p2 l2 now ud kt : Nat → Int32} {o : Nat} (h : TaleS T co mi pa le un cs ms ps ls now 0 un7 ud 0) : ImgS T 1 co mi pa le un (cp10 cs c2) (cp10 ms m2) (cp10 ps p2) (cp10 ls l2) (ktN kt now ud un7 o) o := by
  refine Or.inr ⟨rfl, ?_, h.copy (fun i hi => ?_) ?_ (fun j hj => ?_)⟩
  · unfold ktN
    rw [cpR_at, if_neg (by omega), cpR_at, if_neg (by omega)]
    unfold upd
    rw [if_neg (by omega), if_pos rfl]
  · unfold ktN
    rw [cpR_at, if_neg (by omega), cpR_at, if_pos (by omega)]
    congr 1
    omega
  · unfold ktN
    rw [cpR_at, if_neg (by omega), cpR_at, if_neg (by omega)]
    unfold upd
    rw [if_pos rfl]
  · unfold ktN
    rw [cpR_at, if_pos (by omega)]
    congr 1
    omega
theorem keep7 {w : Nat} {now ud kt : Nat → Int32} {un : Int32} (hw : w < 2) : f_X7_keep 50 now ud un kt (nI w) = some (now 1, ktN kt now ud un (46 * w)) := by
  unfold f_X7_keep
  rw [in7n (nI w) 0 1 0 1 rfl rfl]
  simp only [Option.bind_some, b01i]
  rw [if_pos (by rw [tl w (by omega)]; omega), show (46 : Int32) = nI 46 from rfl, pk_mul, xb_nI _ (by omega) (by decide), show nI (46 * w) + 1 = nI (46 * w + 1) from nI_add _ 1, xb_nI _ (by omega) (by decide), cl _ (by omega), cl _ (by omega)]
  exact keep38 (by omega) (by omega) (by omega)
theorem st_keep : St_keep Sim := by
  intro I F as J G tr x1 h
  obtain ⟨T, hO, h6, h7, ha, r1, h8, r3, r4, r5⟩ := h
  have n1 : G 3 1 = I 19 := h8.1.2.2.2.2.2.1
  have nb : vp_nar .boolean 1 = 1 := by decide +kernel
  by_cases hx : 0 ≤ x1.toInt ∧ x1.toInt ≤ 1
  · obtain ⟨w, hw, rfl⟩ : ∃ w : Nat, w < 2 ∧ x1 = nI w := of_in (by omega) (by omega)
    have q7 := keep7 (now := G 3) (ud := G 4) (kt := G 22) (un := J 5) hw
    have q2 : ∀ {α : Type} (A : Option α), xb (nI w) 2 A = A := fun A => xb_nI A hw (by decide)
    rcases (show w = 0 ∨ w = 1 by omega) with rfl | rfl
    · have q6 : f_X6_keep (F 0) (I 18) (I 19) (I 20) (I 21) (I 22) (F 20) (F 21) (F 22) (F 23) (I 31) (I 32) (I 33) (I 34) (I 35) (F 34) (F 35) (F 36) (F 37) (I 36) (I 37) (I 38) (I 39) (I 40) (F 38) (F 39) (F 40) (F 41) (nI 0) = some (I 19, upd (F 0) 0 1, I 18, I 19, I 20, I 21, I 22, cp10 (F 20) (F 34), cp10 (F 21) (F 35), cp10 (F 22) (F 36), cp10 (F 23) (F 37), I 36, I 37, I 38, I 39, I 40, F 38, F 39, F 40, F 41) := by
        unfold f_X6_keep
        rw [rng2, if_pos hx, become6, become6]
        simp only [q2, Option.bind_some, cl 0 (show 0 < 2 ^ 31 by decide), nb]
        rw [if_pos (show nI 0 = 0 from rfl)]
      refine ⟨_, 50, _, q6, q7, n1.symm, T, hO, h6, h7, ha, r1, h8, ktN_img h8, ?_, r5⟩
      show ImgS T (upd (F 0) 0 1 1) _ _ _ _ _ _ _ _ _ _ _
      exact r4.same (fun j h1 h2 => ktN_out (by omega))
    · have q6 : f_X6_keep (F 0) (I 18) (I 19) (I 20) (I 21) (I 22) (F 20) (F 21) (F 22) (F 23) (I 31) (I 32) (I 33) (I 34) (I 35) (F 34) (F 35) (F 36) (F 37) (I 36) (I 37) (I 38) (I 39) (I 40) (F 38) (F 39) (F 40) (F 41) (nI 1) = some (I 19, upd (F 0) 1 1, I 31, I 32, I 33, I 34, I 35, F 34, F 35, F 36, F 37, I 18, I 19, I 20, I 21, I 22, cp10 (F 20) (F 38), cp10 (F 21) (F 39), cp10 (F 22) (F 40), cp10 (F 23) (F 41)) := by
        unfold f_X6_keep
        rw [rng2, if_pos hx, become6, become6]
        simp only [q2, Option.bind_some, cl 1 (show 1 < 2 ^ 31 by decide), nb]
        rw [if_neg (show ¬ nI 1 = 0 by decide)]
      refine ⟨_, 50, _, q6, q7, n1.symm, T, hO, h6, h7, ha, r1, h8, ?_, ktN_img h8, r5⟩
      show ImgS T (upd (F 0) 1 1 0) _ _ _ _ _ _ _ _ _ _ _
      exact r3.same (fun j h1 h2 => ktN_out (by omega))
  · have q6 : f_X6_keep (F 0) (I 18) (I 19) (I 20) (I 21) (I 22) (F 20) (F 21) (F 22) (F 23) (I 31) (I 32) (I 33) (I 34) (I 35) (F 34) (F 35) (F 36) (F 37) (I 36) (I 37) (I 38) (I 39) (I 40) (F 38) (F 39) (F 40) (F 41) x1 = some (-1, F 0, I 31, I 32, I 33, I 34, I 35, F 34, F 35, F 36, F 37, I 36, I 37, I 38, I 39, I 40, F 38, F 39, F 40, F 41) := by
      unfold f_X6_keep
      rw [rng2, if_neg hx]
    have q7 : f_X7_keep 50 (G 3) (G 4) (J 5) (G 22) x1 = some (-1, G 22) := by
      unfold f_X7_keep
      rw [in7n x1 0 1 0 1 rfl rfl]
      simp only [Option.bind_some, b01i]
      rw [if_neg hx]
    exact ⟨_, 50, _, q6, q7, rfl, T, hO, h6, h7, ha, r1, h8, r3, r4, r5⟩
