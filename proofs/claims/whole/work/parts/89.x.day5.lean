/-! a day: class and reference -/
section DAYE
variable {T : Nat → Nat → Nat} {D6 D7 : Nat → Nat → Nat} {a b wt : Nat → Nat} {sz nc : Nat}
theorem rw_over {D : Nat → Nat → Nat} : ∀ (k pl se wh sp : Nat), rwE D a b wt sz (fun _ => 4) k pl se wh sp true = some (wh, se, sp) := by
  intro k
  induction k with
  | zero =>
    intro pl se wh sp
    rfl
  | succ k ih =>
    intro pl se wh sp
    unfold rwE
    rw [if_pos (.inl rfl), if_pos rfl]
    exact ih pl se wh sp
theorem rw_over_inv {D : Nat → Nat → Nat} {e : Nat → Nat} : ∀ (k pl se wh sp : Nat) (r : Nat × Nat × Nat), rwE D a b wt sz e k pl se wh sp true = some r → r = (wh, se, sp) := by
  intro k
  induction k with
  | zero =>
    intro pl se wh sp r h
    unfold rwE at h
    cases h
    rfl
  | succ k ih =>
    intro pl se wh sp r h
    unfold rwE at h
    rw [if_pos (.inl rfl)] at h
    split at h
    · exact ih pl se wh sp r h
    · cases h
theorem rw_congr {D : Nat → Nat → Nat} {e e' : Nat → Nat} : ∀ (k pl se wh sp : Nat) (ov : Bool), (∀ i, i < k → e i = e' i) → rwE D a b wt sz e k pl se wh sp ov = rwE D a b wt sz e' k pl se wh sp ov := by
  intro k
  induction k with
  | zero =>
    intro pl se wh sp ov h
    rfl
  | succ k ih =>
    intro pl se wh sp ov h
    unfold rwE
    rw [h k (Nat.lt_succ_self k), ih _ _ _ _ _ (fun i hi => h i (by omega)), ih _ _ _ _ _ (fun i hi => h i (by omega))]
theorem rw_mono {D : Nat → Nat → Nat} {e : Nat → Nat} : ∀ (k pl se wh sp : Nat) (ov : Bool) (r : Nat × Nat × Nat), rwE D a b wt sz e k pl se wh sp ov = some r → sp ≤ r.2.2 := by
  intro k
  induction k with
  | zero =>
    intro pl se wh sp ov r h
    unfold rwE at h
    cases h
    exact Nat.le_refl _
  | succ k ih =>
    intro pl se wh sp ov r h
    unfold rwE at h
    split at h
    · split at h
      · exact ih _ _ _ _ _ r h
      · cases h
    · split at h
      · have := ih _ _ _ _ _ r h
        omega
      · cases h
theorem rs_rw (hD : ∀ i j, i < nc → j < nc → D6 i j = D7 i j ∨ (100 ≤ D6 i j ∧ 100 ≤ D7 i j)) (hsz : sz ≤ 4) (hw : ∀ x, x < sz → a x < nc ∧ b x < nc) {N : Nat} (hN : N ≤ 99) {w' d' : Nat} : ∀ (k here sp dn wh : Nat), here < nc → sp ≤ N → Rs D6 a b wt sz k here (N - sp) dn wh w' d' → ∃ e : Nat → Nat, (∀ i, e i < 5) ∧ ∃ sp', rwE D7 a b wt sz e k here dn wh sp false = some (w', d', sp') ∧ sp' ≤ N := by
  intro k
  induction k with
  | zero =>
    intro here sp dn wh hh hs h
    obtain ⟨rfl, rfl⟩ := h
    exact ⟨fun _ => 4, fun _ => (by decide : (4 : Nat) < 5), sp, rfl, hs⟩
  | succ k ih =>
    intro here sp dn wh hh hs h
    rcases h with ⟨rfl, rfl⟩ | ⟨x, hx, hb, ht, h⟩
    · refine ⟨fun _ => 4, fun _ => (by decide : (4 : Nat) < 5), sp, ?_, hs⟩
      unfold rwE
      rw [if_pos (.inr rfl), if_pos rfl]
      exact rw_over k here d' w' sp
    · obtain ⟨w1, w2⟩ := hw x hx
      have r1 := hD here (a x) hh w1
      have r2 := hD (a x) (b x) w1 w2
      have t6 : tk D6 a b here x = D6 here (a x) + D6 (a x) (b x) := rfl
      have t7 : tk D7 a b here x = D7 here (a x) + D7 (a x) (b x) := rfl
      have tt : tk D6 a b here x = tk D7 a b here x := by omega
      rw [show N - sp - tk D6 a b here x = N - (sp + tk D7 a b here x) by omega] at h
      obtain ⟨e, h1, sp', h2, h3⟩ := ih (b x) (sp + tk D7 a b here x) (dn ||| 2 ^ x) (wh + wt x) w2 (by omega) h
      obtain ⟨e2, he2, he3⟩ : ∃ e2 : Nat → Nat, e2 k = x ∧ ∀ i, i ≠ k → e2 i = e i := ⟨fun i => if i = k then x else e i, if_pos rfl, fun i hi => if_neg hi⟩
      refine ⟨e2, fun i => ?_, sp', ?_, h3⟩
      · by_cases ei : i = k
        · rw [ei, he2]
          omega
        · rw [he3 i ei]
          exact h1 i
      · unfold rwE
        rw [he2, if_neg (by
          rintro (q | q)
          · cases q
          · omega), if_pos ⟨hx, hb⟩, ← h2]
        exact rw_congr _ _ _ _ _ _ (fun i hi => he3 i (by omega))
theorem rw_rs (hD : ∀ i j, i < nc → j < nc → D6 i j = D7 i j ∨ (100 ≤ D6 i j ∧ 100 ≤ D7 i j)) (hw : ∀ x, x < sz → a x < nc ∧ b x < nc) {N : Nat} (hN : N ≤ 99) {w' d' sp' : Nat} (hs' : sp' ≤ N) {e : Nat → Nat} : ∀ (k here sp dn wh : Nat), here < nc → rwE D7 a b wt sz e k here dn wh sp false = some (w', d', sp') → Rs D6 a b wt sz k here (N - sp) dn wh w' d' := by
  intro k
  induction k with
  | zero =>
    intro here sp dn wh hh h
    unfold rwE at h
    cases h
    exact ⟨rfl, rfl⟩
  | succ k ih =>
    intro here sp dn wh hh h
    unfold rwE at h
    by_cases c : e k = 4
    · rw [if_pos (.inr c), if_pos c] at h
      have q := rw_over_inv _ _ _ _ _ _ h
      cases q
      exact .inl ⟨rfl, rfl⟩
    · rw [if_neg (by
        rintro (q | q)
        · cases q
        · exact c q)] at h
      by_cases c2 : e k < sz ∧ dn.testBit (e k) = false
      · rw [if_pos c2] at h
        obtain ⟨w1, w2⟩ := hw (e k) c2.1
        have r1 := hD here (a (e k)) hh w1
        have r2 := hD (a (e k)) (b (e k)) w1 w2
        have t6 : tk D6 a b here (e k) = D6 here (a (e k)) + D6 (a (e k)) (b (e k)) := rfl
        have t7 : tk D7 a b here (e k) = D7 here (a (e k)) + D7 (a (e k)) (b (e k)) := rfl
        have m : sp + tk D7 a b here (e k) ≤ sp' := rw_mono _ _ _ _ _ _ _ h
        have tt : tk D6 a b here (e k) = tk D7 a b here (e k) := by omega
        refine .inr ⟨e k, c2.1, c2.2, by omega, ?_⟩
        rw [show N - sp - tk D6 a b here (e k) = N - (sp + tk D7 a b here (e k)) by omega]
        exact ih (b (e k)) (sp + tk D7 a b here (e k)) (dn ||| 2 ^ e k) (wh + wt (e k)) w2 h
      · rw [if_neg c2] at h
        cases h
theorem day_sets (hD : ∀ i j, i < nc → j < nc → D6 i j = D7 i j ∨ (100 ≤ D6 i j ∧ 100 ≤ D7 i j)) (hsz : sz ≤ 4) (hw : ∀ x, x < sz → a x < nc ∧ b x < nc) {N here : Nat} (hN : N ≤ 99) (hh : here < nc) (w' d' : Nat) : Rs D6 a b wt sz 4 here N 0 0 w' d' ↔ ∃ r, r < 625 ∧ ∃ sp, rwE D7 a b wt sz (fun i => r / 5 ^ i % 5) 4 here 0 0 0 false = some (w', d', sp) ∧ sp ≤ N := by
  constructor
  · intro h
    obtain ⟨e, h1, sp, h2, h3⟩ := rs_rw hD hsz hw hN 4 here 0 0 0 hh (Nat.zero_le _) h
    have e0 := h1 0
    have e1 := h1 1
    have e2 := h1 2
    have e3 := h1 3
    refine ⟨125 * e 3 + 25 * e 2 + 5 * e 1 + e 0, by omega, sp, ?_, h3⟩
    rw [← h2]
    refine rw_congr _ _ _ _ _ _ (fun i hi => ?_)
    show (125 * e 3 + 25 * e 2 + 5 * e 1 + e 0) / 5 ^ i % 5 = e i
    match i, hi with
    | 0, _ =>
      show (125 * e 3 + 25 * e 2 + 5 * e 1 + e 0) / 1 % 5 = e 0
      omega
    | 1, _ =>
      show (125 * e 3 + 25 * e 2 + 5 * e 1 + e 0) / 5 % 5 = e 1
      omega
    | 2, _ =>
      show (125 * e 3 + 25 * e 2 + 5 * e 1 + e 0) / 25 % 5 = e 2
      omega
    | 3, _ =>
      show (125 * e 3 + 25 * e 2 + 5 * e 1 + e 0) / 125 % 5 = e 3
      omega
  · rintro ⟨r, _, sp, h1, h2⟩
    exact rw_rs hD hw hN h2 4 here 0 0 0 hh h1
end DAYE
theorem rngN {α : Type} (x M : Int32) (m : Int) (hM : M.toInt = m) (A B : α) : (if x < 0 then A else (if M < x then A else B)) = if 0 ≤ x.toInt ∧ x.toInt ≤ m then B else A := by
  simp only [Int32.lt_iff_toInt_lt, hM, show (0 : Int32).toInt = 0 from rfl]
  split
  · rw [if_neg (by omega)]
  · split
    · rw [if_neg (by omega)]
    · rw [if_pos (by omega)]
section DAYX
variable {T : Nat → Nat → Nat} {nc ns ng nb hd : Int32} {mk ea eb ln pa fe kn hi bl tw : Nat → Int32}
theorem day8 (hO : TOk T) (h6 : TwA T nc ns ng nb hd mk ea eb ln pa fe kn hi bl) (h7 : TwB T tw) {s6 s7 : Int32} {fr6 to6 wo6 fr7 to7 wo7 : Nat → Int32} (hW : WishS T s6 s7 fr6 to6 wo6 fr7 to7 wo7) {g c N : Nat} (hg : g < T 0 2) (hc : c < T 0 0) (hN : N ≤ 99) (x4 : Int32) (A6 A7 : Nat → Int32) (bw bs : Int32) : ∃ A6' A7' w s, f_X5_findBestDay 700 s6 fr6 to6 wo6 A6 bw bs ns ng ea eb ln pa kn (nI g) (nI c) (nI N) = some (A6', w, s) ∧ (f_X7_shortest 700 tw A7 (nI g)).bind (fun r38 => f_X7_day_L64 700 700 tw s7 fr7 to7 wo7 r38 (nI c) (nI N) x4 0 0 0) = some (if x4 = 0 then w else s, A7') := by
  have o1 := hO.1
  obtain ⟨n, hn, e6, e7, hw⟩ := hW
  obtain ⟨A1, t1, R0⟩ := take2 (ns := ns) (ng := ng) (ea := ea) (eb := eb) (ln := ln) (pa := pa) (kn := kn) (fu := 700) (x2 := nI g) (by decide) A6
  obtain ⟨A2, D2, t2, R2, G2, S2, E2⟩ := take43 (fu := 700) hO h6 hg (by decide) R0
  obtain ⟨A3, D3, t3, R3, G3, S3, E3, T3⟩ := short2 (T := T) (g := g) (fu := 700) (by decide) R2 G2 S2 E2
  obtain ⟨A4, D4, t4, R4, S4, C4⟩ := shortest7 (fu := 700) hO h7 hg (by decide) A7
  have hD : ∀ i j, i < T 0 0 → j < T 0 0 → D3 i j = D4 i j ∨ (100 ≤ D3 i j ∧ 100 ≤ D4 i j) := by
    intro i j hi hj
    have b3 := (R3 i j (by omega) (by omega)).2
    have b4 := (R4 i j (by omega) (by omega)).2
    by_cases c3 : D3 i j < 10000
    · obtain ⟨k, w⟩ := S3 i j (by omega) (by omega) c3
      have q := C4 i k j _ _ hi w
      obtain ⟨k2, w2⟩ := S4 i j (by omega) (by omega) (by omega)
      have q2 := ways_wk hO G3 E3 T3 k2 i j _ _ (by omega) w2
      omega
    · by_cases c4 : D4 i j < 99999999
      · obtain ⟨k2, w2⟩ := S4 i j (by omega) (by omega) c4
        have q2 := ways_wk hO G3 E3 T3 k2 i j _ _ (by omega) w2
        omega
      · omega
  let a : Nat → Nat := fun k => (fr6 k).toNatClampNeg
  let b : Nat → Nat := fun k => (to6 k).toNatClampNeg
  let wt : Nat → Nat := fun k => (wo6 k).toNatClampNeg
  have hw' : ∀ k, k < n → a k < T 0 0 ∧ b k < T 0 0 ∧ wt k ≤ 99 ∧ fr6 k = nI (a k) ∧ to6 k = nI (b k) ∧ wo6 k = nI (wt k) ∧ fr7 k = nI (a k) ∧ to7 k = nI (b k) ∧ wo7 k = nI (wt k) := by
    intro k hk
    obtain ⟨a', b', w', h1, h2, h3, h4, h5, h6, h7, h8, h9, h10⟩ := hw k hk
    have ea : a k = a' := by
      show (fr6 k).toNatClampNeg = a'
      rw [h5, cl a' (by omega)]
    have eb : b k = b' := by
      show (to6 k).toNatClampNeg = b'
      rw [h6, cl b' (by omega)]
    have ew : wt k = w' := by
      show (wo6 k).toNatClampNeg = w'
      rw [h7, cl w' (by omega)]
    rw [ea, eb, ew]
    exact ⟨h1, h2, h4, h5, h6, h7, h8, h9, h10⟩
  obtain ⟨w1, s1, t5, _, _, B5⟩ := try6 (fu := 700) (fr := fr6) (to := to6) (wo := wo6) (a := a) (b := b) (wt := wt) (sz := n) R3 hn (fun x hx => by
    obtain ⟨q1, q2, q3, q4, q5, q6, _⟩ := hw' x hx
    exact ⟨by omega, by omega, q3, q4, q5, q6⟩) (by decide) 4 0 6 c N 0 0 0 0 (by decide) (by decide) (by omega) hN (by decide) (by decide) (by decide) (by decide)
  obtain ⟨w2, s2, t6, B6⟩ := rows64 (tw := tw) (fr := fr7) (to := to7) (wo := wo7) (a := a) (b := b) (wt := wt) (sz := n) (here := c) (N := N) (x4 := x4) R4 hn (fun x hx => by
    obtain ⟨q1, q2, q3, _, _, _, q4, q5, q6⟩ := hw' x hx
    exact ⟨by omega, by omega, q3, q4, q5, q6⟩) (by omega) hN
  have B7 := best_congr (fun X Y => (day_sets hD hn (fun x hx => ⟨(hw' x hx).1, (hw' x hx).2.1⟩) hN hc X Y).symm) B6
  obtain ⟨u1, u2⟩ := best_unique B5 B7
  refine ⟨A3, A4, nI w1, nI s1, ?_, ?_⟩
  · unfold f_X5_findBestDay
    rw [t1, t2, bnd, t3, bnd, e6]
    have t5' : f_X5_tryOn 700 6 (nI n) fr6 to6 wo6 A3 0 0 (nI c) (nI N) 0 0 0 = some (nI w1, nI s1) := t5
    rw [t5', bnd]
  · rw [t4, bnd, e7, t6, u1, u2]
end DAYX
theorem st_day : St_day Sim := by
  intro I F as J G tr x1 x2 x3 x4 h
  obtain ⟨T, hO, h6, h7, ha, r1, r2, r3, r4, r5, r6, hW⟩ := h
  have o1 := hO.1
  have o3 := hO.2.2.1
  suffices hh : ∃ (r : R_X6_day) (v : R_X7_day), f_X6_day 700 (I 6) (I 7) (I 8) (F 3) (F 4) (F 5) (F 6) (F 8) (F 9) (I 28) (F 30) (F 31) (F 32) (F 33) (I 29) (I 30) x1 x2 x3 x4 = some r ∧ f_X7_day 700 (G 2) (J 9) (G 18) (G 19) (G 20) (G 21) x1 x2 x3 x4 = some v ∧ r.1 = v.1 by
    obtain ⟨r, v, q6, q7, q⟩ := hh
    exact ⟨700, r, 700, v, q6, q7, q, T, hO, h6, h7, ha, r1, r2, r3, r4, r5, r6, hW⟩
  unfold f_X6_day f_X7_day
  rw [show f_X4_hasGuide (I 8) x1 = some (if 0 ≤ x1.toInt ∧ x1.toInt < T 0 2 then 1 else 0) from by rw [h6.2.2.1]; exact hasG6 (by omega) _, show f_X4_hasCorner (I 6) x2 = some (if 0 ≤ x2.toInt ∧ x2.toInt < T 0 0 then 1 else 0) from by rw [h6.1]; exact hasC6 (by omega) _, isG7 h7.2.2.1 (by omega), isC7 h7.1 (by omega), in7n x3 0 99 0 99 rfl rfl, in7n x4 0 1 0 1 rfl rfl, rng6 x4 1 1 rfl, rngN x3 99 99 rfl]
  simp only [bnd, b01i]
  by_cases c1 : 0 ≤ x1.toInt ∧ x1.toInt < T 0 2
  · simp only [if_pos c1]
    by_cases c2 : 0 ≤ x2.toInt ∧ x2.toInt < T 0 0
    · simp only [if_pos c2]
      obtain ⟨g, hg, rfl⟩ := of_in c1.1 c1.2
      obtain ⟨c, hc, rfl⟩ := of_in c2.1 c2.2
      rw [his6 hO h6 hg hc, isHis7 hO h7 hg (by omega)]
      simp only [bnd, b01i]
      by_cases c3 : 0 ≤ x3.toInt ∧ x3.toInt ≤ 99
      · simp only [if_pos c3]
        by_cases c4 : 0 ≤ x4.toInt ∧ x4.toInt ≤ 1
        · simp only [if_pos c4]
          by_cases c5 : (T 8 g).testBit c = true
          · simp only [if_pos c5]
            obtain ⟨N, hN, rfl⟩ : ∃ v : Nat, v < 100 ∧ x3 = nI v := of_in c3.1 (by omega)
            obtain ⟨A6', A7', w, s, q6, q7⟩ := day8 hO h6 h7 hW hg hc (show N ≤ 99 by omega) x4 (F 33) (G 21) (I 29) (I 30)
            rw [q6, q7]
            simp only [bnd]
            by_cases c0 : x4 = 0
            · simp only [if_pos c0]
              exact ⟨_, _, rfl, rfl, rfl⟩
            · simp only [if_neg c0]
              exact ⟨_, _, rfl, rfl, rfl⟩
          · simp only [if_neg c5]
            exact ⟨_, _, rfl, rfl, rfl⟩
        · simp only [if_neg c4]
          by_cases c5 : (T 8 g).testBit c = true
          · simp only [if_pos c5]
            exact ⟨_, _, rfl, rfl, rfl⟩
          · simp only [if_neg c5]
            exact ⟨_, _, rfl, rfl, rfl⟩
      · simp only [if_neg c3]
        by_cases c5 : (T 8 g).testBit c = true
        · simp only [if_pos c5]
          exact ⟨_, _, rfl, rfl, rfl⟩
        · simp only [if_neg c5]
          exact ⟨_, _, rfl, rfl, rfl⟩
    · simp only [if_neg c2]
      exact ⟨_, _, rfl, rfl, rfl⟩
  · simp only [if_neg c1]
    exact ⟨_, _, rfl, rfl, rfl⟩
