/-! a day: what is worth most, as the reference seeks it -/
theorem to64 {m : Nat} (h : m < 2 ^ 31) : (nI m).toInt64 = Int64.ofNat m := by
  apply Int64.toInt_inj.mp
  rw [Int32.toInt_toInt64, nI_toInt h, Int64.toInt_ofNat_of_lt (by omega)]
/-- a row of digits, read: what it is worth, what is granted, what it takes -/
def rwE (D : Nat → Nat → Nat) (a b wt : Nat → Nat) (sz : Nat) (e : Nat → Nat) : Nat → Nat → Nat → Nat → Nat → Bool → Option (Nat × Nat × Nat)
  | 0, _, se, wh, sp, _ => some (wh, se, sp)
  | k + 1, pl, se, wh, sp, ov => if ov = true ∨ e k = 4 then (if e k = 4 then rwE D a b wt sz e k pl se wh sp true else none) else (if e k < sz ∧ se.testBit (e k) = false then rwE D a b wt sz e k (b (e k)) (se ||| 2 ^ e k) (wh + wt (e k)) (sp + tk D a b pl (e k)) false else none)
def un : Nat → Nat
  | 0 => 0
  | k + 1 => 5 ^ k
section DAYR
variable {D : Nat → Nat → Nat} {a b wt : Nat → Nat} {sz fu : Nat} {A fr to wo tw : Nat → Int32}
theorem j285 {k64 : (Nat → Int32) → Int32 → (Nat → Int32) → (Nat → Int32) → (Nat → Int32) → (Nat → Int32) → Int32 → Int32 → Int32 → Int32 → Int32 → Int32 → Option R_X7_day} {v x2 x4 : Int32} {N mo be wh se sp row : Nat} (h1 : N ≤ 99) (h2 : mo ≤ 400) (h3 : be < 16) (h4 : wh ≤ 400) (h5 : se < 16) (h6 : sp < 2 ^ 40) : f_X7_day_J285 fu k64 tw v fr to wo A x2 (nI N) x4 (nI mo) (nI be) (nI row) (nI se) (nI wh) (Int64.ofNat sp) 1 = if sp ≤ N ∧ (mo < wh ∨ (wh = mo ∧ se < be)) then k64 tw v fr to wo A x2 (nI N) x4 (nI wh) (nI se) (nI (row + 1)) else k64 tw v fr to wo A x2 (nI N) x4 (nI mo) (nI be) (nI (row + 1)) := by
  have hg : (0 < lg_cmp (Int64.ofNat sp) (nI N).toInt64) ↔ N < sp := by
    rw [lg_cmp_gt, Int64.lt_iff_toInt_lt, Int32.toInt_toInt64, nI_toInt (by omega), Int64.toInt_ofNat_of_lt (by omega)]
    omega
  unfold f_X7_day_J285 f_X7_day_J324 f_X7_day_J338
  rw [show nI row + 1 = nI (row + 1) from nI_add row 1, ltE (by omega) (by omega), eqE (by omega) (by omega), leE (by omega) (by omega)]
  simp only [if_neg (show ¬ (1 : Int32) = 0 by decide), if_true]
  by_cases c1 : N < sp
  · rw [if_pos (hg.mpr c1), if_neg (by omega)]
  · rw [if_neg (fun q => c1 (hg.mp q))]
    by_cases c2 : mo < wh
    · rw [if_pos c2, if_pos ⟨by omega, .inl c2⟩]
    · rw [if_neg c2]
      by_cases c3 : wh = mo
      · rw [if_pos c3]
        by_cases c4 : be ≤ se
        · rw [if_pos c4, if_neg (by omega)]
        · rw [if_neg c4, if_pos (by omega)]
      · rw [if_neg c3, if_neg (by omega)]
theorem rej97 {k64 : (Nat → Int32) → Int32 → (Nat → Int32) → (Nat → Int32) → (Nat → Int32) → (Nat → Int32) → Int32 → Int32 → Int32 → Int32 → Int32 → Int32 → Option R_X7_day} {n : Nat} {v x2 x3 x4 x5 x6 x7 x8 x9 x10 x14 x15 x16 : Int32} {x11 : Int64} : f_X7_day_L97 fu k64 (n + 1) tw v fr to wo A x2 x3 x4 x5 x6 x7 x8 x9 x10 x11 0 x14 x15 x16 = k64 tw v fr to wo A x2 x3 x4 x5 x6 (x7 + 1) := by
  show f_X7_day_L97b fu k64 (f_X7_day_L97 fu k64 n) tw v fr to wo A x2 x3 x4 x5 x6 x7 x8 x9 x10 x11 0 x14 x15 x16 = _
  unfold f_X7_day_L97b f_X7_day_J285 f_X7_day_J324 f_X7_day_J338
  simp only [if_true]
  split <;> rfl
theorem rw_bnd (hR : ∀ i j, i < 7 → j < 7 → D i j ≤ 99999999) (hsz : sz ≤ 4) (hw : ∀ x, x < sz → a x < 7 ∧ b x < 7 ∧ wt x ≤ 99) {e : Nat → Nat} : ∀ (k pl se wh sp : Nat) (ov : Bool) (r : Nat × Nat × Nat), k ≤ 4 → pl < 7 → se < 16 → wh ≤ 99 * (4 - k) → sp ≤ 199999998 * (4 - k) → rwE D a b wt sz e k pl se wh sp ov = some r → r.1 ≤ 400 ∧ r.2.1 < 16 ∧ sp ≤ r.2.2 ∧ r.2.2 < 2 ^ 40 := by
  intro k
  induction k with
  | zero =>
    intro pl se wh sp ov r hk hp hs hwh hsp h
    unfold rwE at h
    cases h
    refine ⟨?_, hs, Nat.le_refl _, ?_⟩
    · show wh ≤ 400
      omega
    · show sp < 2 ^ 40
      omega
  | succ k ih =>
    intro pl se wh sp ov r hk hp hs hwh hsp h
    unfold rwE at h
    split at h
    · split at h
      · exact ih pl se wh sp true r (by omega) hp hs (by omega) (by omega) h
      · cases h
    · split at h
      · rename_i q
        obtain ⟨w1, w2, w3⟩ := hw (e k) q.1
        have z1 := hR pl (a (e k)) hp w1
        have z2 := hR (a (e k)) (b (e k)) w1 w2
        have z3 : tk D a b pl (e k) = D pl (a (e k)) + D (a (e k)) (b (e k)) := rfl
        obtain ⟨p1, p2, p3, p4⟩ := ih (b (e k)) (se ||| 2 ^ e k) (wh + wt (e k)) (sp + tk D a b pl (e k)) false r (by omega) w2 (Nat.or_lt_two_pow (n := 4) hs (Nat.pow_lt_pow_right (by decide) (by omega))) (by omega) (by omega) h
        exact ⟨p1, p2, by omega, p4⟩
      · cases h
theorem row97 (hR : Rp 99999999 A D) (hsz : sz ≤ 4) (hw : ∀ x, x < sz → a x < 7 ∧ b x < 7 ∧ wt x ≤ 99 ∧ fr x = nI (a x) ∧ to x = nI (b x) ∧ wo x = nI (wt x)) {k64 : (Nat → Int32) → Int32 → (Nat → Int32) → (Nat → Int32) → (Nat → Int32) → (Nat → Int32) → Int32 → Int32 → Int32 → Int32 → Int32 → Int32 → Option R_X7_day} {row : Nat} {x2 x3 x4 x5 x6 : Int32} (hrow : row < 625) : ∀ (k n pl se wh sp : Nat) (ov : Bool), k ≤ 4 → k < n → pl < 7 → se < 16 → wh ≤ 99 * (4 - k) → sp ≤ 199999998 * (4 - k) → (rwE D a b wt sz (fun i => row / 5 ^ i % 5) k pl se wh sp ov = none → f_X7_day_L97 fu k64 n tw (nI sz) fr to wo A x2 x3 x4 x5 x6 (nI row) (nI se) (nI wh) (nI pl) (Int64.ofNat sp) 1 (bi ov) (nI (4 - k)) (nI (un k)) = k64 tw (nI sz) fr to wo A x2 x3 x4 x5 x6 (nI (row + 1))) ∧ (∀ r, rwE D a b wt sz (fun i => row / 5 ^ i % 5) k pl se wh sp ov = some r → f_X7_day_L97 fu k64 n tw (nI sz) fr to wo A x2 x3 x4 x5 x6 (nI row) (nI se) (nI wh) (nI pl) (Int64.ofNat sp) 1 (bi ov) (nI (4 - k)) (nI (un k)) = f_X7_day_J285 fu k64 tw (nI sz) fr to wo A x2 x3 x4 x5 x6 (nI row) (nI r.2.1) (nI r.1) (Int64.ofNat r.2.2) 1) := by
  intro k
  induction k with
  | zero =>
    intro n pl se wh sp ov hk hn hp hs hwh hsp
    obtain ⟨n, rfl⟩ : ∃ j, n = j + 1 := ⟨n - 1, by omega⟩
    refine ⟨fun h => ?_, fun r h => ?_⟩
    · unfold rwE at h
      cases h
    unfold rwE at h
    cases h
    show f_X7_day_L97b fu k64 (f_X7_day_L97 fu k64 n) tw (nI sz) fr to wo A x2 x3 x4 x5 x6 (nI row) (nI se) (nI wh) (nI pl) (Int64.ofNat sp) 1 (bi ov) (nI 4) (nI (un 0)) = _
    unfold f_X7_day_L97b
    rw [if_pos (show (4 : Int32) ≤ nI 4 by decide)]
  | succ k ih =>
    intro n pl se wh sp ov hk hn hp hs hwh hsp
    obtain ⟨n, rfl⟩ : ∃ j, n = j + 1 := ⟨n - 1, by omega⟩
    have hk3 : k ≤ 3 := by omega
    have hu : ∀ k, k < 4 → nI (un (k + 1)) / 5 = nI (un k) ∧ un (k + 1) ≤ 125 ∧ 0 < un (k + 1) ∧ un (k + 1) = 5 ^ k := by decide +kernel
    obtain ⟨u1, u2, u3, u4⟩ := hu k (by omega)
    have hd : ∃ d, d = row / 5 ^ k % 5 := ⟨_, rfl⟩
    obtain ⟨d, hd⟩ := hd
    have hd5 : d < 5 := by omega
    have hdig : nI row / nI (un (k + 1)) - nI row / nI (un (k + 1)) / 5 * 5 = nI d := by
      rw [pk_div (by omega) u3 (by omega), show (5 : Int32) = nI 5 from rfl, pk_rem (by have := Nat.div_le_self row (un (k + 1)); omega) (by decide) (by decide), hd, u4]
    have d4 : (nI d = (4 : Int32)) ↔ d = 4 := by
      rw [show (4 : Int32) = nI 4 from rfl]
      exact nI_eq (by omega) (by decide)
    have x15 : nI (4 - (k + 1)) + 1 = nI (4 - k) := by
      rw [show (1 : Int32) = nI 1 from rfl, nI_add]
      congr 1
      omega
    obtain ⟨m, rfl⟩ : ∃ j, n = j + 1 := ⟨n - 1, by omega⟩
    -- the law's steps for this digit
    have e0 : f_X7_day_L97 fu k64 (m + 1 + 1) tw (nI sz) fr to wo A x2 x3 x4 x5 x6 (nI row) (nI se) (nI wh) (nI pl) (Int64.ofNat sp) 1 (bi ov) (nI (4 - (k + 1))) (nI (un (k + 1))) = if ov = true ∨ d = 4 then (if d = 4 then f_X7_day_L97 fu k64 (m + 1) tw (nI sz) fr to wo A x2 x3 x4 x5 x6 (nI row) (nI se) (nI wh) (nI pl) (Int64.ofNat sp) 1 (bi true) (nI (4 - k)) (nI (un k)) else k64 tw (nI sz) fr to wo A x2 x3 x4 x5 x6 (nI (row + 1))) else (if d < sz ∧ se.testBit d = false then f_X7_day_L97 fu k64 (m + 1) tw (nI sz) fr to wo A x2 x3 x4 x5 x6 (nI row) (nI (se ||| 2 ^ d)) (nI (wh + wt d)) (nI (b d)) (Int64.ofNat (sp + tk D a b pl d)) 1 (bi false) (nI (4 - k)) (nI (un k)) else k64 tw (nI sz) fr to wo A x2 x3 x4 x5 x6 (nI (row + 1))) := by
      show f_X7_day_L97b fu k64 (f_X7_day_L97 fu k64 (m + 1)) tw (nI sz) fr to wo A x2 x3 x4 x5 x6 (nI row) (nI se) (nI wh) (nI pl) (Int64.ofNat sp) 1 (bi ov) (nI (4 - (k + 1))) (nI (un (k + 1))) = _
      have rj : ∀ (y14 : Int32), f_X7_day_J178 fu k64 (f_X7_day_L97 fu k64 (m + 1)) tw (nI sz) fr to wo A x2 x3 x4 x5 x6 (nI row) (nI se) (nI wh) (nI pl) (Int64.ofNat sp) y14 (nI (4 - (k + 1))) (nI (un (k + 1))) (nI d) 0 = k64 tw (nI sz) fr to wo A x2 x3 x4 x5 x6 (nI (row + 1)) := by
        intro y14
        unfold f_X7_day_J178 f_X7_day_J273
        rw [if_pos rfl, rej97, show nI row + 1 = nI (row + 1) from nI_add row 1]
      have j1 : f_X7_day_J133 fu k64 (f_X7_day_L97 fu k64 (m + 1)) tw (nI sz) fr to wo A x2 x3 x4 x5 x6 (nI row) (nI se) (nI wh) (nI pl) (Int64.ofNat sp) (nI (4 - (k + 1))) (nI (un (k + 1))) (nI d) 1 = if d = 4 then f_X7_day_L97 fu k64 (m + 1) tw (nI sz) fr to wo A x2 x3 x4 x5 x6 (nI row) (nI se) (nI wh) (nI pl) (Int64.ofNat sp) 1 (bi true) (nI (4 - k)) (nI (un k)) else k64 tw (nI sz) fr to wo A x2 x3 x4 x5 x6 (nI (row + 1)) := by
        unfold f_X7_day_J133
        rw [if_neg (show ¬ (1 : Int32) = 0 by decide), rj]
        by_cases c : d = 4
        · rw [if_pos c, if_pos (d4.mpr c)]
          unfold f_X7_day_J178 f_X7_day_J273
          rw [if_neg (show ¬ (1 : Int32) = 0 by decide), if_neg (show ¬ (1 : Int32) = 0 by decide), x15, u1]
          rfl
        · rw [if_neg c, if_neg (fun q => c (d4.mp q))]
      have j0 : ¬ d = 4 → f_X7_day_J133 fu k64 (f_X7_day_L97 fu k64 (m + 1)) tw (nI sz) fr to wo A x2 x3 x4 x5 x6 (nI row) (nI se) (nI wh) (nI pl) (Int64.ofNat sp) (nI (4 - (k + 1))) (nI (un (k + 1))) (nI d) 0 = if d < sz ∧ se.testBit d = false then f_X7_day_L97 fu k64 (m + 1) tw (nI sz) fr to wo A x2 x3 x4 x5 x6 (nI row) (nI (se ||| 2 ^ d)) (nI (wh + wt d)) (nI (b d)) (Int64.ofNat (sp + tk D a b pl d)) 1 (bi false) (nI (4 - k)) (nI (un k)) else k64 tw (nI sz) fr to wo A x2 x3 x4 x5 x6 (nI (row + 1)) := by
        intro hd4
        unfold f_X7_day_J133
        rw [if_pos rfl, rj, leE (by omega) (by omega), bit0 (by omega) (by omega)]
        by_cases c : sz ≤ d
        · rw [if_pos c, if_neg (by omega)]
        · rw [if_neg c]
          by_cases t : se.testBit d = true
          · rw [if_pos t, if_neg (fun q => by rw [t] at q; exact absurd q.2 (by decide))]
          · rw [if_neg t, if_pos ⟨by omega, by simpa using t⟩]
            obtain ⟨w1, w2, w3, f1, f2, f3⟩ := hw d (by omega)
            have ra := hR pl (a d) hp w1
            have rb := hR (a d) (b d) w1 w2
            have q4 : ∀ {α : Type} (X : Option α), xb (nI d) 4 X = X := fun X => xb_nI X (by omega) (by decide)
            have qa : ∀ {α : Type} (X : Option α), xb (nI (pl * 7 + a d)) 49 X = X := fun X => xb_nI X (by omega) (by decide)
            have qb : ∀ {α : Type} (X : Option α), xb (nI (a d * 7 + b d)) 49 X = X := fun X => xb_nI X (by omega) (by decide)
            unfold f_X7_day_J178 f_X7_day_J273
            rw [if_neg (show ¬ (1 : Int32) = 0 by decide), if_pos rfl, x15, u1]
            simp only [q4, cl d (show d < 2 ^ 31 by omega), f1, f2, f3, n7', qa, qb, cl (pl * 7 + a d) (show pl * 7 + a d < 2 ^ 31 by omega), cl (a d * 7 + b d) (show a d * 7 + b d < 2 ^ 31 by omega), ra.1, rb.1, nI_add]
            rw [oneShl (by omega), fa_or, to64 (by omega), to64 (by omega), ← Int64.ofNat_add, ← Int64.ofNat_add, Nat.add_assoc]
            rfl
      unfold f_X7_day_L97b
      rw [if_neg (show ¬ (4 : Int32) ≤ nI (4 - (k + 1)) from by rw [show (4 : Int32) = nI 4 from rfl]; exact nI_ge (by omega) (by decide)), if_neg (show ¬ (1 : Int32) = 0 by decide), xd_nI _ u3 (by omega), hdig, j1]
      cases ov
      · rw [if_pos (show bi false = 0 from rfl)]
        by_cases c : d = 4
        · rw [if_pos (d4.mpr c), if_pos c, if_pos (.inr c)]
        · rw [if_neg (fun q => c (d4.mp q)), j0 c, if_neg (show ¬ (false = true ∨ d = 4) from fun q => by
            rcases q with q | q
            · cases q
            · exact c q)]
      · rw [if_neg (show ¬ bi true = 0 from by decide), if_pos (show true = true ∨ d = 4 from .inl rfl)]
    have e1 : rwE D a b wt sz (fun i => row / 5 ^ i % 5) (k + 1) pl se wh sp ov = if ov = true ∨ d = 4 then (if d = 4 then rwE D a b wt sz (fun i => row / 5 ^ i % 5) k pl se wh sp true else none) else (if d < sz ∧ se.testBit d = false then rwE D a b wt sz (fun i => row / 5 ^ i % 5) k (b d) (se ||| 2 ^ d) (wh + wt d) (sp + tk D a b pl d) false else none) := by
      rw [hd]
      rfl
    rw [e0, e1]
    by_cases c : ov = true ∨ d = 4
    · simp only [if_pos c]
      by_cases c4 : d = 4
      · simp only [if_pos c4]
        exact ih (m + 1) pl se wh sp true (by omega) (by omega) hp hs (by omega) (by omega)
      · simp only [if_neg c4]
        exact ⟨fun _ => trivial, fun r h => by cases h⟩
    · simp only [if_neg c]
      by_cases c4 : d < sz ∧ se.testBit d = false
      · simp only [if_pos c4]
        obtain ⟨w1, w2, w3, f1, f2, f3⟩ := hw d c4.1
        have ra := hR pl (a d) hp w1
        have rb := hR (a d) (b d) w1 w2
        have z3 : tk D a b pl d = D pl (a d) + D (a d) (b d) := rfl
        exact ih (m + 1) (b d) (se ||| 2 ^ d) (wh + wt d) (sp + tk D a b pl d) false (by omega) (by omega) w2 (Nat.or_lt_two_pow (n := 4) hs (Nat.pow_lt_pow_right (by decide) (by omega))) (by omega) (by omega)
      · simp only [if_neg c4]
        exact ⟨fun _ => trivial, fun r h => by cases h⟩
theorem rows64 (hR : Rp 99999999 A D) (hsz : sz ≤ 4) (hw : ∀ x, x < sz → a x < 7 ∧ b x < 7 ∧ wt x ≤ 99 ∧ fr x = nI (a x) ∧ to x = nI (b x) ∧ wo x = nI (wt x)) {here N : Nat} {x4 : Int32} (hh : here < 7) (hN : N ≤ 99) : ∃ mo be, f_X7_day_L64 700 700 tw (nI sz) fr to wo A (nI here) (nI N) x4 0 0 0 = some (if x4 = 0 then nI mo else nI be, A) ∧ BestOf (fun w' d' => ∃ r, r < 625 ∧ ∃ sp, rwE D a b wt sz (fun i => r / 5 ^ i % 5) 4 here 0 0 0 false = some (w', d', sp) ∧ sp ≤ N) 0 0 mo be := by
  obtain ⟨s, e, mo, be, es, c1, c2, c3⟩ := rel_loop (σ := Int32 × Int32) (fun n s x => f_X7_day_L64 700 n tw (nI sz) fr to wo A (nI here) (nI N) x4 s.1 s.2 x) (fun s => some (if x4 = 0 then s.1 else s.2, A)) (fun x s => ∃ mo be, s = (nI mo, nI be) ∧ mo ≤ 400 ∧ be < 16 ∧ BestOf (fun w' d' => ∃ r, r < x ∧ ∃ sp, rwE D a b wt sz (fun i => r / 5 ^ i % 5) 4 here 0 0 0 false = some (w', d', sp) ∧ sp ≤ N) 0 0 mo be) 625 (by
    intro n x s hx hI
    obtain ⟨mo, be, rfl, c1, c2, c3⟩ := hI
    obtain ⟨r1, r2⟩ := row97 (fu := 700) (tw := tw) (k64 := f_X7_day_L64 700 n) (x2 := nI here) (x3 := nI N) (x4 := x4) (x5 := nI mo) (x6 := nI be) hR hsz hw hx 4 700 here 0 0 0 false (by decide) (by decide) hh (by decide) (by decide) (by decide)
    have e0 : f_X7_day_L64 700 (n + 1) tw (nI sz) fr to wo A (nI here) (nI N) x4 (nI mo) (nI be) (nI x) = f_X7_day_L97 700 (f_X7_day_L64 700 n) 700 tw (nI sz) fr to wo A (nI here) (nI N) x4 (nI mo) (nI be) (nI x) (nI 0) (nI 0) (nI here) (Int64.ofNat 0) 1 (bi false) (nI (4 - 4)) (nI (un 4)) := by
      show f_X7_day_L64b 700 (f_X7_day_L64 700 n) tw (nI sz) fr to wo A (nI here) (nI N) x4 (nI mo) (nI be) (nI x) = _
      unfold f_X7_day_L64b
      rw [if_neg (by rw [show (625 : Int32) = nI 625 from rfl]; exact nI_ge (by omega) (by omega))]
      rfl
    have keep : (∀ w' d' sp, rwE D a b wt sz (fun i => x / 5 ^ i % 5) 4 here 0 0 0 false = some (w', d', sp) → ¬ sp ≤ N) → BestOf (fun w' d' => ∃ r, r < x + 1 ∧ ∃ sp, rwE D a b wt sz (fun i => r / 5 ^ i % 5) 4 here 0 0 0 false = some (w', d', sp) ∧ sp ≤ N) 0 0 mo be := by
      intro hn
      refine best_congr (fun X Y => ⟨?_, ?_⟩) c3
      · rintro ⟨r, q1, q2⟩
        exact ⟨r, by omega, q2⟩
      · rintro ⟨r, q1, sp, q2, q3⟩
        by_cases er : r = x
        · subst er
          exact absurd q3 (hn _ _ _ q2)
        · exact ⟨r, by omega, sp, q2, q3⟩
    cases hrw : rwE D a b wt sz (fun i => x / 5 ^ i % 5) 4 here 0 0 0 false with
    | none =>
      refine ⟨(nI mo, nI be), e0.trans (r1 hrw), mo, be, rfl, c1, c2, keep (fun w' d' sp q => ?_)⟩
      rw [hrw] at q
      cases q
    | some r =>
      obtain ⟨wh, se, sp⟩ := r
      have hb := rw_bnd (D := D) (fun i j hi hj => (hR i j hi hj).2) hsz (fun x hx => ⟨(hw x hx).1, (hw x hx).2.1, (hw x hx).2.2.1⟩) 4 here 0 0 0 false _ (by decide) hh (by decide) (by decide) (by decide) hrw
      have hb1 : wh ≤ 400 := hb.1
      have hb2 : se < 16 := hb.2.1
      have hb3 : sp < 2 ^ 40 := hb.2.2.2
      have e2 := e0.trans (r2 _ hrw)
      rw [j285 hN c1 c2 hb1 hb2 hb3] at e2
      have one : sp ≤ N → ∀ mo' be', BestOf (fun X Y => X = wh ∧ Y = se) mo be mo' be' → BestOf (fun w' d' => ∃ r, r < x + 1 ∧ ∃ sp, rwE D a b wt sz (fun i => r / 5 ^ i % 5) 4 here 0 0 0 false = some (w', d', sp) ∧ sp ≤ N) 0 0 mo' be' := by
        intro hsp mo' be' hb
        refine best_congr (fun X Y => ⟨?_, ?_⟩) (best_trans c3 hb)
        · rintro (⟨r, q1, q2⟩ | ⟨rfl, rfl⟩)
          · exact ⟨r, by omega, q2⟩
          · exact ⟨x, by omega, sp, hrw, hsp⟩
        · rintro ⟨r, q1, sp', q2, q3⟩
          by_cases er : r = x
          · subst er
            rw [hrw] at q2
            cases q2
            exact .inr ⟨rfl, rfl⟩
          · exact .inl ⟨r, by omega, sp', q2, q3⟩
      by_cases cs : sp ≤ N
      · by_cases cb : mo < wh ∨ (wh = mo ∧ se < be)
        · rw [if_pos ⟨cs, cb⟩] at e2
          exact ⟨(nI wh, nI se), e2, wh, se, rfl, hb1, hb2, one cs _ _ (best_yes cb)⟩
        · rw [if_neg (fun q => cb q.2)] at e2
          exact ⟨(nI mo, nI be), e2, mo, be, rfl, c1, c2, one cs _ _ (best_no cb)⟩
      · rw [if_neg (fun q => cs q.1)] at e2
        refine ⟨(nI mo, nI be), e2, mo, be, rfl, c1, c2, keep (fun w' d' sp' q => ?_)⟩
        rw [hrw] at q
        cases q
        exact cs) (by
    intro n s hI
    show f_X7_day_L64b 700 (f_X7_day_L64 700 n) tw (nI sz) fr to wo A (nI here) (nI N) x4 s.1 s.2 (nI 625) = _
    unfold f_X7_day_L64b
    rw [if_pos (by decide)]
    split <;> rfl) 625 0 700 (0, 0) (by decide) (by decide) ⟨0, 0, rfl, by decide, by decide, best_nil (fun x y q => by
      obtain ⟨r, q1, _⟩ := q
      omega) 0 0⟩
  refine ⟨mo, be, ?_, c3⟩
  rw [es] at e
  exact e
end DAYR
