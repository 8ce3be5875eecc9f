/-! the text: its tokens -/
def Txt (n : Nat) (t : Nat → Nat) (t6 t7 : Nat → Int32) : Prop := n ≤ 200 ∧ ∀ k, k < n → t k < 256 ∧ t6 k = nI (t k) ∧ t7 k = nI (t k)
def Ltr (v : Int32) : Prop := v = 99 ∨ v = 102 ∨ v = 103 ∨ v = 104 ∨ v = 115
def Tk (n b : Nat) (p6 k6 v6 p7 k7 v7 : Int32) : Prop := (k6 = 0 ∧ k7 = 0) ∨ (b < n ∧ ((∃ q, b < q ∧ q ≤ n ∧ p6 = nI q ∧ p7 = nI q ∧ ((k6 = 1 ∧ k7 = 1 ∧ v6 = v7 ∧ Ltr v7) ∨ (k6 = 3 ∧ k7 = 3) ∨ (k6 = 2 ∧ k7 = 2 ∧ ∃ v, v ≤ 99 ∧ v6 = nI v ∧ v7 = nI v))) ∨ (k7 = 4 ∧ (k6 = 4 ∨ (k6 = 1 ∧ ¬ Ltr v6)))))
theorem isL7 {c : Nat} (hc : c < 256) : f_X7_isLetter (nI c) = some (if 97 ≤ c ∧ c ≤ 122 then 1 else 0) := by
  unfold f_X7_isLetter
  rw [in7n (nI c) 97 122 97 122 rfl rfl, bnd, xz_b, tl c (by omega)]
  by_cases h : 97 ≤ c ∧ c ≤ 122
  · rw [if_pos h, if_pos (by omega)]
  · rw [if_neg h, if_neg (by omega)]
theorem isF7 {c : Nat} (hc : c < 256) : f_X7_isFigure (nI c) = some (if 48 ≤ c ∧ c ≤ 57 then 1 else 0) := by
  unfold f_X7_isFigure
  rw [in7n (nI c) 48 57 48 57 rfl rfl, bnd, xz_b, tl c (by omega)]
  by_cases h : 48 ≤ c ∧ c ≤ 57
  · rw [if_pos h, if_pos (by omega)]
  · rw [if_neg h, if_neg (by omega)]
section TOKENS
variable {n : Nat} {t : Nat → Nat} {t6 t7 : Nat → Int32} {fu : Nat}
theorem skip67 (hT : Txt n t t6 t7) {tk6 tA6 va6 be7 tk7 to7 : Int32} : ∀ (d p m : Nat), p + d = n → d < m → ∃ b, p ≤ b ∧ b ≤ n ∧ f_X2_nextToken_L0 fu m t6 (nI n) (nI p) tk6 tA6 va6 = f_X2_nextToken_J38 fu t6 (nI n) (nI b) tk6 tA6 va6 ∧ f_X7_reads_L0 fu m t7 (nI n) (nI p) be7 tk7 to7 = f_X7_reads_J38 fu t7 (nI n) (nI b) be7 tk7 to7 := by
  have hn := hT.1
  intro d
  induction d with
  | zero =>
    intro p m hp hm
    obtain ⟨m, rfl⟩ : ∃ j, m = j + 1 := ⟨m - 1, by omega⟩
    obtain rfl : p = n := by omega
    refine ⟨p, Nat.le_refl _, Nat.le_refl _, ?_, ?_⟩
    · show f_X2_nextToken_L0b fu (f_X2_nextToken_L0 fu m) t6 (nI p) (nI p) tk6 tA6 va6 = _
      unfold f_X2_nextToken_L0b
      rw [if_pos (nI_le (Nat.le_refl _) (by omega))]
    · show f_X7_reads_L0b fu (f_X7_reads_L0 fu m) t7 (nI p) (nI p) be7 tk7 to7 = _
      unfold f_X7_reads_L0b
      rw [if_pos (nI_le (Nat.le_refl _) (by omega))]
  | succ d ih =>
    intro p m hp hm
    obtain ⟨m, rfl⟩ : ∃ j, m = j + 1 := ⟨m - 1, by omega⟩
    have hk := hT.2 p (by omega)
    have s6 : f_X2_nextToken_L0 fu (m + 1) t6 (nI n) (nI p) tk6 tA6 va6 = if t p = 32 then f_X2_nextToken_L0 fu m t6 (nI n) (nI (p + 1)) tk6 tA6 va6 else f_X2_nextToken_J38 fu t6 (nI n) (nI p) tk6 tA6 va6 := by
      show f_X2_nextToken_L0b fu (f_X2_nextToken_L0 fu m) t6 (nI n) (nI p) tk6 tA6 va6 = _
      unfold f_X2_nextToken_L0b
      rw [if_neg (nI_ge (by omega) (by omega)), xb_nI _ (by omega) (by decide), cl p (by omega), hk.2.1, show (32 : Int32) = nI 32 from rfl, eqE (by omega) (by decide), show nI p + 1 = nI (p + 1) from nI_add p 1]
    have s7 : f_X7_reads_L0 fu (m + 1) t7 (nI n) (nI p) be7 tk7 to7 = if t p = 32 then f_X7_reads_L0 fu m t7 (nI n) (nI (p + 1)) be7 tk7 to7 else f_X7_reads_J38 fu t7 (nI n) (nI p) be7 tk7 to7 := by
      show f_X7_reads_L0b fu (f_X7_reads_L0 fu m) t7 (nI n) (nI p) be7 tk7 to7 = _
      unfold f_X7_reads_L0b
      rw [if_neg (nI_ge (by omega) (by omega)), xb_nI _ (by omega) (by decide), cl p (by omega), hk.2.2, show (32 : Int32) = nI 32 from rfl, eqE (by omega) (by decide), show nI p + 1 = nI (p + 1) from nI_add p 1]
    by_cases c : t p = 32
    · rw [if_pos c] at s6 s7
      obtain ⟨b, h1, h2, e1, e2⟩ := ih (p + 1) m (by omega) (by omega)
      exact ⟨b, by omega, h2, s6.trans e1, s7.trans e2⟩
    · rw [if_neg c] at s6 s7
      exact ⟨p, Nat.le_refl _, by omega, s6, s7⟩
theorem let67 (hT : Txt n t t6 t7) : ∀ (d p m : Nat), p + d = n → d < m → ∃ q, p ≤ q ∧ q ≤ n ∧ (p < n → 97 ≤ t p ∧ t p ≤ 122 → p < q) ∧ (∀ tk6 tA6 va6, f_X2_takeLetters_L13 fu m t6 (nI n) (nI p) tk6 tA6 va6 = f_X2_takeLetters_J65 fu t6 (nI n) (nI q) tk6 tA6 va6) ∧ ∀ be7 tk7 to7, f_X7_readLetters_L13 fu m t7 (nI n) (nI p) be7 tk7 to7 = f_X7_readLetters_J52 fu t7 (nI n) (nI q) be7 tk7 to7 := by
  have hn := hT.1
  intro d
  induction d with
  | zero =>
    intro p m hp hm
    obtain ⟨m, rfl⟩ : ∃ j, m = j + 1 := ⟨m - 1, by omega⟩
    obtain rfl : p = n := by omega
    refine ⟨p, Nat.le_refl _, Nat.le_refl _, fun h => by omega, fun tk6 tA6 va6 => ?_, fun be7 tk7 to7 => ?_⟩
    · show f_X2_takeLetters_L13b fu (f_X2_takeLetters_L13 fu m) t6 (nI p) (nI p) tk6 tA6 va6 = _
      unfold f_X2_takeLetters_L13b
      rw [if_pos (nI_le (Nat.le_refl _) (by omega))]
    · show f_X7_readLetters_L13b fu (f_X7_readLetters_L13 fu m) t7 (nI p) (nI p) be7 tk7 to7 = _
      unfold f_X7_readLetters_L13b
      rw [if_pos (nI_le (Nat.le_refl _) (by omega))]
  | succ d ih =>
    intro p m hp hm
    obtain ⟨m, rfl⟩ : ∃ j, m = j + 1 := ⟨m - 1, by omega⟩
    have hk := hT.2 p (by omega)
    have s6 : ∀ tk6 tA6 va6, f_X2_takeLetters_L13 fu (m + 1) t6 (nI n) (nI p) tk6 tA6 va6 = if 97 ≤ t p ∧ t p ≤ 122 then f_X2_takeLetters_L13 fu m t6 (nI n) (nI (p + 1)) tk6 tA6 va6 else f_X2_takeLetters_J65 fu t6 (nI n) (nI p) tk6 tA6 va6 := by
      intro tk6 tA6 va6
      show f_X2_takeLetters_L13b fu (f_X2_takeLetters_L13 fu m) t6 (nI n) (nI p) tk6 tA6 va6 = _
      unfold f_X2_takeLetters_L13b
      rw [if_neg (nI_ge (by omega) (by omega)), xb_nI _ (by omega) (by decide), xb_nI _ (by omega) (by decide), cl p (by omega), hk.2.1, show (97 : Int32) = nI 97 from rfl, show (122 : Int32) = nI 122 from rfl, ltE (by omega) (by decide), ltE (by decide) (by omega), show nI p + 1 = nI (p + 1) from nI_add p 1]
      by_cases c1 : t p < 97
      · rw [if_pos c1, if_neg (by omega)]
      · rw [if_neg c1]
        by_cases c2 : 122 < t p
        · rw [if_pos c2, if_neg (by omega)]
        · rw [if_neg c2, if_pos (by omega)]
    have s7 : ∀ be7 tk7 to7, f_X7_readLetters_L13 fu (m + 1) t7 (nI n) (nI p) be7 tk7 to7 = if 97 ≤ t p ∧ t p ≤ 122 then f_X7_readLetters_L13 fu m t7 (nI n) (nI (p + 1)) be7 tk7 to7 else f_X7_readLetters_J52 fu t7 (nI n) (nI p) be7 tk7 to7 := by
      intro be7 tk7 to7
      show f_X7_readLetters_L13b fu (f_X7_readLetters_L13 fu m) t7 (nI n) (nI p) be7 tk7 to7 = _
      unfold f_X7_readLetters_L13b
      rw [if_neg (nI_ge (by omega) (by omega)), xb_nI _ (by omega) (by decide), cl p (by omega), hk.2.2, isL7 hk.1, bnd, b01i, show nI p + 1 = nI (p + 1) from nI_add p 1]
    by_cases c : 97 ≤ t p ∧ t p ≤ 122
    · simp only [if_pos c] at s6 s7
      obtain ⟨q, h1, h2, _, e1, e2⟩ := ih (p + 1) m (by omega) (by omega)
      exact ⟨q, by omega, h2, fun _ _ => by omega, fun x y z => (s6 x y z).trans (e1 x y z), fun x y z => (s7 x y z).trans (e2 x y z)⟩
    · simp only [if_neg c] at s6 s7
      exact ⟨p, Nat.le_refl _, by omega, fun _ h => absurd h c, s6, s7⟩
theorem dig67 (hT : Txt n t t6 t7) : ∀ (d p m v : Nat), p + d = n → d < m → v ≤ 999 → ∃ q w, p ≤ q ∧ q ≤ n ∧ w ≤ 999 ∧ (p < n → 48 ≤ t p ∧ t p ≤ 57 → p < q) ∧ (∀ tk6 tA6 x1, f_X2_takeDigits_L25 fu m t6 (nI n) (nI p) tk6 tA6 (nI v) x1 = f_X2_takeDigits_J110 fu t6 (nI n) (nI q) tk6 tA6 (nI w) x1) ∧ ∀ be7 tk7 to7, f_X7_readNumber_L2 fu m t7 (nI n) (nI p) be7 tk7 to7 (nI v) = f_X7_readNumber_J69 fu t7 (nI n) (nI q) be7 tk7 to7 (nI w) := by
  have hn := hT.1
  intro d
  induction d with
  | zero =>
    intro p m v hp hm hv
    obtain ⟨m, rfl⟩ : ∃ j, m = j + 1 := ⟨m - 1, by omega⟩
    obtain rfl : p = n := by omega
    refine ⟨p, v, Nat.le_refl _, Nat.le_refl _, hv, fun h => by omega, fun tk6 tA6 x1 => ?_, fun be7 tk7 to7 => ?_⟩
    · show f_X2_takeDigits_L25b fu (f_X2_takeDigits_L25 fu m) t6 (nI p) (nI p) tk6 tA6 (nI v) x1 = _
      unfold f_X2_takeDigits_L25b
      rw [if_pos (nI_le (Nat.le_refl _) (by omega))]
    · show f_X7_readNumber_L2b fu (f_X7_readNumber_L2 fu m) t7 (nI p) (nI p) be7 tk7 to7 (nI v) = _
      unfold f_X7_readNumber_L2b
      rw [if_pos (nI_le (Nat.le_refl _) (by omega))]
  | succ d ih =>
    intro p m v hp hm hv
    obtain ⟨m, rfl⟩ : ∃ j, m = j + 1 := ⟨m - 1, by omega⟩
    have hk := hT.2 p (by omega)
    by_cases c : 48 ≤ t p ∧ t p ≤ 57
    · obtain ⟨v', hv', a6, a7⟩ : ∃ v', v' ≤ 999 ∧ (∀ tk6 tA6 x1, f_X2_takeDigits_L25 fu (m + 1) t6 (nI n) (nI p) tk6 tA6 (nI v) x1 = f_X2_takeDigits_L25 fu m t6 (nI n) (nI (p + 1)) tk6 tA6 (nI v') x1) ∧ ∀ be7 tk7 to7, f_X7_readNumber_L2 fu (m + 1) t7 (nI n) (nI p) be7 tk7 to7 (nI v) = f_X7_readNumber_L2 fu m t7 (nI n) (nI (p + 1)) be7 tk7 to7 (nI v') := by
        refine ⟨if 99 < v then v else v * 10 + t p - 48, by split <;> omega, fun tk6 tA6 x1 => ?_, fun be7 tk7 to7 => ?_⟩
        · show f_X2_takeDigits_L25b fu (f_X2_takeDigits_L25 fu m) t6 (nI n) (nI p) tk6 tA6 (nI v) x1 = _
          unfold f_X2_takeDigits_L25b f_X2_takeDigits_J97
          rw [if_neg (nI_ge (by omega) (by omega)), xb_nI _ (by omega) (by decide), xb_nI _ (by omega) (by decide), xb_nI _ (by omega) (by decide), cl p (by omega), hk.2.1, show (48 : Int32) = nI 48 from rfl, show (57 : Int32) = nI 57 from rfl, show (99 : Int32) = nI 99 from rfl, show (10 : Int32) = nI 10 from rfl, ltE (by omega) (by decide), ltE (by decide) (by omega), ltE (by decide) (by omega), if_neg (by omega), if_neg (by omega), show nI p + 1 = nI (p + 1) from nI_add p 1, pk_mul, nI_add, pk_sub (by omega)]
          split <;> rfl
        · show f_X7_readNumber_L2b fu (f_X7_readNumber_L2 fu m) t7 (nI n) (nI p) be7 tk7 to7 (nI v) = _
          unfold f_X7_readNumber_L2b f_X7_readNumber_J55
          rw [if_neg (nI_ge (by omega) (by omega)), xb_nI _ (by omega) (by decide), xb_nI _ (by omega) (by decide), cl p (by omega), hk.2.2, isF7 hk.1, bnd, b01i, if_pos c, show (48 : Int32) = nI 48 from rfl, show (99 : Int32) = nI 99 from rfl, show (10 : Int32) = nI 10 from rfl, leE (by omega) (by decide), show nI p + 1 = nI (p + 1) from nI_add p 1, pk_mul, nI_add, pk_sub (by omega), Nat.mul_comm 10 v]
          by_cases w : v ≤ 99
          · rw [if_pos w, if_neg (by omega)]
          · rw [if_neg w, if_pos (by omega)]
      obtain ⟨q, w, h1, h2, h3, _, e1, e2⟩ := ih (p + 1) m v' (by omega) (by omega) hv'
      exact ⟨q, w, by omega, h2, h3, fun _ _ => by omega, fun x y z => (a6 x y z).trans (e1 x y z), fun x y z => (a7 x y z).trans (e2 x y z)⟩
    · refine ⟨p, v, Nat.le_refl _, by omega, hv, fun _ h => absurd h c, fun tk6 tA6 x1 => ?_, fun be7 tk7 to7 => ?_⟩
      · show f_X2_takeDigits_L25b fu (f_X2_takeDigits_L25 fu m) t6 (nI n) (nI p) tk6 tA6 (nI v) x1 = _
        unfold f_X2_takeDigits_L25b
        rw [if_neg (nI_ge (by omega) (by omega)), xb_nI _ (by omega) (by decide), xb_nI _ (by omega) (by decide), cl p (by omega), hk.2.1, show (48 : Int32) = nI 48 from rfl, show (57 : Int32) = nI 57 from rfl, ltE (by omega) (by decide), ltE (by decide) (by omega)]
        by_cases c1 : t p < 48
        · rw [if_pos c1]
        · rw [if_neg c1, if_pos (by omega)]
      · show f_X7_readNumber_L2b fu (f_X7_readNumber_L2 fu m) t7 (nI n) (nI p) be7 tk7 to7 (nI v) = _
        unfold f_X7_readNumber_L2b
        rw [if_neg (nI_ge (by omega) (by omega)), xb_nI _ (by omega) (by decide), cl p (by omega), hk.2.2, isF7 hk.1, bnd, b01i, if_neg c]
theorem j52y {sz at' be tk to : Int32} (h : Ltr to) : f_X7_readLetters_J52 fu t7 sz at' be tk to = f_X7_readLetters_J102 fu t7 sz at' be tk to 1 := by
  unfold f_X7_readLetters_J52
  rcases h with rfl | rfl | rfl | rfl | rfl
  · rw [if_pos rfl]
  · rw [if_neg (by decide), if_neg (by decide), if_neg (by decide), if_pos rfl]
  · rw [if_neg (by decide), if_neg (by decide), if_pos rfl]
  · rw [if_neg (by decide), if_neg (by decide), if_neg (by decide), if_neg (by decide), if_pos rfl]
  · rw [if_neg (by decide), if_pos rfl]
theorem j52n {sz at' be tk to : Int32} (h : ¬ Ltr to) : f_X7_readLetters_J52 fu t7 sz at' be tk to = f_X7_readLetters_J102 fu t7 sz at' be tk to 0 := by
  unfold f_X7_readLetters_J52
  rw [if_neg (fun q => h (.inl q)), if_neg (fun q => h (.inr (.inr (.inr (.inr q))))), if_neg (fun q => h (.inr (.inr (.inl q)))), if_neg (fun q => h (.inr (.inl q))), if_neg (fun q => h (.inr (.inr (.inr (.inl q)))))]
theorem nIone {a : Nat} (h : a < 2 ^ 31) : (nI a = (1 : Int32)) ↔ a = 1 := by
  rw [show (1 : Int32) = nI 1 from rfl]
  exact nI_eq h (by decide)
theorem tok67 (hT : Txt n t t6 t7) {p : Nat} (hp : p ≤ n) (hf : 201 < fu) (tk6 tA6 va6 be7 tk7 to7 : Int32) : ∃ b p6 k6 v6 p7 k7 v7, p ≤ b ∧ b ≤ n ∧ f_X2_nextToken fu t6 (nI n) (nI p) tk6 tA6 va6 = some (p6, k6, nI b, v6) ∧ f_X7_reads fu t7 (nI n) (nI p) be7 tk7 to7 = some (p7, nI b, k7, v7) ∧ Tk n b p6 k6 v6 p7 k7 v7 := by
  have hn := hT.1
  obtain ⟨b, hb1, hb2, e6, e7⟩ := skip67 (fu := fu) hT (tk6 := tk6) (tA6 := tA6) (va6 := va6) (be7 := be7) (tk7 := tk7) (to7 := to7) (n - p) p fu (by omega) (by omega)
  have e6 : f_X2_nextToken fu t6 (nI n) (nI p) tk6 tA6 va6 = f_X2_nextToken_J38 fu t6 (nI n) (nI b) tk6 tA6 va6 := e6
  have e7 : f_X7_reads fu t7 (nI n) (nI p) be7 tk7 to7 = f_X7_reads_J38 fu t7 (nI n) (nI b) be7 tk7 to7 := e7
  unfold f_X2_nextToken_J38 at e6
  unfold f_X7_reads_J38 at e7
  by_cases hbn : b = n
  · subst hbn
    rw [if_neg (nI_nlt (Nat.le_refl _) (by omega))] at e6
    rw [if_pos rfl] at e7
    exact ⟨b, _, _, _, _, _, _, hb1, Nat.le_refl _, e6, e7, .inl ⟨rfl, rfl⟩⟩
  · have hk := hT.2 b (by omega)
    have qb : ∀ {α : Type} (X : Option α), xb (nI b) 200 X = X := fun X => xb_nI X (by omega) (by decide)
    have hb3 : b < n := by omega
    rw [if_pos (nI_lt hb3 (by omega)), show (97 : Int32) = nI 97 from rfl, show (122 : Int32) = nI 122 from rfl] at e6
    rw [if_neg (fun q => hbn ((nI_eq (by omega) (by omega)).mp q))] at e7
    simp only [qb, cl b (show b < 2 ^ 31 by omega), hk.2.1, ltE (show t b < 2 ^ 31 by omega) (show 97 < 2 ^ 31 by decide), ltE (show 122 < 2 ^ 31 by decide) (show t b < 2 ^ 31 by omega)] at e6
    simp only [qb, cl b (show b < 2 ^ 31 by omega), hk.2.2, isL7 hk.1, isF7 hk.1, bnd, b01i] at e7
    by_cases cL : 97 ≤ t b ∧ t b ≤ 122
    · rw [if_neg (show ¬ t b < 97 by omega), if_neg (show ¬ 122 < t b by omega)] at e6
      rw [if_pos cL] at e7
      obtain ⟨q, h1, h2, h3, l6, l7⟩ := let67 (fu := fu) hT (n - b) b fu (by omega) (by omega)
      have hq := h3 hb3 cL
      unfold f_X2_takeLetters at e6
      unfold f_X7_readLetters at e7
      rw [qb, cl b (by omega), hk.2.1, l6] at e6
      rw [qb, cl b (by omega), hk.2.2, l7] at e7
      unfold f_X2_takeLetters_J65 at e6
      rw [pk_sub h1, show (1 : Int32) = nI 1 from rfl, leE (by omega) (by decide)] at e6
      by_cases cq : q - b ≤ 1
      · rw [if_pos cq, bnd] at e6
        by_cases cl' : Ltr (nI (t b))
        · rw [j52y cl'] at e7
          unfold f_X7_readLetters_J102 at e7
          rw [if_neg (show ¬ (1 : Int32) = 0 by decide), pk_sub h1, if_pos ((nIone (by omega)).mpr (by omega)), bnd] at e7
          exact ⟨b, _, _, _, _, _, _, hb1, hb2, e6, e7, .inr ⟨hb3, .inl ⟨q, hq, h2, rfl, rfl, .inl ⟨rfl, rfl, rfl, cl'⟩⟩⟩⟩
        · rw [j52n cl'] at e7
          unfold f_X7_readLetters_J102 at e7
          rw [if_pos rfl, bnd] at e7
          exact ⟨b, _, _, _, _, _, _, hb1, hb2, e6, e7, .inr ⟨hb3, .inr ⟨rfl, .inr ⟨rfl, cl'⟩⟩⟩⟩
      · rw [if_neg cq, bnd] at e6
        have e7' : ∃ v7, f_X7_reads fu t7 (nI n) (nI p) be7 tk7 to7 = some (nI q, nI b, 4, v7) := by
          by_cases cl' : Ltr (nI (t b))
          · rw [j52y cl'] at e7
            unfold f_X7_readLetters_J102 at e7
            rw [if_neg (show ¬ (1 : Int32) = 0 by decide), pk_sub h1, if_neg (fun r => by have := (nIone (by omega)).mp r; omega), bnd] at e7
            exact ⟨_, e7⟩
          · rw [j52n cl'] at e7
            unfold f_X7_readLetters_J102 at e7
            rw [if_pos rfl, bnd] at e7
            exact ⟨_, e7⟩
        obtain ⟨v7, e7'⟩ := e7'
        refine ⟨b, _, _, _, _, _, _, hb1, hb2, e6, e7', .inr ⟨hb3, .inr ⟨rfl, .inr ⟨rfl, ?_⟩⟩⟩⟩
        show ¬ Ltr 0
        unfold Ltr
        decide
    · rw [if_neg cL] at e7
      have e6' : f_X2_nextToken fu t6 (nI n) (nI p) tk6 tA6 va6 = f_X2_nextToken_J100 fu t6 (nI n) (nI b) tk6 (nI b) va6 := by
        by_cases c1 : t b < 97
        · rw [if_pos c1] at e6
          exact e6
        · rw [if_neg c1, if_pos (show 122 < t b by omega)] at e6
          exact e6
      unfold f_X2_nextToken_J100 f_X2_nextToken_J135 at e6'
      simp only [qb, cl b (show b < 2 ^ 31 by omega), hk.2.1, show (48 : Int32) = nI 48 from rfl, show (57 : Int32) = nI 57 from rfl, ltE (show t b < 2 ^ 31 by omega) (show 48 < 2 ^ 31 by decide), ltE (show 57 < 2 ^ 31 by decide) (show t b < 2 ^ 31 by omega)] at e6'
      by_cases cD : 48 ≤ t b ∧ t b ≤ 57
      · rw [if_neg (show ¬ t b < 48 by omega), if_neg (show ¬ 57 < t b by omega)] at e6'
        rw [if_pos cD] at e7
        obtain ⟨q, w, h1, h2, h3, h4, d6, d7⟩ := dig67 (fu := fu) hT (n - b) b fu 0 (by omega) (by omega) (by omega)
        have hq := h4 hb3 cD
        unfold f_X2_takeDigits at e6'
        unfold f_X7_readNumber at e7
        rw [qb, cl b (by omega), hk.2.1, show (0 : Int32) = nI 0 from rfl, d6, d6, show (48 : Int32) = nI 48 from rfl, eqE (by omega) (by decide)] at e6'
        rw [show (0 : Int32) = nI 0 from rfl, d7] at e7
        unfold f_X2_takeDigits_J110 f_X2_takeDigits_J141 at e6'
        unfold f_X7_readNumber_J69 f_X7_readNumber_J103 at e7
        rw [pk_sub h1, show (1 : Int32) = nI 1 from rfl, show (99 : Int32) = nI 99 from rfl] at e6'
        simp only [ltE (show 99 < 2 ^ 31 by decide) (show w < 2 ^ 31 by omega), leE (show q - b < 2 ^ 31 by omega) (show 1 < 2 ^ 31 by decide)] at e6'
        rw [pk_sub h1, show (1 : Int32) = nI 1 from rfl, show (99 : Int32) = nI 99 from rfl, ltE (by decide) (by omega), leE (by omega) (by decide), qb, cl b (by omega), hk.2.2, show (48 : Int32) = nI 48 from rfl, eqE (by omega) (by decide)] at e7
        have z10 : ¬ nI 1 = (0 : Int32) := by decide
        have z00 : nI 0 = (0 : Int32) := rfl
        simp only [z00, if_true, if_neg z10] at e6'
        by_cases c1 : 99 < w
        · simp only [if_pos c1, bnd, ite_self] at e6' e7
          exact ⟨b, _, _, _, _, _, _, hb1, hb2, e6', e7, .inr ⟨hb3, .inr ⟨rfl, .inl rfl⟩⟩⟩
        · simp only [if_neg c1] at e6' e7
          by_cases c2 : q - b ≤ 1
          · simp only [if_pos c2, bnd, ite_self] at e6' e7
            exact ⟨b, _, _, _, _, _, _, hb1, hb2, e6', e7, .inr ⟨hb3, .inl ⟨q, hq, h2, rfl, rfl, .inr (.inr ⟨rfl, rfl, w, by omega, rfl, rfl⟩)⟩⟩⟩
          · simp only [if_neg c2] at e6' e7
            by_cases c3 : t b = 48
            · simp only [if_pos c3, bnd] at e6' e7
              exact ⟨b, _, _, _, _, _, _, hb1, hb2, e6', e7, .inr ⟨hb3, .inr ⟨rfl, .inl rfl⟩⟩⟩
            · simp only [if_neg c3, bnd] at e6' e7
              exact ⟨b, _, _, _, _, _, _, hb1, hb2, e6', e7, .inr ⟨hb3, .inl ⟨q, hq, h2, rfl, rfl, .inr (.inr ⟨rfl, rfl, w, by omega, rfl, rfl⟩)⟩⟩⟩
      · rw [if_neg cD] at e7
        have e6'' : f_X2_nextToken fu t6 (nI n) (nI p) tk6 tA6 va6 = (f_X2_takeOne t6 (nI b) tk6).bind (fun r1 => some (r1.1, r1.2, nI b, va6)) := by
          by_cases c1 : t b < 48
          · rw [if_pos c1] at e6'
            exact e6'
          · rw [if_neg c1, if_pos (show 57 < t b by omega)] at e6'
            exact e6'
        unfold f_X2_takeOne f_X2_takeOne_J20 at e6''
        unfold f_X7_reads_J129 at e7
        rw [qb, cl b (by omega), hk.2.1, show (59 : Int32) = nI 59 from rfl, eqE (by omega) (by decide), show nI b + 1 = nI (b + 1) from nI_add b 1] at e6''
        rw [show (59 : Int32) = nI 59 from rfl, eqE (by omega) (by decide), show nI b + 1 = nI (b + 1) from nI_add b 1, if_pos rfl, if_neg (show ¬ (4 : Int32) = 3 by decide)] at e7
        by_cases c : t b = 59
        · rw [if_pos c, bnd] at e6''
          rw [if_pos c] at e7
          exact ⟨b, _, _, _, _, _, _, hb1, hb2, e6'', e7, .inr ⟨hb3, .inl ⟨b + 1, by omega, by omega, rfl, rfl, .inr (.inl ⟨rfl, rfl⟩)⟩⟩⟩
        · rw [if_neg c, bnd] at e6''
          rw [if_neg c] at e7
          exact ⟨b, _, _, _, _, _, _, hb1, hb2, e6'', e7, .inr ⟨hb3, .inr ⟨rfl, .inl rfl⟩⟩⟩
end TOKENS
