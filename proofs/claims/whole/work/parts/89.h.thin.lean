/-! the fog; alone; leads -/
def Thick (T : Nat → Nat → Nat) (m : Nat) : Bool := decide (T 0 3 = 0 ∨ T 9 (m / 10 % T 0 3) = 1)
def bi (b : Bool) : Int32 := if b then 1 else 0
theorem bi0 {α : Type} (b : Bool) (A B : α) : (if bi b = 0 then A else B) = if b then B else A := by
  cases b
  · rw [if_pos (by decide)]; rfl
  · rw [if_neg (by decide)]; rfl
section THIN
variable {T : Nat → Nat → Nat} {nc ns ng nb hd : Int32} {mk ea eb ln pa fe kn hi bl tw : Nat → Int32}
theorem thick6 (hO : TOk T) (h6 : TwA T nc ns ng nb hd mk ea eb ln pa fe kn hi bl) {m : Nat} (hm : m < 2 ^ 31) : f_X4_isThick nb bl (nI m) = some (bi (Thick T m)) := by
  have o := hO.2.2.2.1
  unfold f_X4_isThick Thick
  rw [h6.2.2.2.1, show (1 : Int32) = nI 1 from rfl, ltE (by omega) (by decide)]
  by_cases z : T 0 3 = 0
  · rw [if_pos (by omega)]
    simp [z]
    rfl
  · have hq : m / 10 % T 0 3 < T 0 3 := Nat.mod_lt _ (by omega)
    have o9 := hO.2.2.2.2.2.2.2.2 _ hq
    have hd : m / 10 ≤ m := Nat.div_le_self m 10
    rw [if_neg (by omega), if_pos (nI_pos' hm), xd_nI _ (by omega) (by omega), show (10 : Int32) = nI 10 from rfl, pk_div hm (by decide) (by decide), pk_rem (by omega) (by omega) (by omega), xb_nI _ (by omega) (by decide), cl _ (by omega), h6.2.2.2.2.2.2.2.2 _ hq, eqE (by omega) (by decide)]
    by_cases e : T 9 (m / 10 % T 0 3) = 1
    · rw [if_pos e]
      simp [e]
      rfl
    · rw [if_neg e]
      simp [e, z]
      rfl
theorem thick7 (hO : TOk T) (h7 : TwB T tw) {m : Nat} (hm : m < 2 ^ 31) : f_X7_isThick tw (nI m) = some (bi (Thick T m)) := by
  have o := hO.2.2.2.1
  unfold f_X7_isThick Thick
  have q4 : ∀ {α : Type} (A : Option α), xb (4 : Int32) 64 A = A := fun A => xb_l (by decide)
  simp only [q4, show ((4 : Int32).toNatClampNeg) = 4 from rfl, h7.2.2.2.2.1]
  by_cases z : T 0 3 = 0
  · rw [z, if_pos (show nI 0 = 0 from rfl)]
    simp
    rfl
  · have hq : m / 10 % T 0 3 < T 0 3 := Nat.mod_lt _ (by omega)
    have o9 := hO.2.2.2.2.2.2.2.2 _ hq
    have hd : m / 10 ≤ m := Nat.div_le_self m 10
    rw [if_neg (nI_ne0 (by omega) (by omega)), xd_nI _ (by omega) (by omega), show (10 : Int32) = nI 10 from rfl, pk_div hm (by decide) (by decide), pk_rem (by omega) (by omega) (by omega), show (56 : Int32) + nI (m / 10 % T 0 3) = nI (56 + m / 10 % T 0 3) from nI_add 56 _, xb_nI _ (by omega) (by decide), cl _ (by omega), h7.2.2.2.2.2.2.2.2 _ hq, show (1 : Int32) = nI 1 from rfl, eqE (by omega) (by decide)]
    by_cases e : T 9 (m / 10 % T 0 3) = 1
    · rw [if_pos e]
      simp [e]
      rfl
    · rw [if_neg e]
      simp [e, z]
      rfl
def thinR (T : Nat → Nat → Nat) (m : Nat) : Nat → Nat → Bool
  | _, 0 => true
  | x, d + 1 => !Thick T (m + x) && thinR T m (x + 1) d
theorem thinR_iff (T : Nat → Nat → Nat) (m : Nat) : ∀ (d x : Nat), thinR T m x d = true ↔ ∀ k, x ≤ k → k < x + d → Thick T (m + k) = false := by
  intro d
  induction d with
  | zero =>
    intro x
    exact ⟨fun _ k h1 h2 => by omega, fun _ => rfl⟩
  | succ d ih =>
    intro x
    show (!Thick T (m + x) && thinR T m (x + 1) d) = true ↔ _
    rw [Bool.and_eq_true, ih]
    constructor
    · intro h k h1 h2
      by_cases e : k = x
      · subst e
        simpa using h.1
      · exact h.2 k (by omega) (by omega)
    · intro h
      refine ⟨by simpa using h x (by omega) (by omega), fun k h1 h2 => h k (by omega) (by omega)⟩
theorem thin5 (hO : TOk T) (h7 : TwB T tw) {m L fu : Nat} (hm : m + L < 2 ^ 31) : ∀ (d x n : Nat) (b : Bool), x + d = L → d < n → f_X7_isThin_L5 fu n tw (nI m) (nI L) (bi b) (nI x) = some (bi (b && thinR T m x d)) := by
  intro d
  induction d with
  | zero =>
    intro x n b hx hn
    obtain ⟨k, rfl⟩ : ∃ k, n = k + 1 := ⟨n - 1, by omega⟩
    show f_X7_isThin_L5b fu (f_X7_isThin_L5 fu k) tw (nI m) (nI L) (bi b) (nI x) = _
    unfold f_X7_isThin_L5b
    rw [leE (by omega) (by omega), if_pos (by omega)]
    unfold bi
    rw [xz_b]
    cases b <;> rfl
  | succ d ih =>
    intro x n b hx hn
    obtain ⟨k, rfl⟩ : ∃ k, n = k + 1 := ⟨n - 1, by omega⟩
    show f_X7_isThin_L5b fu (f_X7_isThin_L5 fu k) tw (nI m) (nI L) (bi b) (nI x) = _
    unfold f_X7_isThin_L5b
    rw [leE (by omega) (by omega), if_neg (by omega), bi0, nI_add, thick7 hO h7 (by omega), show nI x + 1 = nI (x + 1) from nI_add x 1]
    simp only [Option.bind_some, bi0]
    have h0 := ih (x + 1) k false (by omega) (by omega)
    have h1 := ih (x + 1) k true (by omega) (by omega)
    show (if b = true then (if Thick T (m + x) = true then f_X7_isThin_L5 fu k tw (nI m) (nI L) (bi false) (nI (x + 1)) else f_X7_isThin_L5 fu k tw (nI m) (nI L) (bi true) (nI (x + 1))) else f_X7_isThin_L5 fu k tw (nI m) (nI L) (bi false) (nI (x + 1))) = some (bi (b && (!Thick T (m + x) && thinR T m (x + 1) d)))
    rw [h0, h1]
    cases b
    · rfl
    · cases Thick T (m + x) <;> rfl
theorem isThin7 (hO : TOk T) (h7 : TwB T tw) {m L fu : Nat} (hm : m + L < 2 ^ 31) (hf : L < fu) : f_X7_isThin fu tw (nI m) (nI L) = some (bi (thinR T m 0 L)) := by
  have := thin5 hO h7 (fu := fu) hm L 0 fu true (by omega) hf
  rw [Bool.true_and] at this
  exact this
theorem thin2 (hO : TOk T) (h6 : TwA T nc ns ng nb hd mk ea eb ln pa fe kn hi bl) {m fu : Nat} (hm : m + 9 < 2 ^ 31) : ∀ (d x n : Nat), x + d = 9 → d < n → ∃ t, x ≤ t ∧ t ≤ 9 ∧ f_X4_thinFrom_L2 fu n nb bl (nI m) (nI x) = some (nI t) ∧ (∀ k, x ≤ k → k < t → Thick T (m + k) = false) ∧ (t = 9 ∨ Thick T (m + t) = true) := by
  intro d
  induction d with
  | zero =>
    intro x n hx hn
    obtain ⟨k, rfl⟩ : ∃ k, n = k + 1 := ⟨n - 1, by omega⟩
    refine ⟨9, by omega, by omega, ?_, fun k h1 h2 => by omega, Or.inl rfl⟩
    show f_X4_thinFrom_L2b fu (f_X4_thinFrom_L2 fu k) nb bl (nI m) (nI x) = _
    unfold f_X4_thinFrom_L2b
    rw [show x = 9 by omega, if_pos (by decide)]
  | succ d ih =>
    intro x n hx hn
    obtain ⟨k, rfl⟩ : ∃ k, n = k + 1 := ⟨n - 1, by omega⟩
    have hstep : f_X4_thinFrom_L2 fu (k + 1) nb bl (nI m) (nI x) = if Thick T (m + x) then some (nI x) else f_X4_thinFrom_L2 fu k nb bl (nI m) (nI (x + 1)) := by
      show f_X4_thinFrom_L2b fu (f_X4_thinFrom_L2 fu k) nb bl (nI m) (nI x) = _
      unfold f_X4_thinFrom_L2b
      rw [show (9 : Int32) = nI 9 from rfl, leE (by decide) (by omega), if_neg (by omega), nI_add, thick6 hO h6 (by omega), show nI x + 1 = nI (x + 1) from nI_add x 1]
      simp only [Option.bind_some, bi0]
    rw [hstep]
    by_cases e : Thick T (m + x) = true
    · rw [if_pos e]
      exact ⟨x, by omega, by omega, rfl, fun k h1 h2 => by omega, Or.inr e⟩
    · rw [if_neg e]
      obtain ⟨t, h1, h2, h3, h4, h5⟩ := ih (x + 1) k (by omega) (by omega)
      refine ⟨t, by omega, h2, h3, fun j g1 g2 => ?_, h5⟩
      by_cases e2 : j = x
      · subst e2
        simpa using e
      · exact h4 j (by omega) g2
theorem thinFrom6 (hO : TOk T) (h6 : TwA T nc ns ng nb hd mk ea eb ln pa fe kn hi bl) {m fu : Nat} (hm : m + 9 < 2 ^ 31) (hf : 9 < fu) : ∃ t, t ≤ 9 ∧ f_X4_thinFrom fu nb bl (nI m) = some (nI t) ∧ ∀ L, L ≤ 9 → (L ≤ t ↔ thinR T m 0 L = true) := by
  obtain ⟨t, -, h2, h3, h4, h5⟩ := thin2 hO h6 (fu := fu) hm 9 0 fu (by omega) hf
  refine ⟨t, h2, h3, fun L hL => ?_⟩
  rw [thinR_iff]
  constructor
  · intro h k h1 h9
    exact h4 k (by omega) (by omega)
  · intro h
    rcases Nat.lt_or_ge t L with g | g
    · rcases h5 with e | e
      · omega
      · rw [h t (by omega) (by omega)] at e
        cases e
    · exact g
/-- whether one may walk alone -/
theorem mayGo_eq (hO : TOk T) (h6 : TwA T nc ns ng nb hd mk ea eb ln pa fe kn hi bl) (h7 : TwB T tw) {co mi pd le : Int32} {now : Nat → Int32} (hr : RowS T co mi pd le now 0) {s : Nat} (hs : s < T 0 1) {fu : Nat} (hf : 20 ≤ fu) : ∃ b : Int32, (b = 0 ∨ b = 1) ∧ f_X6_mayWalkAlone fu nb ea eb ln bl co mi le (nI s) = some b ∧ f_X7_mayGo fu tw now (nI s) = some b ∧ (b = 1 → le = -9 ∧ ∃ c m, c < T 0 0 ∧ co = nI c ∧ mi = nI m ∧ (T 2 s = c ∨ T 3 s = c) ∧ m + T 4 s ≤ 9999) ∧ (¬ le = -9 → b = 0) := by
  obtain ⟨⟨c, ec, hc⟩, ⟨m, em, hm⟩, hp, hl, n0, n1, n2, n3⟩ := hr
  have o1 := hO.1
  have o3 := hO.2.2.2.2.2.2.1 s hs
  have o2 := hO.2.1
  have hc : c < T 0 0 := by rcases hc with h | h <;> omega
  have q0 : ∀ {α : Type} (A : Option α), xb (0 : Int32) 4 A = A := fun A => xb_l (by decide)
  have q1 : ∀ {α : Type} (A : Option α), xb (1 : Int32) 4 A = A := fun A => xb_l (by decide)
  have q3 : ∀ {α : Type} (A : Option α), xb (3 : Int32) 4 A = A := fun A => xb_l (by decide)
  have q9 : ∀ {α : Type} (A : Option α), xb (nI s) 9 A = A := fun A => xb_nI A (by omega) (by decide)
  rw [Nat.zero_add] at n1 n2 n3
  rw [if_neg (by omega)] at n0
  unfold f_X6_mayWalkAlone f_X7_mayGo
  simp only [q0, q1, q3, q9, show ((0 : Int32).toNatClampNeg) = 0 from rfl, show ((1 : Int32).toNatClampNeg) = 1 from rfl, show ((3 : Int32).toNatClampNeg) = 3 from rfl, n0, n1, n3]
  by_cases e : le = -9
  · obtain ⟨t, ht, et, hL⟩ := thinFrom6 hO h6 (m := m) (fu := fu) (by omega) (by omega)
    rw [if_pos e, if_pos e, ec, em, at6 hO h6 hs (by omega), over7 hO h7 hs (by omega), length7 hO h7 hs, et, cl s (by omega), (h6.2.2.2.2.2.2.1 s hs).2.2]
    simp only [Option.bind_some]
    rw [isThin7 hO h7 (by omega) (by omega)]
    have L1 : ∀ A B : Option Int32, (if nI 9999 < nI (m + T 4 s) then A else B) = if 9999 < m + T 4 s then A else B := fun A B => ltE (by decide) (by omega) A B
    simp only [Option.bind_some, nI_add, show (9999 : Int32) = nI 9999 from rfl, L1, bi0]
    rw [ltE (by omega) (by omega)]
    by_cases a1 : T 2 s = c ∨ T 3 s = c
    · have ha : ¬ nI (if T 2 s = c then T 3 s else T 2 s) = -9 := neg9 (by split <;> omega)
      simp only [if_pos a1, if_neg ha]
      have hL' := hL (T 4 s) (by omega)
      by_cases b1 : 9999 < m + T 4 s
      · refine ⟨0, Or.inl rfl, by simp [b1], ?_, fun h => absurd h (by decide), fun h => absurd e h⟩
        simp [b1]
      · by_cases b2 : t < T 4 s
        · refine ⟨0, Or.inl rfl, by simp [b1, b2], ?_, fun h => absurd h (by decide), fun h => absurd e h⟩
          have : ¬ thinR T m 0 (T 4 s) = true := fun q => by have := hL'.mpr q; omega
          simp [this]
        · refine ⟨1, Or.inr rfl, by simp [b1, b2], ?_, fun _ => ⟨e, c, m, hc, rfl, rfl, a1, by omega⟩, fun h => absurd e h⟩
          simp [hL'.mp (by omega), b1]
    · simp only [if_neg a1]
      exact ⟨0, Or.inl rfl, rfl, rfl, fun h => absurd h (by decide), fun h => absurd e h⟩
  · rw [if_neg e, if_neg e]
    exact ⟨0, Or.inl rfl, rfl, rfl, fun h => absurd h (by decide), fun _ => rfl⟩
end THIN
theorem st_fog : St_fog Sim := by
  intro I F as J G tr x1 h
  obtain ⟨T, hO, h6, h7, r⟩ := h
  unfold f_X6_fog f_X7_fog
  rw [rng6 x1 9999 9999 rfl, in7n x1 0 9999 0 9999 rfl rfl]
  simp only [Option.bind_some, b01i]
  by_cases c : 0 ≤ x1.toInt ∧ x1.toInt ≤ 9999
  · rw [if_pos c, if_pos c]
    obtain ⟨k, hk, rfl⟩ : ∃ k : Nat, k < 10000 ∧ x1 = nI k := of_in c.1 (by omega)
    rw [thick6 hO h6 (by omega), thick7 hO h7 (by omega)]
    simp only [Option.bind_some, bi0]
    cases Thick T k
    · exact ⟨_, _, rfl, rfl, rfl, T, hO, h6, h7, r⟩
    · exact ⟨_, _, rfl, rfl, rfl, T, hO, h6, h7, r⟩
  · rw [if_neg c, if_neg c]
    exact ⟨_, _, rfl, rfl, rfl, T, hO, h6, h7, r⟩
