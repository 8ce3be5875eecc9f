/-! byOne, taught -/
/-- a counted loop over a pure state -/
def itF {σ : Type} (f : Nat → σ → σ) : Nat → Nat → σ → σ
  | 0, _, s => s
  | d + 1, x, s => itF f d (x + 1) (f x s)
theorem fold_loop {σ R : Type} (L : Nat → σ → Int32 → Option R) (E : σ → Option R) (f : Nat → σ → σ) (P : Nat → σ → Prop) (N : Nat) (hs : ∀ n x s, x < N → P x s → L (n + 1) s (nI x) = L n (f x s) (nI (x + 1)) ∧ P (x + 1) (f x s)) (he : ∀ n s, P N s → L (n + 1) s (nI N) = E s) : ∀ (d x n : Nat) (s : σ), x + d = N → d < n → P x s → L n s (nI x) = E (itF f d x s) ∧ P N (itF f d x s) := by
  intro d
  induction d with
  | zero =>
    intro x n s hx hn hP
    obtain ⟨k, rfl⟩ : ∃ k, n = k + 1 := ⟨n - 1, by omega⟩
    have : x = N := by omega
    subst this
    exact ⟨he k s hP, hP⟩
  | succ d ih =>
    intro x n s hx hn hP
    obtain ⟨k, rfl⟩ : ∃ k, n = k + 1 := ⟨n - 1, by omega⟩
    obtain ⟨h1, h2⟩ := hs k x s (by omega) hP
    rw [h1]
    exact ih (x + 1) k _ (by omega) (by omega) h2
theorem nI_eq0 {a : Nat} (ha : a < 2 ^ 31) : nI a = 0 ↔ a = 0 := by
  rw [show (0 : Int32) = nI 0 from rfl]
  exact nI_eq ha (by decide)
theorem if0 {α : Type} {a : Nat} (ha : a < 2 ^ 31) (A B : α) : (if nI a = 0 then A else B) = if a = 0 then A else B := by
  by_cases h : a = 0
  · rw [if_pos h, if_pos ((nI_eq0 ha).mpr h)]
  · rw [if_neg h, if_neg (fun e => h ((nI_eq0 ha).mp e))]
theorem and_lt7 {a b : Nat} (ha : a < 128) : a &&& b < 128 := Nat.lt_of_le_of_lt Nat.and_le_left ha
/-- both ends of a street -/
def bothE (T : Nat → Nat → Nat) (s : Nat) : Nat := 2 ^ T 2 s ||| 2 ^ T 3 s
/-- one street of a pass -/
def ps1 (T : Nat → Nat → Nat) (K x m : Nat) : Nat := if K.testBit x then (if m &&& bothE T x = 0 then m else m ||| bothE T x) else m
def psR (T : Nat → Nat → Nat) (K : Nat) (m : Nat) : Nat := itF (ps1 T K) (T 0 1) 0 m
theorem p2lt {k n : Nat} (h : k < n) : 2 ^ k < 2 ^ n := Nat.pow_lt_pow_right (by decide) h
section BYONE
variable {T : Nat → Nat → Nat} {nc ns ng nb hd : Int32} {mk ea eb ln pa fe kn hi bl tw : Nat → Int32}
theorem bothE_lt (hO : TOk T) {s : Nat} (hs : s < T 0 1) : bothE T s < 2 ^ T 0 0 := by
  have h := hO.2.2.2.2.2.2.1 s hs
  exact Nat.or_lt_two_pow (p2lt h.1) (p2lt h.2.1)
theorem ps1_lt (hO : TOk T) {K x m : Nat} (hx : x < T 0 1) (hm : m < 2 ^ T 0 0) : ps1 T K x m < 2 ^ T 0 0 := by
  unfold ps1
  split
  · split
    · exact hm
    · exact Nat.or_lt_two_pow hm (bothE_lt hO hx)
  · exact hm
theorem reach15 (hO : TOk T) (h6 : TwA T nc ns ng nb hd mk ea eb ln pa fe kn hi bl) {fu K r n m : Nat} {k5 : Int32 → (Nat → Int32) → (Nat → Int32) → Int32 → Int32 → Int32 → Option R_X4_reachedBy} (hK : K < 2 ^ 31) (hm : m < 2 ^ T 0 0) (hn : 10 ≤ n) : f_X4_reachedBy_L15 fu k5 n ns ea eb (nI K) (nI m) (nI r) 0 = k5 ns ea eb (nI K) (nI (psR T K m)) (nI (r + 1)) ∧ psR T K m < 2 ^ T 0 0 := by
  have o1 := hO.1
  have o2 := hO.2.1
  have o4 := pw7 hO
  refine fold_loop (fun n m x => f_X4_reachedBy_L15 fu k5 n ns ea eb (nI K) (nI m) (nI r) x) (fun m => k5 ns ea eb (nI K) (nI m) (nI (r + 1))) (ps1 T K) (fun _ m => m < 2 ^ T 0 0) (T 0 1) ?_ ?_ (T 0 1) 0 n m (by omega) (by omega) hm
  · intro n x m hx hm
    refine ⟨?_, ps1_lt hO hx hm⟩
    show f_X4_reachedBy_L15b fu k5 (f_X4_reachedBy_L15 fu k5 n) ns ea eb (nI K) (nI m) (nI r) (nI x) = _
    unfold f_X4_reachedBy_L15b
    have h := hO.2.2.2.2.2.2.1 x hx
    have h4 := h6.2.2.2.2.2.2.1 x hx
    have hb := bothE_lt hO hx
    rw [if_neg (by rw [h6.2.1]; exact nI_ge (by omega) (by omega)), xb_nI _ (by omega) (by decide), xb_nI _ (by omega) (by decide), cl _ (by omega), h4.1, h4.2.1, bit1 hK (by omega), oneShl (by omega), oneShl (by omega), fa_or, show nI x + 1 = nI (x + 1) from nI_add x 1, show 2 ^ T 2 x ||| 2 ^ T 3 x = bothE T x from rfl, fa_and, fa_or, if0 (by have := Nat.and_le_left (n := m) (m := bothE T x); omega)]
    unfold ps1
    split
    · split <;> rfl
    · rfl
  · intro n m hm
    show f_X4_reachedBy_L15b fu k5 (f_X4_reachedBy_L15 fu k5 n) ns ea eb (nI K) (nI m) (nI r) (nI (T 0 1)) = _
    unfold f_X4_reachedBy_L15b
    rw [if_pos (by rw [h6.2.1]; exact nI_le (Nat.le_refl _) (by omega)), show nI r + 1 = nI (r + 1) from nI_add r 1]
theorem reached6 (hO : TOk T) (h6 : TwA T nc ns ng nb hd mk ea eb ln pa fe kn hi bl) {fu K m : Nat} (hK : K < 2 ^ 31) (hm : m < 2 ^ T 0 0) (hf : 10 ≤ fu) : f_X4_reachedBy fu ns ea eb (nI K) (nI m) = some (nI (itF (fun _ => psR T K) 7 0 m)) ∧ itF (fun _ => psR T K) 7 0 m < 2 ^ T 0 0 := by
  refine fold_loop (fun n m x => f_X4_reachedBy_L5 fu n ns ea eb (nI K) (nI m) x) (fun m => some (nI m)) (fun _ => psR T K) (fun _ m => m < 2 ^ T 0 0) 7 ?_ ?_ 7 0 fu m (by omega) (by omega) hm
  · intro n x m hx hm
    have h := reach15 (fu := fu) (r := x) (k5 := f_X4_reachedBy_L5 fu n) hO h6 hK hm hf
    refine ⟨?_, h.2⟩
    show f_X4_reachedBy_L5b fu (f_X4_reachedBy_L5 fu n) ns ea eb (nI K) (nI m) (nI x) = _
    unfold f_X4_reachedBy_L5b
    rw [if_neg (by rw [show (7 : Int32) = nI 7 from rfl]; exact nI_ge hx (by omega))]
    exact h.1
  · intro n m hm
    show f_X4_reachedBy_L5b fu (f_X4_reachedBy_L5 fu n) ns ea eb (nI K) (nI m) (nI 7) = _
    unfold f_X4_reachedBy_L5b
    rw [if_pos (by decide)]
theorem reach19 (hO : TOk T) (h7 : TwB T tw) {fu K r n m : Nat} {k5 : (Nat → Int32) → Int32 → Int32 → Int32 → Option R_X7_reach} (hK : K < 2 ^ 31) (hm : m < 2 ^ T 0 0) (hn : 10 ≤ n) : f_X7_reach_L19 fu k5 n tw (nI K) (nI m) (nI r) 0 = k5 tw (nI K) (nI (psR T K m)) (nI (r + 1)) ∧ psR T K m < 2 ^ T 0 0 := by
  have o1 := hO.1
  have o2 := hO.2.1
  have o4 := pw7 hO
  have q1 : ∀ {α : Type} (A : Option α), xb (1 : Int32) 64 A = A := fun A => xb_l (by decide)
  refine fold_loop (fun n m x => f_X7_reach_L19 fu k5 n tw (nI K) (nI m) (nI r) x) (fun m => k5 tw (nI K) (nI m) (nI (r + 1))) (ps1 T K) (fun _ m => m < 2 ^ T 0 0) (T 0 1) ?_ ?_ (T 0 1) 0 n m (by omega) (by omega) hm
  · intro n x m hx hm
    refine ⟨?_, ps1_lt hO hx hm⟩
    show f_X7_reach_L19b fu k5 (f_X7_reach_L19 fu k5 n) tw (nI K) (nI m) (nI r) (nI x) = _
    unfold f_X7_reach_L19b
    have h := hO.2.2.2.2.2.2.1 x hx
    have h4 := h7.2.2.2.2.2.2.1 x hx
    have hb := bothE_lt hO hx
    rw [q1, show ((1 : Int32).toNatClampNeg) = 1 from rfl, h7.2.1, if_neg (nI_ge (by omega) (by omega)), show (13 : Int32) + 3 * nI x = nI (13 + 3 * x) from by rw [show (3 : Int32) = nI 3 from rfl, pk_mul, show (13 : Int32) = nI 13 from rfl, nI_add], show nI (13 + 3 * x) + 1 = nI (14 + 3 * x) from by rw [show (1 : Int32) = nI 1 from rfl, nI_add]; congr 1; omega, xb_nI _ (by omega) (by decide), xb_nI _ (by omega) (by decide), cl _ (by omega), cl _ (by omega), h4.1, h4.2.1, bit1 hK (by omega), oneShl (by omega), oneShl (by omega), fa_or, show nI x + 1 = nI (x + 1) from nI_add x 1, show 2 ^ T 2 x ||| 2 ^ T 3 x = bothE T x from rfl, fa_and, fa_or, show nI m ||| 0 = nI m from by rw [show (0 : Int32) = nI 0 from rfl, fa_or, Nat.or_zero], if0 (by have := Nat.and_le_left (n := m) (m := bothE T x); omega)]
    unfold ps1
    split
    · split <;> rfl
    · rfl
  · intro n m hm
    show f_X7_reach_L19b fu k5 (f_X7_reach_L19 fu k5 n) tw (nI K) (nI m) (nI r) (nI (T 0 1)) = _
    unfold f_X7_reach_L19b
    rw [q1, show ((1 : Int32).toNatClampNeg) = 1 from rfl, h7.2.1, if_pos (nI_le (Nat.le_refl _) (by omega)), show nI r + 1 = nI (r + 1) from nI_add r 1]
theorem reach7 (hO : TOk T) (h7 : TwB T tw) {fu K m : Nat} (hK : K < 2 ^ 31) (hm : m < 2 ^ T 0 0) (hf : 10 ≤ fu) : f_X7_reach fu tw (nI m) (nI K) = some (nI (itF (fun _ => psR T K) (T 0 0) 0 m)) := by
  have o1 := hO.1
  have q1 : ∀ {α : Type} (A : Option α), xb (0 : Int32) 64 A = A := fun A => xb_l (by decide)
  refine (fold_loop (fun n m x => f_X7_reach_L5 fu n tw (nI K) (nI m) x) (fun m => some (nI m)) (fun _ => psR T K) (fun _ m => m < 2 ^ T 0 0) (T 0 0) ?_ ?_ (T 0 0) 0 fu m (by omega) (by omega) hm).1
  · intro n x m hx hm
    have h := reach19 (fu := fu) (r := x) (k5 := f_X7_reach_L5 fu n) hO h7 hK hm hf
    refine ⟨?_, h.2⟩
    show f_X7_reach_L5b fu (f_X7_reach_L5 fu n) tw (nI K) (nI m) (nI x) = _
    unfold f_X7_reach_L5b
    rw [q1, show ((0 : Int32).toNatClampNeg) = 0 from rfl, h7.1, if_neg (nI_ge hx (by omega))]
    exact h.1
  · intro n m hm
    show f_X7_reach_L5b fu (f_X7_reach_L5 fu n) tw (nI K) (nI m) (nI (T 0 0)) = _
    unfold f_X7_reach_L5b
    rw [q1, show ((0 : Int32).toNatClampNeg) = 0 from rfl, h7.1, if_pos (nI_le (Nat.le_refl _) (by omega))]
end BYONE
/-! after as many rounds as there are corners nothing changes -/
def pc7 (m : Nat) : Nat := m % 2 + m / 2 % 2 + m / 4 % 2 + m / 8 % 2 + m / 16 % 2 + m / 32 % 2 + m / 64 % 2
theorem pc7_lt : ∀ a, a < 128 → ∀ b, b < 128 → a ||| b = b → a ≠ b → pc7 a < pc7 b := by decide +kernel
theorem pc7_full : ∀ n, n < 8 → ∀ a, a < 2 ^ n → n ≤ pc7 a → a = 2 ^ n - 1 := by decide +kernel
theorem or_full {n b : Nat} (hn : n ≤ 7) (hb : b < 2 ^ n) (h : (2 ^ n - 1) ||| b = b) : b = 2 ^ n - 1 := by
  have : ∀ n, n < 8 → ∀ b, b < 2 ^ n → (2 ^ n - 1) ||| b = b → b = 2 ^ n - 1 := by decide +kernel
  exact this n (by omega) b hb h
theorem itF_fix {f : Nat → Nat} {m : Nat} (h : f m = m) : ∀ (d x : Nat), itF (fun _ => f) d x m = m := by
  intro d
  induction d with
  | zero => intro x; rfl
  | succ d ih =>
    intro x
    show itF (fun _ => f) d (x + 1) (f m) = m
    rw [h]
    exact ih (x + 1)
theorem itF_add {f : Nat → Nat} : ∀ (a b x y m : Nat), itF (fun _ => f) (a + b) x m = itF (fun _ => f) b y (itF (fun _ => f) a x m) := by
  have e : ∀ (d x y m : Nat), itF (fun _ => f) d x m = itF (fun _ => f) d y m := by
    intro d
    induction d with
    | zero => intro x y m; rfl
    | succ d ih => intro x y m; exact ih (x + 1) (y + 1) (f m)
  intro a
  induction a with
  | zero => intro b x y m; rw [Nat.zero_add]; exact e b x y m
  | succ a ih =>
    intro b x y m
    rw [show a + 1 + b = (a + b) + 1 by omega]
    exact ih b (x + 1) y (f m)
theorem fixA {f : Nat → Nat} {n : Nat} (hn : n ≤ 7) (hf : ∀ m, m < 2 ^ n → f m < 2 ^ n ∧ m ||| f m = f m) : ∀ (d m x : Nat), m < 2 ^ n → n ≤ pc7 m + d → f (itF (fun _ => f) d x m) = itF (fun _ => f) d x m := by
  have h128 : 2 ^ n ≤ 128 := by
    have := Nat.pow_le_pow_right (n := 2) (by decide) hn
    omega
  intro d
  induction d with
  | zero =>
    intro m x hm hp
    show f m = m
    have e := pc7_full n (by omega) m hm (by omega)
    have h := hf m hm
    rw [e] at h ⊢
    exact or_full hn h.1 h.2
  | succ d ih =>
    intro m x hm hp
    have h := hf m hm
    by_cases e : f m = m
    · rw [itF_fix e]
      exact e
    · have := pc7_lt m (by omega) (f m) (by omega) h.2 (fun q => e q.symm)
      exact ih (f m) (x + 1) h.1 (by omega)
theorem or_sub {a b c : Nat} (h1 : a ||| b = b) (h2 : b ||| c = c) : a ||| c = c := by
  rw [← h2, ← Nat.or_assoc, h1]
theorem ps_inc (T : Nat → Nat → Nat) (K : Nat) : ∀ (d x m : Nat), m ||| itF (ps1 T K) d x m = itF (ps1 T K) d x m := by
  intro d
  induction d with
  | zero => intro x m; exact Nat.or_self m
  | succ d ih =>
    intro x m
    refine or_sub (b := ps1 T K x m) ?_ (ih (x + 1) (ps1 T K x m))
    unfold ps1
    split
    · split
      · exact Nat.or_self m
      · rw [← Nat.or_assoc, Nat.or_self]
    · exact Nat.or_self m
theorem ps_lt {T : Nat → Nat → Nat} (hO : TOk T) (K : Nat) : ∀ (d x m : Nat), x + d ≤ T 0 1 → m < 2 ^ T 0 0 → itF (ps1 T K) d x m < 2 ^ T 0 0 := by
  intro d
  induction d with
  | zero => intro x m _ hm; exact hm
  | succ d ih =>
    intro x m hx hm
    exact ih (x + 1) _ (by omega) (ps1_lt hO (by omega) hm)
/-- seven rounds, or as many as there are corners -/
theorem reach_eq {T : Nat → Nat → Nat} (hO : TOk T) {K m : Nat} (hm : m < 2 ^ T 0 0) : itF (fun _ => psR T K) 7 0 m = itF (fun _ => psR T K) (T 0 0) 0 m := by
  have o1 := hO.1
  have h := fixA (f := psR T K) (n := T 0 0) o1 (fun m hm => ⟨ps_lt hO K _ _ m (by omega) hm, ps_inc T K _ _ m⟩) (T 0 0) m 0 hm (by omega)
  have e := itF_add (f := psR T K) (T 0 0) (7 - T 0 0) 0 0 m
  rw [show T 0 0 + (7 - T 0 0) = 7 by omega] at e
  rw [e, itF_fix h]
/-- what is reached -/
def Rch (T : Nat → Nat → Nat) (K m : Nat) : Nat := itF (fun _ => psR T K) (T 0 0) 0 m
