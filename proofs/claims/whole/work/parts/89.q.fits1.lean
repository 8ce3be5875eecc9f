/-! fits: rows of corners -/
theorem rel_loop {σ R : Type} (L : Nat → σ → Int32 → Option R) (E : σ → Option R) (P : Nat → σ → Prop) (N : Nat) (hs : ∀ n x s, x < N → P x s → ∃ s', L (n + 1) s (nI x) = L n s' (nI (x + 1)) ∧ P (x + 1) s') (he : ∀ n s, P N s → L (n + 1) s (nI N) = E s) : ∀ (d x n : Nat) (s : σ), x + d = N → d < n → P x s → ∃ s', L n s (nI x) = E s' ∧ P N s' := by
  intro d
  induction d with
  | zero =>
    intro x n s hx hn hP
    obtain ⟨k, rfl⟩ : ∃ k, n = k + 1 := ⟨n - 1, by omega⟩
    have : x = N := by omega
    subst this
    exact ⟨s, he k s hP, hP⟩
  | succ d ih =>
    intro x n s hx hn hP
    obtain ⟨k, rfl⟩ : ∃ k, n = k + 1 := ⟨n - 1, by omega⟩
    obtain ⟨s1, h1, h2⟩ := hs k x s (by omega) hP
    rw [h1]
    exact ih (x + 1) k _ (by omega) (by omega) h2
def sumTo (g : Nat → Nat) : Nat → Nat
  | 0 => 0
  | x + 1 => sumTo g x + g x
theorem sumTo_le {g : Nat → Nat} {M : Nat} : ∀ x, (∀ k, k < x → g k ≤ M) → sumTo g x ≤ x * M := by
  intro x
  induction x with
  | zero => intro _; exact Nat.zero_le _
  | succ x ih =>
    intro h
    show sumTo g x + g x ≤ (x + 1) * M
    have h1 := ih (fun k hk => h k (by omega))
    have h2 := h x (by omega)
    rw [Nat.succ_mul]
    omega
theorem sumTo_pos {g : Nat → Nat} : ∀ x, 0 < sumTo g x ↔ ∃ k, k < x ∧ 0 < g k := by
  intro x
  induction x with
  | zero => exact ⟨fun h => absurd h (Nat.lt_irrefl 0), fun ⟨k, hk, _⟩ => by omega⟩
  | succ x ih =>
    show 0 < sumTo g x + g x ↔ _
    constructor
    · intro h
      by_cases e : 0 < g x
      · exact ⟨x, by omega, e⟩
      · obtain ⟨k, hk, hp⟩ := ih.mp (by omega)
        exact ⟨k, by omega, hp⟩
    · rintro ⟨k, hk, hp⟩
      by_cases e : k = x
      · subst e
        omega
      · have := ih.mpr ⟨k, by omega, hp⟩
        omega
theorem sumTo_congr {g h : Nat → Nat} : ∀ x, (∀ k, k < x → g k = h k) → sumTo g x = sumTo h x := by
  intro x
  induction x with
  | zero => intro _; rfl
  | succ x ih =>
    intro e
    show sumTo g x + g x = sumTo h x + h x
    rw [ih (fun k hk => e k (by omega)), e x (by omega)]
/-- how many rows of k + 1 corners with these marks end in c -/
def cntR (T : Nat → Nat → Nat) (mm : Nat → Nat) : Nat → Nat → Nat
  | 0, c => if T 1 c = mm 0 then 1 else 0
  | k + 1, c => if T 1 c = mm (k + 1) then sumTo (fun d => if Bes T c d then cntR T mm k d else 0) (T 0 0) else 0
theorem cntR_le {T : Nat → Nat → Nat} (hO : TOk T) (mm : Nat → Nat) : ∀ k c, cntR T mm k c ≤ 7 ^ k := by
  intro k
  induction k with
  | zero =>
    intro c
    show (if T 1 c = mm 0 then 1 else 0) ≤ 1
    split <;> omega
  | succ k ih =>
    intro c
    show (if T 1 c = mm (k + 1) then sumTo (fun d => if Bes T c d then cntR T mm k d else 0) (T 0 0) else 0) ≤ 7 ^ (k + 1)
    split
    · have h := sumTo_le (g := fun d => if Bes T c d then cntR T mm k d else 0) (M := 7 ^ k) (T 0 0) (fun d _ => by
        show (if Bes T c d then cntR T mm k d else 0) ≤ 7 ^ k
        split
        · exact ih d
        · exact Nat.zero_le _)
      have o1 := hO.1
      have := Nat.mul_le_mul_right (7 ^ k) o1
      rw [Nat.pow_succ]
      omega
    · exact Nat.zero_le _
theorem cntR_lt {T : Nat → Nat → Nat} (hO : TOk T) (mm : Nat → Nat) {k : Nat} (hk : k ≤ 5) (c : Nat) : cntR T mm k c ≤ 16807 := by
  have h1 := cntR_le hO mm k c
  have h2 : 7 ^ k ≤ 7 ^ 5 := Nat.pow_le_pow_right (by decide) hk
  omega
/-- streets go both ways -/
theorem bes_sym {T : Nat → Nat → Nat} (hO : TOk T) (a c : Nat) : Bes T a c = Bes T c a := by
  have h1 : ∀ s, s < T 0 1 → nb1 T a c s = nb1 T c a s := by
    intro s hs
    have h := (hO.2.2.2.2.2.2.1 s hs).2.2.1
    unfold nb1
    apply decide_eq_decide.mpr
    constructor
    · rintro ⟨h1, h2⟩
      by_cases e : T 2 s = a
      · rw [if_pos e] at h2
        exact ⟨Or.inr h2, by rw [if_neg (by rw [← h2]; exact h)]; exact e⟩
      · rw [if_neg e] at h2
        exact ⟨Or.inl h2, by rw [if_pos h2]; exact h1.resolve_left e⟩
    · rintro ⟨h1, h2⟩
      by_cases e : T 2 s = c
      · rw [if_pos e] at h2
        exact ⟨Or.inr h2, by rw [if_neg (by rw [← h2]; exact h)]; exact e⟩
      · rw [if_neg e] at h2
        exact ⟨Or.inl h2, by rw [if_pos h2]; exact h1.resolve_left e⟩
  have h2 : ∀ d x, x + d ≤ T 0 1 → besR T a c x d = besR T c a x d := by
    intro d
    induction d with
    | zero => intro x _; rfl
    | succ d ih =>
      intro x hx
      show (nb1 T a c x || besR T a c (x + 1) d) = (nb1 T c a x || besR T c a (x + 1) d)
      rw [h1 x (by omega), ih (x + 1) (by omega)]
  exact h2 (T 0 1) 0 (by omega)
/-- a row of k + 1 corners from a to e -/
def RowP (T : Nat → Nat → Nat) (mm : Nat → Nat) : Nat → Nat → Nat → Prop
  | 0, a, e => a = e ∧ a < T 0 0 ∧ T 1 a = mm 0
  | k + 1, a, e => e < T 0 0 ∧ T 1 e = mm (k + 1) ∧ ∃ b, b < T 0 0 ∧ Bes T b e = true ∧ RowP T mm k a b
theorem cntR_row {T : Nat → Nat → Nat} (hO : TOk T) (mm : Nat → Nat) : ∀ k e, e < T 0 0 → (0 < cntR T mm k e ↔ ∃ a, RowP T mm k a e) := by
  intro k
  induction k with
  | zero =>
    intro e he
    show 0 < (if T 1 e = mm 0 then 1 else 0) ↔ ∃ a, a = e ∧ a < T 0 0 ∧ T 1 a = mm 0
    constructor
    · intro h
      by_cases q : T 1 e = mm 0
      · exact ⟨e, rfl, he, q⟩
      · rw [if_neg q] at h
        exact absurd h (by decide)
    · rintro ⟨a, rfl, _, q⟩
      rw [if_pos q]
      decide
  | succ k ih =>
    intro e he
    show 0 < (if T 1 e = mm (k + 1) then sumTo (fun d => if Bes T e d then cntR T mm k d else 0) (T 0 0) else 0) ↔ ∃ a, e < T 0 0 ∧ T 1 e = mm (k + 1) ∧ ∃ b, b < T 0 0 ∧ Bes T b e = true ∧ RowP T mm k a b
    constructor
    · intro h
      by_cases q : T 1 e = mm (k + 1)
      · rw [if_pos q] at h
        obtain ⟨d, hd, hp⟩ := (sumTo_pos _).mp h
        by_cases hb : Bes T e d = true
        · rw [if_pos hb] at hp
          obtain ⟨a, ha⟩ := (ih d hd).mp hp
          exact ⟨a, he, q, d, hd, by rw [bes_sym hO]; exact hb, ha⟩
        · rw [if_neg hb] at hp
          exact absurd hp (by decide)
      · rw [if_neg q] at h
        exact absurd h (by decide)
    · rintro ⟨a, _, q, b, hb, hbe, hr⟩
      rw [if_pos q]
      refine (sumTo_pos _).mpr ⟨b, hb, ?_⟩
      show 0 < (if Bes T e b then cntR T mm k b else 0)
      rw [if_pos (by rw [bes_sym hO]; exact hbe)]
      exact (ih b hb).mpr ⟨a, hr⟩
theorem row_front {T : Nat → Nat → Nat} : ∀ k (mm : Nat → Nat) a e, (a < T 0 0 ∧ T 1 a = mm 0 ∧ ∃ b, b < T 0 0 ∧ Bes T a b = true ∧ RowP T (fun i => mm (i + 1)) k b e) → RowP T mm (k + 1) a e := by
  intro k
  induction k with
  | zero =>
    rintro mm a e ⟨ha, hm, b, hb, hab, rfl, _, hme⟩
    exact ⟨hb, hme, a, ha, hab, rfl, ha, hm⟩
  | succ k ih =>
    rintro mm a e ⟨ha, hm, b, hb, hab, he, hme, d, hd, hde, hr⟩
    exact ⟨he, hme, d, hd, hde, ih mm a d ⟨ha, hm, b, hb, hab, hr⟩⟩
theorem row_rev {T : Nat → Nat → Nat} (hO : TOk T) : ∀ k (mm : Nat → Nat) a e, RowP T mm k a e → RowP T (fun i => mm (k - i)) k e a := by
  intro k
  induction k with
  | zero =>
    rintro mm a e ⟨rfl, ha, hm⟩
    exact ⟨rfl, ha, hm⟩
  | succ k ih =>
    rintro mm a e ⟨he, hme, b, hb, hbe, hr⟩
    refine row_front k _ e a ⟨he, hme, b, hb, by rw [bes_sym hO]; exact hbe, ?_⟩
    have h := ih mm a b hr
    have e1 : (fun i => (fun i => mm (k + 1 - i)) (i + 1)) = fun i => mm (k - i) := by
      funext i
      show mm (k + 1 - (i + 1)) = mm (k - i)
      rw [Nat.add_sub_add_right]
    rw [e1]
    exact h
/-- from where the rows come that end in c -/
def frR (T : Nat → Nat → Nat) (mm : Nat → Nat) (k c m : Nat) : Prop := m < 128 ∧ ∀ i, (m.testBit i = true ↔ RowP T mm k i c)
/-- rows of n corners: none where there is no corner -/
def rowsN (T : Nat → Nat → Nat) (mm : Nat → Nat) (n c : Nat) : Nat := if c < T 0 0 ∧ 0 < n then cntR T mm (n - 1) c else 0
theorem rowsN_le {T : Nat → Nat → Nat} (hO : TOk T) (mm : Nat → Nat) {n : Nat} (hn : n ≤ 6) (c : Nat) : rowsN T mm n c ≤ 16807 := by
  unfold rowsN
  split
  · exact cntR_lt hO mm (by omega) c
  · exact Nat.zero_le _
section FITS
variable {T : Nat → Nat → Nat} {nc ns ng nb hd : Int32} {mk ea eb ln pa fe kn hi bl tw : Nat → Int32}
theorem into6 (hO : TOk T) (h6 : TwA T nc ns ng nb hd mk ea eb ln pa fe kn hi bl) {fu c : Nat} {R : Nat → Int32} {r : Nat → Nat} (hf : 50 ≤ fu) (hc : c < 2 ^ 31) (hR : ∀ d, d < T 0 0 → R d = nI (r d)) : f_X3_rowsInto fu R nc ns ea eb (nI c) = some (nI (sumTo (fun d => if Bes T c d then r d else 0) (T 0 0))) := by
  have o1 := hO.1
  obtain ⟨m, hm, em, hbit⟩ := nextTo6 (fu := fu) hO h6 hc (by omega)
  unfold f_X3_rowsInto
  rw [em, bnd]
  obtain ⟨s, h1, h2⟩ := rel_loop (fun n (s : Int32) x => f_X3_rowsInto_L12 fu n R nc ns ea eb (nI m) s x) (fun s => some s) (fun x s => s = nI (sumTo (fun d => if Bes T c d then r d else 0) x)) (T 0 0) (by
    intro n x s hx hP
    show ∃ s', f_X3_rowsInto_L12b fu (f_X3_rowsInto_L12 fu n) R nc ns ea eb (nI m) s (nI x) = _ ∧ _
    unfold f_X3_rowsInto_L12b
    rw [if_neg (by rw [h6.1]; exact nI_ge (by omega) (by omega)), bit1 (by omega) (by omega), hbit, xb_nI _ (by omega) (by decide), cl x (by omega), hR x hx, show nI x + 1 = nI (x + 1) from nI_add x 1, hP]
    refine ⟨_, ?_, rfl⟩
    show _ = f_X3_rowsInto_L12 fu n R nc ns ea eb (nI m) (nI (sumTo (fun d => if Bes T c d then r d else 0) x + (if Bes T c x then r x else 0))) (nI (x + 1))
    by_cases e : Bes T c x = true
    · rw [if_pos e, if_pos e, nI_add]
    · rw [if_neg e, if_neg e]
      rfl) (by
    intro n s hP
    show f_X3_rowsInto_L12b fu (f_X3_rowsInto_L12 fu n) R nc ns ea eb (nI m) s (nI (T 0 0)) = _
    unfold f_X3_rowsInto_L12b
    rw [if_pos (by rw [h6.1]; exact nI_le (Nat.le_refl _) (by omega))]) (T 0 0) 0 fu 0 (by omega) (by omega) rfl
  rw [← h2]
  exact h1
theorem count57 (hO : TOk T) (h6 : TwA T nc ns ng nb hd mk ea eb ln pa fe kn hi bl) {fu i n : Nat} {mm : Nat → Nat} {R NR fm : Nat → Int32} {x2 : Int32} {k23 : Int32 → (Nat → Int32) → (Nat → Int32) → (Nat → Int32) → Int32 → Int32 → (Nat → Int32) → (Nat → Int32) → (Nat → Int32) → Int32 → Int32 → Option R_X3_countRows} (hf : 50 ≤ fu) (hi6 : i < 6) (hmm : mm i < 4) (hR : ∀ d, d < 7 → R d = nI (rowsN T mm i d)) : ∃ R' NR', f_X3_countRows_L57 fu k23 fu (nI n) fm R NR nc ns mk ea eb x2 (nI i) (nI (mm i)) 0 = k23 (nI n) fm R' NR' nc ns mk ea eb x2 (nI (i + 1)) ∧ ∀ d, d < 7 → R' d = nI (rowsN T mm (i + 1) d) := by
  have o1 := hO.1
  obtain ⟨s, h1, h2⟩ := rel_loop (fun q (s : Nat → Int32) x => f_X3_countRows_L57 fu k23 q (nI n) fm R s nc ns mk ea eb x2 (nI i) (nI (mm i)) x) (fun s => k23 (nI n) fm (fun d => if d < T 0 0 then s d else R d) s nc ns mk ea eb x2 (nI (i + 1))) (fun x s => ∀ d, d < x → s d = nI (cntR T mm i d)) (T 0 0) (by
    intro q x s hx hP
    have hmk := hO.2.2.2.2.2.1 x hx
    have key : ∃ v : Int32, v = nI (cntR T mm i x) ∧ f_X3_countRows_L57b fu k23 (f_X3_countRows_L57 fu k23 q) (nI n) fm R s nc ns mk ea eb x2 (nI i) (nI (mm i)) (nI x) = f_X3_countRows_L57 fu k23 q (nI n) fm R (upd s x v) nc ns mk ea eb x2 (nI i) (nI (mm i)) (nI (x + 1)) := by
      unfold f_X3_countRows_L57b
      have q7 : ∀ {α : Type} (A : Option α), xb (nI x) 7 A = A := fun A => xb_nI A (by omega) (by decide)
      simp only [q7, cl x (show x < 2 ^ 31 by omega), h6.2.2.2.2.2.1 x hx, show nI x + 1 = nI (x + 1) from nI_add x 1]
      rw [if_neg (by rw [h6.1]; exact nI_ge (by omega) (by omega)), eqE (by omega) (by omega), if0 (by omega)]
      by_cases e1 : T 1 x = mm i
      · rw [if_pos e1]
        cases i with
        | zero =>
          rw [if_pos rfl]
          exact ⟨1, by show 1 = nI (if T 1 x = mm 0 then 1 else 0); rw [if_pos e1]; rfl, rfl⟩
        | succ i =>
          rw [if_neg (by omega), into6 hO h6 hf (by omega) (r := cntR T mm i) (fun d hd => by rw [hR d (by omega)]; unfold rowsN; rw [if_pos ⟨hd, by omega⟩]; rfl), bnd]
          refine ⟨_, ?_, rfl⟩
          show _ = nI (if T 1 x = mm (i + 1) then sumTo (fun d => if Bes T x d then cntR T mm i d else 0) (T 0 0) else 0)
          rw [if_pos e1]
      · rw [if_neg e1]
        refine ⟨0, ?_, rfl⟩
        cases i with
        | zero => show 0 = nI (if T 1 x = mm 0 then 1 else 0); rw [if_neg e1]; rfl
        | succ i => show 0 = nI (if T 1 x = mm (i + 1) then sumTo (fun d => if Bes T x d then cntR T mm i d else 0) (T 0 0) else 0); rw [if_neg e1]; rfl
    obtain ⟨v, hv, hk⟩ := key
    refine ⟨upd s x v, hk, fun d hd => ?_⟩
    unfold upd
    by_cases e : d = x
    · rw [if_pos e, hv, e]
    · rw [if_neg e]
      exact hP d (by omega)) (by
    intro q s hP
    show f_X3_countRows_L57b fu k23 (f_X3_countRows_L57 fu k23 q) (nI n) fm R s nc ns mk ea eb x2 (nI i) (nI (mm i)) (nI (T 0 0)) = _
    unfold f_X3_countRows_L57b
    rw [if_pos (by rw [h6.1]; exact nI_le (Nat.le_refl _) (by omega))]
    have hy : ∀ A : Option R_X3_countRows, xy (0 : Int32) (0 : Int32) nc 7 7 A = A := by
      intro A
      unfold xy
      rw [h6.1, cl _ (by omega), if_neg]
      rintro (h | h | h | h | h)
      · exact absurd h (by decide)
      · exact absurd h (by decide)
      · exact nI_pos (by omega) h
      · rw [show ((0 : Int32).toNatClampNeg) = 0 from rfl] at h; omega
      · rw [show ((0 : Int32).toNatClampNeg) = 0 from rfl] at h; omega
    rw [hy, show nI i + 1 = nI (i + 1) from nI_add i 1]
    congr 1
    funext d
    unfold va_cpy
    rw [h6.1, cl _ (by omega), show ((0 : Int32).toNatClampNeg) = 0 from rfl]
    simp only [Nat.zero_le, true_and, Nat.zero_add, Nat.sub_zero]) (T 0 0) 0 fu NR (by omega) (by omega) (fun d hd => by omega)
  refine ⟨_, _, h1, fun d hd => ?_⟩
  unfold rowsN
  by_cases e : d < T 0 0
  · rw [if_pos e, if_pos ⟨e, by omega⟩, h2 d e]
    rfl
  · rw [if_neg e, if_neg (fun q => e q.1), hR d hd]
    unfold rowsN
    rw [if_neg (fun q => e q.1)]
theorem count6 (hO : TOk T) (h6 : TwA T nc ns ng nb hd mk ea eb ln pa fe kn hi bl) {fu n : Nat} {m : Nat → Nat} {R NR fm : Nat → Int32} {x2 : Int32} (hx2 : x2 = 0 ∨ x2 = 1) (hf : 50 ≤ fu) (hn : n ≤ 6) (hm : ∀ k, k < n → m k < 4 ∧ fm k = nI (m k)) : ∃ R' NR', f_X3_countRows fu (nI n) fm R NR nc ns mk ea eb x2 = some (R', NR') ∧ ∀ d, d < 7 → R' d = nI (rowsN T (fun i => if x2 = 0 then m i else m (n - 1 - i)) n d) := by
  unfold f_X3_countRows
  obtain ⟨R0, e0, hR0⟩ := rel_loop (fun q (s : Nat → Int32) x => f_X3_countRows_L2 fu q (nI n) fm s NR nc ns mk ea eb x2 x) (fun s => f_X3_countRows_L23 fu fu (nI n) fm s NR nc ns mk ea eb x2 0) (fun x s => ∀ d, d < x → s d = 0) 7 (by
    intro q x s hx hP
    refine ⟨upd s x 0, ?_, fun d hd => ?_⟩
    · show f_X3_countRows_L2b fu (f_X3_countRows_L2 fu q) (nI n) fm s NR nc ns mk ea eb x2 (nI x) = _
      unfold f_X3_countRows_L2b
      rw [if_neg (by rw [show (7 : Int32) = nI 7 from rfl]; exact nI_ge hx (by omega)), xb_nI _ hx (by decide), cl x (by omega), show nI x + 1 = nI (x + 1) from nI_add x 1]
    · unfold upd
      by_cases e : d = x
      · rw [if_pos e]
      · rw [if_neg e]
        exact hP d (by omega)) (by
    intro q s hP
    show f_X3_countRows_L2b fu (f_X3_countRows_L2 fu q) (nI n) fm s NR nc ns mk ea eb x2 (nI 7) = _
    unfold f_X3_countRows_L2b
    rw [if_pos (by decide)]) 7 0 fu R (by omega) (by omega) (fun d hd => by omega)
  obtain ⟨s, h1, h2⟩ := rel_loop (fun q (s : (Nat → Int32) × (Nat → Int32)) x => f_X3_countRows_L23 fu q (nI n) fm s.1 s.2 nc ns mk ea eb x2 x) (fun s => some s) (fun x s => ∀ d, d < 7 → s.1 d = nI (rowsN T (fun i => if x2 = 0 then m i else m (n - 1 - i)) x d)) n (by
    intro q x s hx hP
    have hmx : (fun i => if x2 = 0 then m i else m (n - 1 - i)) x < 4 := by
      show (if x2 = 0 then m x else m (n - 1 - x)) < 4
      split
      · exact (hm x hx).1
      · exact (hm _ (by omega)).1
    obtain ⟨R', NR', h1, h2⟩ := count57 (n := n) (fm := fm) (NR := s.2) (x2 := x2) (k23 := f_X3_countRows_L23 fu q) hO h6 hf (i := x) (by omega) hmx hP
    refine ⟨(R', NR'), ?_, h2⟩
    show f_X3_countRows_L23b fu (f_X3_countRows_L23 fu q) (nI n) fm s.1 s.2 nc ns mk ea eb x2 (nI x) = _
    unfold f_X3_countRows_L23b
    rw [if_neg (nI_ge hx (by omega))]
    rcases hx2 with rfl | rfl
    · rw [if_pos rfl, xb_nI _ (by omega) (by decide), cl x (by omega), (hm x hx).2]
      exact h1
    · rw [if_neg (by decide), show nI n - 1 - nI x = nI (n - 1 - x) from by rw [show (1 : Int32) = nI 1 from rfl, pk_sub (by omega), pk_sub (by omega)], xb_nI _ (by omega) (by decide), cl _ (by omega), (hm (n - 1 - x) (by omega)).2]
      exact h1) (by
    intro q s hP
    show f_X3_countRows_L23b fu (f_X3_countRows_L23 fu q) (nI n) fm s.1 s.2 nc ns mk ea eb x2 (nI n) = _
    unfold f_X3_countRows_L23b
    rw [if_pos (nI_le (Nat.le_refl _) (by omega))]) n 0 fu (R0, NR) (by omega) (by omega) (fun d hd => by
      show R0 d = _
      rw [hR0 d hd]
      unfold rowsN
      rw [if_neg (fun q => by omega)]
      rfl)
  exact ⟨s.1, s.2, e0.trans h1, h2⟩
end FITS
