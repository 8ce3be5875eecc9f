/-! a day: the shortest ways, as the class finds them -/
def DE (T : Nat → Nat → Nat) (g u v f t : Nat) : Prop := ∃ s, s < T 0 1 ∧ (T 7 g).testBit s = true ∧ ((u = T 2 s ∧ v = T 3 s) ∨ (u = T 3 s ∧ v = T 2 s)) ∧ f = T 4 s + T 5 g ∧ t = 0
def Rp (F : Nat) (A : Nat → Int32) (D : Nat → Nat → Nat) : Prop := ∀ i j, i < 7 → j < 7 → A (i * 7 + j) = nI (D i j) ∧ D i j ≤ F
def SnD (T : Nat → Nat → Nat) (g F : Nat) (D : Nat → Nat → Nat) : Prop := ∀ i j, i < 7 → j < 7 → D i j < F → ∃ k, Wk (DE T g) k i j (D i j) 0
def mn (a b : Nat) : Nat := if b < a then b else a
theorem mn_1 (a b : Nat) : mn a b ≤ a := by
  unfold mn
  split <;> omega
theorem mn_2 (a b : Nat) : mn a b ≤ b := by
  unfold mn
  split <;> omega
theorem mn_or (a b : Nat) : mn a b = a ∨ mn a b = b := by
  unfold mn
  split
  · exact .inr rfl
  · exact .inl rfl
theorem mnE {a b : Nat} (ha : a < 2 ^ 31) (hb : b < 2 ^ 31) : (if nI b < nI a then nI b else nI a) = nI (mn a b) := by
  rw [ltE hb ha]
  unfold mn
  split <;> rfl
def low (D : Nat → Nat → Nat) (a b c : Nat) : Nat → Nat → Nat := fun i j => if i = a ∧ j = b then mn (D a b) c else D i j
theorem low_le (D : Nat → Nat → Nat) (a b c i j : Nat) : low D a b c i j ≤ D i j := by
  unfold low
  split
  · rename_i h
    rw [h.1, h.2]
    exact mn_1 _ _
  · exact Nat.le_refl _
theorem low_at (D : Nat → Nat → Nat) (a b c : Nat) : low D a b c a b ≤ c := by
  unfold low
  rw [if_pos ⟨rfl, rfl⟩]
  exact mn_2 _ _
theorem low_or (D : Nat → Nat → Nat) (a b c i j : Nat) : low D a b c i j = D i j ∨ (i = a ∧ j = b ∧ low D a b c i j = c) := by
  unfold low
  by_cases h : i = a ∧ j = b
  · rw [if_pos h, h.1, h.2]
    rcases mn_or (D a b) c with e | e
    · exact .inl e
    · exact .inr ⟨rfl, rfl, e⟩
  · exact .inl (if_neg h)
theorem Rp.lw {F : Nat} {A : Nat → Int32} {D : Nat → Nat → Nat} (h : Rp F A D) {a b : Nat} (c : Nat) (ha : a < 7) (hb : b < 7) : Rp F (upd A (a * 7 + b) (nI (mn (D a b) c))) (low D a b c) := by
  intro i j hi hj
  have q := h i j hi hj
  refine ⟨?_, Nat.le_trans (low_le D a b c i j) q.2⟩
  unfold upd low
  by_cases e : i = a ∧ j = b
  · rw [if_pos e, if_pos (by rw [e.1, e.2])]
  · rw [if_neg e, if_neg (by omega)]
    exact q.1
theorem SnD.lw {T : Nat → Nat → Nat} {g F : Nat} {D : Nat → Nat → Nat} (h : SnD T g F D) {a b c : Nat} (hw : c < F → ∃ k, Wk (DE T g) k a b c 0) : SnD T g F (low D a b c) := by
  intro i j hi hj hl
  rcases low_or D a b c i j with e | ⟨e1, e2, e⟩
  · rw [e] at hl ⊢
    exact h i j hi hj hl
  · rw [e] at hl ⊢
    rw [e1, e2]
    exact hw hl
def Dg (D : Nat → Nat → Nat) : Prop := ∀ i, i < 7 → D i i = 0
def Edg (T : Nat → Nat → Nat) (g : Nat) (D : Nat → Nat → Nat) (x : Nat) : Prop := ∀ s, s < x → (T 7 g).testBit s = true → D (T 2 s) (T 3 s) ≤ T 4 s + T 5 g ∧ D (T 3 s) (T 2 s) ≤ T 4 s + T 5 g
section DAY6
variable {T : Nat → Nat → Nat} {nc ns ng nb hd : Int32} {mk ea eb ln pa fe kn hi bl tw : Nat → Int32}
theorem n7 (y z : Nat) : nI y * 7 + nI z = nI (y * 7 + z) := by rw [show (7 : Int32) = nI 7 from rfl, pk_mul, nI_add]
theorem n7' (y z : Nat) : 7 * nI y + nI z = nI (y * 7 + z) := by rw [show (7 : Int32) = nI 7 from rfl, pk_mul, nI_add, Nat.mul_comm]
theorem init_rp {F : Nat} {A : Nat → Int32} (h : ∀ j, j < 49 → A j = if j / 7 = j % 7 then 0 else nI F) : Rp F A (fun i j => if i = j then 0 else F) := by
  intro i j hi hj
  have q := h (i * 7 + j) (by omega)
  rw [show (i * 7 + j) / 7 = i by omega, show (i * 7 + j) % 7 = j by omega] at q
  rw [q]
  by_cases e : i = j
  · simp only [if_pos e]
    exact ⟨rfl, Nat.zero_le _⟩
  · simp only [if_neg e]
    exact ⟨trivial, Nat.le_refl _⟩
theorem init_snd {g F : Nat} : SnD T g F (fun i j => if i = j then 0 else F) := by
  intro i j hi hj hl
  by_cases e : i = j
  · refine ⟨0, e, ?_, rfl⟩
    exact if_pos e
  · have : (if i = j then 0 else F) < F := hl
    rw [if_neg e] at this
    omega
theorem take2 {fu : Nat} (hf : 50 ≤ fu) {x2 : Int32} (A : Nat → Int32) : ∃ A', f_X5_takeStreets fu A ns ng ea eb ln pa kn x2 = f_X5_takeStreets_L43 fu fu A' ns ng ea eb ln pa kn x2 0 ∧ Rp 10000 A' (fun i j => if i = j then 0 else 10000) := by
  obtain ⟨s, e, hI⟩ := rel_loop (σ := Nat → Int32) (fun n s x => f_X5_takeStreets_L2 fu n s ns ng ea eb ln pa kn x2 x) (fun s => f_X5_takeStreets_L43 fu fu s ns ng ea eb ln pa kn x2 0) (fun x s => ∀ j, j < x → s j = if j / 7 = j % 7 then 0 else nI 10000) 49 (by
    intro n x s hx hI
    refine ⟨upd s x (if x / 7 = x % 7 then 0 else nI 10000), ?_, fun j hj => ?_⟩
    · show f_X5_takeStreets_L2b fu (f_X5_takeStreets_L2 fu n) s ns ng ea eb ln pa kn x2 (nI x) = _
      unfold f_X5_takeStreets_L2b
      rw [if_neg (by rw [show (49 : Int32) = nI 49 from rfl]; exact nI_ge (by omega) (by omega)), show (7 : Int32) = nI 7 from rfl, pk_rem (by omega) (by decide) (by decide), pk_div (by omega) (by decide) (by decide), eqE (by omega) (by omega), xb_nI _ hx (by decide), xb_nI _ hx (by decide), cl x (by omega), show nI x + 1 = nI (x + 1) from nI_add x 1]
      by_cases e : x / 7 = x % 7
      · rw [if_pos e, if_pos e]
      · rw [if_neg e, if_neg e]
        rfl
    · unfold upd
      by_cases e : j = x
      · rw [if_pos e, e]
      · rw [if_neg e]
        exact hI j (by omega)) (by
    intro n s hI
    show f_X5_takeStreets_L2b fu (f_X5_takeStreets_L2 fu n) s ns ng ea eb ln pa kn x2 (nI 49) = _
    unfold f_X5_takeStreets_L2b
    rw [if_pos (by decide)]) 49 0 fu A (by omega) (by omega) (fun j hj => by omega)
  exact ⟨s, e, init_rp hI⟩
theorem take43 (hO : TOk T) (h6 : TwA T nc ns ng nb hd mk ea eb ln pa fe kn hi bl) {fu g : Nat} (hg : g < T 0 2) (hf : 10 ≤ fu) {A : Nat → Int32} (hR : Rp 10000 A (fun i j => if i = j then 0 else 10000)) : ∃ A' D, f_X5_takeStreets_L43 fu fu A ns ng ea eb ln pa kn (nI g) 0 = some A' ∧ Rp 10000 A' D ∧ Dg D ∧ SnD T g 10000 D ∧ Edg T g D (T 0 1) := by
  have o1 := hO.1
  have o2 := hO.2.1
  obtain ⟨s, e, D, h1, h2, h3, h4⟩ := rel_loop (σ := Nat → Int32) (fun n s x => f_X5_takeStreets_L43 fu n s ns ng ea eb ln pa kn (nI g) x) (fun s => some s) (fun x s => ∃ D, Rp 10000 s D ∧ Dg D ∧ SnD T g 10000 D ∧ Edg T g D x) (T 0 1) (by
    intro n x A hx hI
    obtain ⟨D, hR, hD, hS, hE⟩ := hI
    have o := hO.2.2.2.2.2.2.1 x hx
    have s6 := h6.2.2.2.2.2.2.1 x hx
    have hl := led_le hO hx hg
    generalize hm : T 4 x + T 5 g = m at hl
    have q9 : ∀ {α : Type} (X : Option α), xb (nI x) 9 X = X := fun X => xb_nI X (by omega) (by decide)
    have qa : ∀ {α : Type} (X : Option α), xb (nI (T 2 x * 7 + T 3 x)) 49 X = X := fun X => xb_nI X (by omega) (by decide)
    have qb : ∀ {α : Type} (X : Option α), xb (nI (T 3 x * 7 + T 2 x)) 49 X = X := fun X => xb_nI X (by omega) (by decide)
    have ra := hR (T 2 x) (T 3 x) (by omega) (by omega)
    have R1 := hR.lw (a := T 2 x) (b := T 3 x) m (by omega) (by omega)
    generalize hA1 : upd A (T 2 x * 7 + T 3 x) (nI (mn (D (T 2 x) (T 3 x)) m)) = A1 at R1
    generalize hD1 : low D (T 2 x) (T 3 x) m = D1 at R1
    have rb := R1 (T 3 x) (T 2 x) (by omega) (by omega)
    have R2 := R1.lw (a := T 3 x) (b := T 2 x) m (by omega) (by omega)
    have e0 : f_X5_takeStreets_L43 fu (n + 1) A ns ng ea eb ln pa kn (nI g) (nI x) = if (T 7 g).testBit x then f_X5_takeStreets_L43 fu n (upd A1 (T 3 x * 7 + T 2 x) (nI (mn (D1 (T 3 x) (T 2 x)) m))) ns ng ea eb ln pa kn (nI g) (nI (x + 1)) else f_X5_takeStreets_L43 fu n A ns ng ea eb ln pa kn (nI g) (nI (x + 1)) := by
      show f_X5_takeStreets_L43b fu (f_X5_takeStreets_L43 fu n) A ns ng ea eb ln pa kn (nI g) (nI x) = _
      unfold f_X5_takeStreets_L43b
      rw [if_neg (by rw [h6.2.1]; exact nI_ge (by omega) (by omega)), kno6 hO h6 hg hx, led6 hO h6 hg hx, cl x (by omega), s6.1, s6.2.1, n7, n7, hm, show nI x + 1 = nI (x + 1) from nI_add x 1]
      simp only [bnd, q9, qa, qb, b01i, cl (T 2 x * 7 + T 3 x) (show T 2 x * 7 + T 3 x < 2 ^ 31 by omega), cl (T 3 x * 7 + T 2 x) (show T 3 x * 7 + T 2 x < 2 ^ 31 by omega)]
      rw [ra.1, mnE (by omega) (by omega), hA1, rb.1, mnE (by omega) (by omega)]
    have hE1 : DE T g (T 2 x) (T 3 x) m 0 ∨ ¬ (T 7 g).testBit x = true := by
      by_cases c : (T 7 g).testBit x = true
      · exact .inl ⟨x, hx, c, .inl ⟨rfl, rfl⟩, hm.symm, rfl⟩
      · exact .inr c
    by_cases c : (T 7 g).testBit x = true
    · rw [if_pos c] at e0
      have d1 : DE T g (T 2 x) (T 3 x) m 0 := ⟨x, hx, c, .inl ⟨rfl, rfl⟩, hm.symm, rfl⟩
      have d2 : DE T g (T 3 x) (T 2 x) m 0 := ⟨x, hx, c, .inr ⟨rfl, rfl⟩, hm.symm, rfl⟩
      refine ⟨_, e0, _, R2, fun i hi => ?_, ?_, fun s hs hb => ?_⟩
      · have a1 := low_le D1 (T 3 x) (T 2 x) m i i
        have a2 := low_le D (T 2 x) (T 3 x) m i i
        rw [hD1] at a2
        have := hD i hi
        omega
      · refine SnD.lw ?_ (fun _ => ⟨1, wk_one d2⟩)
        rw [← hD1]
        exact hS.lw (fun _ => ⟨1, wk_one d1⟩)
      · by_cases e : s = x
        · subst e
          have a1 := low_at D1 (T 3 s) (T 2 s) m
          have a2 := low_at D (T 2 s) (T 3 s) m
          have a3 := low_le D1 (T 3 s) (T 2 s) m (T 2 s) (T 3 s)
          rw [hD1] at a2
          rw [hm]
          exact ⟨Nat.le_trans a3 a2, a1⟩
        · have q := hE s (by omega) hb
          have a1 := low_le D1 (T 3 x) (T 2 x) m (T 2 s) (T 3 s)
          have a2 := low_le D (T 2 x) (T 3 x) m (T 2 s) (T 3 s)
          have a3 := low_le D1 (T 3 x) (T 2 x) m (T 3 s) (T 2 s)
          have a4 := low_le D (T 2 x) (T 3 x) m (T 3 s) (T 2 s)
          rw [hD1] at a2 a4
          exact ⟨by omega, by omega⟩
    · rw [if_neg c] at e0
      refine ⟨A, e0, D, hR, hD, hS, fun s hs hb => ?_⟩
      by_cases e : s = x
      · subst e
        exact absurd hb c
      · exact hE s (by omega) hb) (by
    intro n A hI
    show f_X5_takeStreets_L43b fu (f_X5_takeStreets_L43 fu n) A ns ng ea eb ln pa kn (nI g) (nI (T 0 1)) = _
    unfold f_X5_takeStreets_L43b
    rw [if_pos (by rw [h6.2.1]; exact nI_le (Nat.le_refl _) (by omega))]) (T 0 1) 0 fu A (by omega) (by omega) ⟨_, hR, fun i hi => if_pos rfl, init_snd, fun s hs => by omega⟩
  exact ⟨s, D, e, h1, h2, h3, h4⟩
def fwx (D : Nat → Nat → Nat) (k x : Nat) : Nat → Nat → Nat := fun i j => if i * 7 + j < x then mn (D i j) (D i k + D k j) else D i j
theorem short10 {fu k : Nat} {k2 : (Nat → Int32) → Int32 → Option R_X5_shortenWays} (hf : 50 ≤ fu) (hk : k < 7) {A : Nat → Int32} {D : Nat → Nat → Nat} (hR : Rp 10000 A D) (hD : Dg D) : ∃ A', f_X5_shortenWays_L10 fu k2 fu A (nI k) 0 = k2 A' (nI (k + 1)) ∧ Rp 10000 A' (fun i j => mn (D i j) (D i k + D k j)) := by
  have hkk := hD k hk
  obtain ⟨s, e, hI⟩ := rel_loop (σ := Nat → Int32) (fun n s x => f_X5_shortenWays_L10 fu k2 n s (nI k) x) (fun s => k2 s (nI (k + 1))) (fun x s => Rp 10000 s (fwx D k x)) 49 (by
    intro n x A hx hI
    have hi : x / 7 < 7 := by omega
    have hj : x % 7 < 7 := by omega
    have hx' : x / 7 * 7 + x % 7 = x := by omega
    have b1 := hR (x / 7) k hi hk
    have b2 := hR k (x % 7) hk hj
    have b3 := hR (x / 7) (x % 7) hi hj
    have r1 : A (x / 7 * 7 + k) = nI (D (x / 7) k) := by
      rw [(hI (x / 7) k hi hk).1]
      unfold fwx
      split
      · unfold mn
        rw [if_neg (by omega)]
      · rfl
    have r2 : A (k * 7 + x % 7) = nI (D k (x % 7)) := by
      rw [(hI k (x % 7) hk hj).1]
      unfold fwx
      split
      · unfold mn
        rw [if_neg (by omega)]
      · rfl
    have r3 : A x = nI (D (x / 7) (x % 7)) := by
      have q := (hI (x / 7) (x % 7) hi hj).1
      rw [hx'] at q
      rw [q]
      unfold fwx
      rw [if_neg (by omega)]
    refine ⟨upd A x (nI (mn (D (x / 7) (x % 7)) (D (x / 7) k + D k (x % 7)))), ?_, fun i j hi' hj' => ?_⟩
    · show f_X5_shortenWays_L10b fu k2 (f_X5_shortenWays_L10 fu k2 n) A (nI k) (nI x) = _
      unfold f_X5_shortenWays_L10b
      rw [if_neg (by rw [show (49 : Int32) = nI 49 from rfl]; exact nI_ge (by omega) (by omega)), show (7 : Int32) = nI 7 from rfl, pk_rem (by omega) (by decide) (by decide), pk_div (by omega) (by decide) (by decide), show nI 7 = (7 : Int32) from rfl, n7, n7, xb_nI _ (by omega) (by decide), xb_nI _ (by omega) (by decide), xb_nI _ hx (by decide), xb_nI _ hx (by decide), cl x (by omega), cl _ (by omega), cl _ (by omega), r1, r2, r3, nI_add, mnE (by omega) (by omega), show nI x + 1 = nI (x + 1) from nI_add x 1]
    · have q := hI i j hi' hj'
      unfold upd
      by_cases e : i * 7 + j = x
      · have ei : i = x / 7 := by omega
        have ej : j = x % 7 := by omega
        rw [if_pos e]
        unfold fwx
        rw [if_pos (by omega), ← ei, ← ej]
        rw [← ei, ← ej] at b3
        exact ⟨rfl, Nat.le_trans (mn_1 _ _) b3.2⟩
      · rw [if_neg e]
        have ef : fwx D k (x + 1) i j = fwx D k x i j := by
          unfold fwx
          by_cases w : i * 7 + j < x
          · rw [if_pos w, if_pos (by omega)]
          · rw [if_neg w, if_neg (by omega)]
        rw [ef]
        exact q) (by
    intro n A hI
    show f_X5_shortenWays_L10b fu k2 (f_X5_shortenWays_L10 fu k2 n) A (nI k) (nI 49) = _
    unfold f_X5_shortenWays_L10b
    rw [if_pos (by decide), show nI k + 1 = nI (k + 1) from nI_add k 1]) 49 0 fu A (by omega) (by omega) (fun i j hi hj => by
      unfold fwx
      rw [if_neg (by omega)]
      exact hR i j hi hj)
  refine ⟨s, e, fun i j hi hj => ?_⟩
  have q := hI i j hi hj
  unfold fwx at q
  rw [if_pos (by omega)] at q
  exact q
def Tri (D : Nat → Nat → Nat) (k : Nat) : Prop := ∀ i m j, i < 7 → m < 7 → j < 7 → m < k → D i j ≤ D i m + D m j
theorem short2 {fu g : Nat} (hf : 50 ≤ fu) {A : Nat → Int32} {D : Nat → Nat → Nat} (hR : Rp 10000 A D) (hD : Dg D) (hS : SnD T g 10000 D) (hE : Edg T g D (T 0 1)) : ∃ A' D', f_X5_shortenWays fu A = some A' ∧ Rp 10000 A' D' ∧ Dg D' ∧ SnD T g 10000 D' ∧ Edg T g D' (T 0 1) ∧ Tri D' 7 := by
  obtain ⟨s, e, D', h1, h2, h3, h4, h5⟩ := rel_loop (σ := Nat → Int32) (fun n s x => f_X5_shortenWays_L2 fu n s x) (fun s => some s) (fun x s => ∃ D, Rp 10000 s D ∧ Dg D ∧ SnD T g 10000 D ∧ Edg T g D (T 0 1) ∧ Tri D x) 7 (by
    intro n k A hk hI
    obtain ⟨D, hR, hD, hS, hE, hT⟩ := hI
    obtain ⟨A', e1, R1⟩ := short10 (k2 := f_X5_shortenWays_L2 fu n) hf hk hR hD
    refine ⟨A', ?_, _, R1, fun i hi => ?_, fun i j hi hj hl => ?_, fun s hs hb => ?_, fun i m j hi hm hj hmk => ?_⟩
    · show f_X5_shortenWays_L2b fu (f_X5_shortenWays_L2 fu n) A (nI k) = _
      unfold f_X5_shortenWays_L2b
      rw [if_neg (by rw [show (7 : Int32) = nI 7 from rfl]; exact nI_ge (by omega) (by omega)), e1]
    · have a := mn_1 (D i i) (D i k + D k i)
      have := hD i hi
      show mn (D i i) (D i k + D k i) = 0
      omega
    · have hl : mn (D i j) (D i k + D k j) < 10000 := hl
      show ∃ q, Wk (DE T g) q i j (mn (D i j) (D i k + D k j)) 0
      rcases mn_or (D i j) (D i k + D k j) with w | w
      · rw [w] at hl ⊢
        exact hS i j hi hj hl
      · rw [w] at hl ⊢
        obtain ⟨k1, w1⟩ := hS i k hi hk (by omega)
        obtain ⟨k2, w2⟩ := hS k j hk hj (by omega)
        exact ⟨k1 + k2, wk_add w1 w2⟩
    · have q := hE s hs hb
      have a1 := mn_1 (D (T 2 s) (T 3 s)) (D (T 2 s) k + D k (T 3 s))
      have a2 := mn_1 (D (T 3 s) (T 2 s)) (D (T 3 s) k + D k (T 2 s))
      exact ⟨Nat.le_trans a1 q.1, Nat.le_trans a2 q.2⟩
    · show mn (D i j) (D i k + D k j) ≤ mn (D i m) (D i k + D k m) + mn (D m j) (D m k + D k j)
      have z1 := mn_1 (D i j) (D i k + D k j)
      have z2 := mn_2 (D i j) (D i k + D k j)
      have hkk := hD k hk
      by_cases q : m = k
      · subst q
        rcases mn_or (D i m) (D i m + D m m) with w1 | w1 <;> rcases mn_or (D m j) (D m m + D m j) with w2 | w2 <;> omega
      · have t1 := hT i m j hi hm hj (by omega)
        have t2 := hT k m j hk hm hj (by omega)
        have t3 := hT i m k hi hm hk (by omega)
        rcases mn_or (D i m) (D i k + D k m) with w1 | w1 <;> rcases mn_or (D m j) (D m k + D k j) with w2 | w2 <;> omega) (by
    intro n A hI
    show f_X5_shortenWays_L2b fu (f_X5_shortenWays_L2 fu n) A (nI 7) = _
    unfold f_X5_shortenWays_L2b
    rw [if_pos (by decide)]) 7 0 fu A (by omega) (by omega) ⟨D, hR, hD, hS, hE, fun i m j _ _ _ h => by omega⟩
  exact ⟨s, D', e, h1, h2, h3, h4, h5⟩
theorem de_node (hO : TOk T) {g : Nat} : ∀ u v f t, DE T g u v f t → u < T 0 0 ∧ v < T 0 0 := by
  intro u v f t h
  obtain ⟨s, hs, _, h, _⟩ := h
  have o := hO.2.2.2.2.2.2.1 s hs
  rcases h with ⟨rfl, rfl⟩ | ⟨rfl, rfl⟩ <;> omega
/-- the class's ways are no longer than any walk -/
theorem ways_wk (hO : TOk T) {g : Nat} {D : Nat → Nat → Nat} (hD : Dg D) (hE : Edg T g D (T 0 1)) (hT : Tri D 7) : ∀ k u v f t, u < 7 → Wk (DE T g) k u v f t → D u v ≤ f := by
  have o1 := hO.1
  intro k
  induction k with
  | zero =>
    intro u v f t hu h
    obtain ⟨rfl, rfl, rfl⟩ := h
    rw [hD u hu]
    exact Nat.le_refl _
  | succ k ih =>
    intro u v f t hu h
    obtain ⟨m, f1, t1, f2, t2, h1, h2, rfl, rfl⟩ := h
    have a := ih u m f1 t1 hu h1
    have n := de_node hO _ _ _ _ h2
    have b := hT u m v hu (by omega) (by omega) (by omega)
    obtain ⟨s, hs, hb, h, hf, _⟩ := h2
    have q := hE s hs hb
    rcases h with ⟨e1, e2⟩ | ⟨e1, e2⟩
    · rw [e1, e2] at b
      rw [e1] at a
      rw [e2]
      omega
    · rw [e1, e2] at b
      rw [e1] at a
      rw [e2]
      omega
end DAY6
