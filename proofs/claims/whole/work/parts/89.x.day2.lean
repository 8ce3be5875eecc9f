/-! a day: the shortest ways, as the reference finds them -/
section DAY7
variable {T : Nat → Nat → Nat} {tw : Nat → Int32}
theorem shor2 {fu : Nat} (hf : 50 ≤ fu) {x1 : Int32} (A : Nat → Int32) : ∃ A', f_X7_shortest fu tw A x1 = f_X7_shortest_L39 fu fu tw A' x1 0 ∧ Rp 99999999 A' (fun i j => if i = j then 0 else 99999999) := by
  obtain ⟨s, e, hI⟩ := rel_loop (σ := Nat → Int32) (fun n s x => f_X7_shortest_L2 fu n tw s x1 x) (fun s => f_X7_shortest_L39 fu fu tw s x1 0) (fun x s => ∀ j, j < x → s j = if j / 7 = j % 7 then 0 else nI 99999999) 49 (by
    intro n x s hx hI
    refine ⟨upd s x (if x / 7 = x % 7 then 0 else nI 99999999), ?_, fun j hj => ?_⟩
    · show f_X7_shortest_L2b fu (f_X7_shortest_L2 fu n) tw s x1 (nI x) = _
      unfold f_X7_shortest_L2b
      rw [if_neg (by rw [show (49 : Int32) = nI 49 from rfl]; exact nI_ge (by omega) (by omega)), show (7 : Int32) = nI 7 from rfl, pk_rem (by omega) (by decide) (by decide), pk_div (by omega) (by decide) (by decide), eqE (by omega) (by omega), xb_nI _ hx (by decide), xb_nI _ hx (by decide), cl x (by omega), show nI x + 1 = nI (x + 1) from nI_add x 1]
      by_cases e : x / 7 = x % 7
      · rw [if_pos e, if_pos e]
      · rw [if_neg e, if_neg e]
        rfl
    · unfold upd
      by_cases e : j = x
      · rw [if_pos e, e]
      · rw [if_neg e]
        exact hI j (by omega)) (by
    intro n s hI
    show f_X7_shortest_L2b fu (f_X7_shortest_L2 fu n) tw s x1 (nI 49) = _
    unfold f_X7_shortest_L2b
    rw [if_pos (by decide)]) 49 0 fu A (by omega) (by omega) (fun j hj => by omega)
  exact ⟨s, e, init_rp hI⟩
/-- two lowerings, along a street and back -/
def low2 (D : Nat → Nat → Nat) (a b c n : Nat) : Nat → Nat → Nat := low (low D a c (D a b + n)) a b (low D a c (D a b + n) a c + n)
theorem walks7 {A : Nat → Int32} {D : Nat → Nat → Nat} (hR : Rp 99999999 A D) {a b c n : Nat} (ha : a < 7) (hb : b < 7) (hc : c < 7) (hn : n ≤ 14) : ∃ A', f_X7_walks A (nI a) (nI b) (nI c) (nI n) = some A' ∧ Rp 99999999 A' (low2 D a b c n) := by
  have qb : ∀ {α : Type} (X : Option α), xb (nI (a * 7 + b)) 49 X = X := fun X => xb_nI X (by omega) (by decide)
  have qc : ∀ {α : Type} (X : Option α), xb (nI (a * 7 + c)) 49 X = X := fun X => xb_nI X (by omega) (by decide)
  have rb := hR a b ha hb
  have rc := hR a c ha hc
  have R1 := hR.lw (a := a) (b := c) (D a b + n) ha hc
  unfold low2
  generalize hD1 : low D a c (D a b + n) = D1 at R1
  generalize hA1 : upd A (a * 7 + c) (nI (mn (D a c) (D a b + n))) = A1 at R1
  have sb := R1 a b ha hb
  have sc := R1 a c ha hc
  have R2 := R1.lw (a := a) (b := b) (D1 a c + n) ha hb
  refine ⟨_, ?_, R2⟩
  have hj : f_X7_walks_J58 A (nI a) (nI b) (nI c) (nI n) (nI (a * 7 + c)) (nI (mn (D a c) (D a b + n))) = some (upd A1 (a * 7 + b) (nI (mn (D1 a b) (D1 a c + n)))) := by
    unfold f_X7_walks_J58
    simp only [n7', qb, qc, cl (a * 7 + b) (show a * 7 + b < 2 ^ 31 by omega), cl (a * 7 + c) (show a * 7 + c < 2 ^ 31 by omega), hA1, sb.1, sc.1, nI_add]
    rw [leE (by omega) (by omega)]
    unfold mn
    by_cases w : D1 a b ≤ D1 a c + n
    · rw [if_pos w, if_neg (by omega)]
    · rw [if_neg w, if_pos (by omega)]
  unfold f_X7_walks
  simp only [n7', qb, qc, cl (a * 7 + b) (show a * 7 + b < 2 ^ 31 by omega), cl (a * 7 + c) (show a * 7 + c < 2 ^ 31 by omega), rb.1, rc.1, nI_add]
  rw [leE (by omega) (by omega)]
  by_cases w : D a c ≤ D a b + n
  · rw [if_pos w]
    have e : mn (D a c) (D a b + n) = D a c := by
      unfold mn
      rw [if_neg (by omega)]
    rw [e] at hj
    exact hj
  · rw [if_neg w]
    have e : mn (D a c) (D a b + n) = D a b + n := by
      unfold mn
      rw [if_pos (by omega)]
    rw [e] at hj
    exact hj
theorem low2_le (D : Nat → Nat → Nat) (a b c n i j : Nat) : low2 D a b c n i j ≤ D i j := Nat.le_trans (low_le _ _ _ _ _ _) (low_le _ _ _ _ _ _)
theorem low2_at (D : Nat → Nat → Nat) (a b c n : Nat) : low2 D a b c n a c ≤ D a b + n ∧ low2 D a b c n a b ≤ D a c + n := by
  unfold low2
  have a1 := low_at D a c (D a b + n)
  have a2 := low_le D a c (D a b + n) a c
  have a3 := low_le (low D a c (D a b + n)) a b (low D a c (D a b + n) a c + n) a c
  have a4 := low_at (low D a c (D a b + n)) a b (low D a c (D a b + n) a c + n)
  exact ⟨Nat.le_trans a3 a1, by omega⟩
theorem low2_snd {g a b c n : Nat} {D : Nat → Nat → Nat} (ha : a < 7) (hb : b < 7) (hc : c < 7) (h : SnD T g 99999999 D) (d1 : DE T g b c n 0) (d2 : DE T g c b n 0) : SnD T g 99999999 (low2 D a b c n) := by
  have h1 : SnD T g 99999999 (low D a c (D a b + n)) := h.lw (fun hl => by
    obtain ⟨k, w⟩ := h a b ha hb (by omega)
    exact ⟨k + 1, wk_add w (wk_one d1)⟩)
  unfold low2
  refine h1.lw (fun hl => ?_)
  obtain ⟨k, w⟩ := h1 a c ha hc (by omega)
  exact ⟨k + 1, wk_add w (wk_one d2)⟩
theorem shor60 (hO : TOk T) (h7 : TwB T tw) {fu g a : Nat} {x2 : Int32} {k39 : (Nat → Int32) → (Nat → Int32) → Int32 → Int32 → Option R_X7_shortest} {k47 : (Nat → Int32) → (Nat → Int32) → Int32 → Int32 → Int32 → Option R_X7_shortest} (hg : g < T 0 2) (ha : a < T 0 0) (hf : 10 ≤ fu) {A : Nat → Int32} {D : Nat → Nat → Nat} (hR : Rp 99999999 A D) : ∃ A' D', f_X7_shortest_L60 fu k39 k47 fu tw A (nI g) x2 (nI a) 0 = k47 tw A' (nI g) x2 (nI (a + 1)) ∧ Rp 99999999 A' D' ∧ (SnD T g 99999999 D → SnD T g 99999999 D') ∧ (∀ i j, D' i j ≤ D i j) ∧ ∀ i, 0 ≤ i → i < T 0 1 → (T 7 g).testBit i = true → D' a (T 3 i) ≤ D a (T 2 i) + (T 4 i + T 5 g) ∧ D' a (T 2 i) ≤ D a (T 3 i) + (T 4 i + T 5 g) := by
  have o1 := hO.1
  have o2 := hO.2.1
  have q1 : ∀ {α : Type} (X : Option α), xb (1 : Int32) 64 X = X := fun X => xb_l (by decide)
  refine Exists.elim (loop_ex (σ := (Nat → Int32) × (Nat → Nat → Nat)) (fun n s x => f_X7_shortest_L60 fu k39 k47 n tw s.1 (nI g) x2 (nI a) x) (fun s => k47 tw s.1 (nI g) x2 (nI (a + 1))) (fun _ s => Rp 99999999 s.1 s.2) (fun x s s' => (SnD T g 99999999 s.2 → SnD T g 99999999 s'.2) ∧ (∀ i j, s'.2 i j ≤ s.2 i j) ∧ ∀ i, x ≤ i → i < T 0 1 → (T 7 g).testBit i = true → s'.2 a (T 3 i) ≤ s.2 a (T 2 i) + (T 4 i + T 5 g) ∧ s'.2 a (T 2 i) ≤ s.2 a (T 3 i) + (T 4 i + T 5 g)) (T 0 1) (fun s => ⟨id, fun _ _ => Nat.le_refl _, fun i h1 h2 => by omega⟩) ?_ ?_ (T 0 1) 0 fu (A, D) (by omega) (by omega) hR) (fun s' h => ⟨s'.1, s'.2, h.1, h.2.1, h.2.2⟩)
  · intro n x s hx hI
    obtain ⟨A, D⟩ := s
    have hR : Rp 99999999 A D := hI
    have o := hO.2.2.2.2.2.2.1 x hx
    have ok := hO.2.2.2.2.2.2.2.1 g hg
    have o9 := pw9 hO
    have hl := led_le hO hx hg
    have h4 := h7.2.2.2.2.2.2.1 x hx
    obtain ⟨A1, e1, R1⟩ := walks7 hR (a := a) (b := T 2 x) (c := T 3 x) (n := T 4 x + T 5 g) (by omega) (by omega) (by omega) (by omega)
    have e0 : f_X7_shortest_L60 fu k39 k47 (n + 1) tw A (nI g) x2 (nI a) (nI x) = if (T 7 g).testBit x then f_X7_shortest_L60 fu k39 k47 n tw A1 (nI g) x2 (nI a) (nI (x + 1)) else f_X7_shortest_L60 fu k39 k47 n tw A (nI g) x2 (nI a) (nI (x + 1)) := by
      show f_X7_shortest_L60b fu k39 k47 (f_X7_shortest_L60 fu k39 k47 n) tw A (nI g) x2 (nI a) (nI x) = _
      unfold f_X7_shortest_L60b
      rw [q1, show ((1 : Int32).toNatClampNeg) = 1 from rfl, h7.2.1, if_neg (nI_ge (by omega) (by omega)), known7 hO h7 hg, bnd, show (13 : Int32) + 3 * nI x = nI (13 + 3 * x) from by rw [show (3 : Int32) = nI 3 from rfl, pk_mul, show (13 : Int32) = nI 13 from rfl, nI_add], show nI (13 + 3 * x) + 1 = nI (14 + 3 * x) from by rw [show (1 : Int32) = nI 1 from rfl, nI_add]; congr 1; omega, xb_nI _ (by omega) (by decide), xb_nI _ (by omega) (by decide), cl _ (by omega), cl _ (by omega), h4.1, h4.2.1, bit1 (by omega) (by omega), length7 hO h7 hx, pace7 hO h7 hg, show nI x + 1 = nI (x + 1) from nI_add x 1]
      simp only [bnd, nI_add]
      rw [e1]
      simp only [bnd]
    by_cases c : (T 7 g).testBit x = true
    · rw [if_pos c] at e0
      have d1 : DE T g (T 2 x) (T 3 x) (T 4 x + T 5 g) 0 := ⟨x, hx, c, .inl ⟨rfl, rfl⟩, rfl, rfl⟩
      have d2 : DE T g (T 3 x) (T 2 x) (T 4 x + T 5 g) 0 := ⟨x, hx, c, .inr ⟨rfl, rfl⟩, rfl, rfl⟩
      refine ⟨(A1, low2 D a (T 2 x) (T 3 x) (T 4 x + T 5 g)), e0, R1, fun s'' hq => ⟨fun hs => hq.1 (low2_snd (by omega) (by omega) (by omega) hs d1 d2), fun i j => Nat.le_trans (hq.2.1 i j) (low2_le _ _ _ _ _ _ _), fun i h1 h2 h3 => ?_⟩⟩
      by_cases e : i = x
      · subst e
        have q := low2_at D a (T 2 i) (T 3 i) (T 4 i + T 5 g)
        exact ⟨Nat.le_trans (hq.2.1 _ _) q.1, Nat.le_trans (hq.2.1 _ _) q.2⟩
      · have q := hq.2.2 i (by omega) h2 h3
        have w1 := low2_le D a (T 2 x) (T 3 x) (T 4 x + T 5 g) a (T 2 i)
        have w2 := low2_le D a (T 2 x) (T 3 x) (T 4 x + T 5 g) a (T 3 i)
        exact ⟨Nat.le_trans q.1 (Nat.add_le_add_right w1 _), Nat.le_trans q.2 (Nat.add_le_add_right w2 _)⟩
    · rw [if_neg c] at e0
      refine ⟨(A, D), e0, hR, fun s'' hq => ⟨hq.1, hq.2.1, fun i h1 h2 h3 => ?_⟩⟩
      by_cases e : i = x
      · subst e
        exact absurd h3 c
      · exact hq.2.2 i (by omega) h2 h3
  · intro n s hI
    show f_X7_shortest_L60b fu k39 k47 (f_X7_shortest_L60 fu k39 k47 n) tw s.1 (nI g) x2 (nI a) (nI (T 0 1)) = _
    unfold f_X7_shortest_L60b
    rw [q1, show ((1 : Int32).toNatClampNeg) = 1 from rfl, h7.2.1, if_pos (nI_le (Nat.le_refl _) (by omega)), show nI a + 1 = nI (a + 1) from nI_add a 1]
theorem shor47 (hO : TOk T) (h7 : TwB T tw) {fu g r : Nat} {k39 : (Nat → Int32) → (Nat → Int32) → Int32 → Int32 → Option R_X7_shortest} (hg : g < T 0 2) (hf : 10 ≤ fu) {A : Nat → Int32} {D : Nat → Nat → Nat} (hR : Rp 99999999 A D) : ∃ A' D', f_X7_shortest_L47 fu k39 fu tw A (nI g) (nI r) 0 = k39 tw A' (nI g) (nI (r + 1)) ∧ Rp 99999999 A' D' ∧ (SnD T g 99999999 D → SnD T g 99999999 D') ∧ (∀ i j, D' i j ≤ D i j) ∧ ∀ a, 0 ≤ a → a < T 0 0 → ∀ u v f t, DE T g u v f t → D' a v ≤ D a u + f := by
  have o1 := hO.1
  have q0 : ∀ {α : Type} (X : Option α), xb (0 : Int32) 64 X = X := fun X => xb_l (by decide)
  refine Exists.elim (loop_ex (σ := (Nat → Int32) × (Nat → Nat → Nat)) (fun n s x => f_X7_shortest_L47 fu k39 n tw s.1 (nI g) (nI r) x) (fun s => k39 tw s.1 (nI g) (nI (r + 1))) (fun _ s => Rp 99999999 s.1 s.2) (fun x s s' => (SnD T g 99999999 s.2 → SnD T g 99999999 s'.2) ∧ (∀ i j, s'.2 i j ≤ s.2 i j) ∧ ∀ a, x ≤ a → a < T 0 0 → ∀ u v f t, DE T g u v f t → s'.2 a v ≤ s.2 a u + f) (T 0 0) (fun s => ⟨id, fun _ _ => Nat.le_refl _, fun i h1 h2 => by omega⟩) ?_ ?_ (T 0 0) 0 fu (A, D) (by omega) (by omega) hR) (fun s' h => ⟨s'.1, s'.2, h.1, h.2.1, h.2.2⟩)
  · intro n x s hx hI
    obtain ⟨A, D⟩ := s
    have hR : Rp 99999999 A D := hI
    obtain ⟨A1, D1, e1, R1, h1, h2, h3⟩ := shor60 (x2 := nI r) (k39 := k39) (k47 := f_X7_shortest_L47 fu k39 n) hO h7 hg hx hf hR
    refine ⟨(A1, D1), ?_, R1, fun s'' hq => ⟨fun hs => hq.1 (h1 hs), fun i j => Nat.le_trans (hq.2.1 i j) (h2 i j), fun i p1 p2 u v f t hE => ?_⟩⟩
    · show f_X7_shortest_L47b fu k39 (f_X7_shortest_L47 fu k39 n) tw A (nI g) (nI r) (nI x) = _
      unfold f_X7_shortest_L47b
      rw [q0, show ((0 : Int32).toNatClampNeg) = 0 from rfl, h7.1, if_neg (nI_ge (by omega) (by omega)), e1]
    · by_cases e : i = x
      · subst e
        obtain ⟨s, hs, hb, h, hf', _⟩ := hE
        have q := h3 s (Nat.zero_le _) hs hb
        have m := hq.2.1 i v
        rcases h with ⟨a1, a2⟩ | ⟨a1, a2⟩
        · subst a1 a2 hf'
          exact Nat.le_trans m q.1
        · subst a1 a2 hf'
          exact Nat.le_trans m q.2
      · have q := hq.2.2 i (by omega) p2 u v f t hE
        exact Nat.le_trans q (Nat.add_le_add_right (h2 i u) _)
  · intro n s hI
    show f_X7_shortest_L47b fu k39 (f_X7_shortest_L47 fu k39 n) tw s.1 (nI g) (nI r) (nI (T 0 0)) = _
    unfold f_X7_shortest_L47b
    rw [q0, show ((0 : Int32).toNatClampNeg) = 0 from rfl, h7.1, if_pos (nI_le (Nat.le_refl _) (by omega)), show nI r + 1 = nI (r + 1) from nI_add r 1]
/-- what the reference's minutes say -/
theorem shortest7 (hO : TOk T) (h7 : TwB T tw) {fu g : Nat} (hg : g < T 0 2) (hf : 50 ≤ fu) (A : Nat → Int32) : ∃ A' D, f_X7_shortest fu tw A (nI g) = some A' ∧ Rp 99999999 A' D ∧ SnD T g 99999999 D ∧ ∀ a k v f t, a < T 0 0 → Wk (DE T g) k a v f t → D a v ≤ f := by
  have o1 := hO.1
  obtain ⟨A1, e1, R1⟩ := shor2 (tw := tw) (x1 := nI g) hf A
  obtain ⟨s, e, D, h1, h2, h3⟩ := rel_loop (σ := Nat → Int32) (fun n s x => f_X7_shortest_L39 fu n tw s (nI g) x) (fun s => some s) (fun x s => ∃ D, Rp 99999999 s D ∧ SnD T g 99999999 D ∧ ∀ a j v f t, a < T 0 0 → j ≤ x → Wk (DE T g) j a v f t → D a v ≤ f) 7 (by
    intro n x A hx hI
    obtain ⟨D, hR, hS, hU⟩ := hI
    obtain ⟨A1, D1, e1, R1, h1, h2, h3⟩ := shor47 (fu := fu) (r := x) (k39 := f_X7_shortest_L39 fu n) hO h7 hg (by omega) hR
    refine ⟨A1, ?_, D1, R1, h1 hS, fun a j v f t ha hj hw => ?_⟩
    · show f_X7_shortest_L39b fu (f_X7_shortest_L39 fu n) tw A (nI g) (nI x) = _
      unfold f_X7_shortest_L39b
      rw [if_neg (by rw [show (7 : Int32) = nI 7 from rfl]; exact nI_ge (by omega) (by omega)), e1]
    · by_cases e : j ≤ x
      · exact Nat.le_trans (h2 a v) (hU a j v f t ha e hw)
      · obtain rfl : j = x + 1 := by omega
        obtain ⟨m, f1, t1, f2, t2, w1, w2, rfl, rfl⟩ := hw
        have q1 := hU a x m f1 t1 ha (Nat.le_refl _) w1
        have q2 := h3 a (Nat.zero_le _) ha m v f2 t2 w2
        omega) (by
    intro n A hI
    show f_X7_shortest_L39b fu (f_X7_shortest_L39 fu n) tw A (nI g) (nI 7) = _
    unfold f_X7_shortest_L39b
    rw [if_pos (by decide)]) 7 0 fu A1 (by omega) (by omega) ⟨_, R1, init_snd, fun a j v f t ha hj hw => by
      obtain rfl : j = 0 := by omega
      obtain ⟨rfl, rfl, rfl⟩ := hw
      simp⟩
  refine ⟨s, D, e1.trans e, h1, h2, fun a k v f t ha hw => ?_⟩
  obtain ⟨k', f', t', p1, p2, p3, p4⟩ := wk_dom (N := 7) (fun u v f t h => by have := de_node hO u v f t h; omega) (by decide) k k a v f t (Nat.le_refl _) hw
  exact Nat.le_trans (h3 a k' v f' t' ha (by omega) p4) p2
end DAY7
