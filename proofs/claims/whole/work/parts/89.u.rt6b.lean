/-! soonest, cheapest: the class's rounds -/
section ROUTE6
variable {T : Nat → Nat → Nat} {nc ns ng nb hd : Int32} {mk ea eb ln pa fe kn hi bl tw : Nat → Int32} {L0 : Nat → Option Nat}
theorem hands42 (hO : TOk T) (h6 : TwA T nc ns ng nb hd mk ea eb ln pa fe kn hi bl) {fu g c w : Nat} {so : Bool} (hg : g < T 0 2) (hc : c < T 0 0) (hgc : (T 8 g).testBit c = true) (hw : 10000 * fo so (T 0 4) 0 + 1 * fo so 0 (T 0 4) = w) (hf : 10 ≤ fu) {k17 : (Nat → Int32) → Int32 → Int32 → Int32 → (Nat → Int32) → Int32 → Int32 → Int32 → Int32 → Option R_X0_costHands} {A : Nat → Int32} {L : Nat → Option Nat} {ch : Int32} (hR : Rep6 L A) (hch : ch = 0 ∨ ch = 1) : ∃ A' ch' L', f_X0_costHands_L42 fu k17 fu A nc ng hd hi (nI g) ch (nI w) (nI c) 0 = k17 A' nc ng hd hi (nI g) ch' (nI w) (nI (c + 1)) ∧ Rep6 L' A' ∧ (ch' = 0 ∨ ch' = 1) ∧ RStp (RE T so) 10000 1 L0 (fun u v w => ∃ i, 0 ≤ i ∧ i < T 0 2 ∧ HC T so 10000 1 c g i u v w) L ch L' ch' := by
  have o1 := hO.1
  have o3 := hO.2.2.1
  have o5 := hO.2.2.2.2.1
  have hfo1 : fo so (T 0 4) 0 ≤ 9 := fo_le (by omega) (by omega)
  have hfo2 : fo so 0 (T 0 4) ≤ 9 := fo_le (by omega) (by omega)
  refine Exists.elim (loop_ex (σ := (Nat → Int32) × Int32 × (Nat → Option Nat)) (fun n s x => f_X0_costHands_L42 fu k17 n s.1 nc ng hd hi (nI g) s.2.1 (nI w) (nI c) x) (fun s => k17 s.1 nc ng hd hi (nI g) s.2.1 (nI w) (nI (c + 1))) (fun _ s => Rep6 s.2.2 s.1 ∧ (s.2.1 = 0 ∨ s.2.1 = 1)) (fun x s s' => RStp (RE T so) 10000 1 L0 (fun u v w => ∃ i, x ≤ i ∧ i < T 0 2 ∧ HC T so 10000 1 c g i u v w) s.2.2 s.2.1 s'.2.2 s'.2.1) (T 0 2) (fun s => stp_nil (fun u v w q => by obtain ⟨i, h1, h2, _⟩ := q; omega)) ?_ ?_ (T 0 2) 0 fu (A, ch, L) (by omega) (by omega) ⟨hR, hch⟩) (fun s' h => ⟨s'.1, s'.2.1, s'.2.2, h.1, h.2.1.1, h.2.1.2, h.2.2⟩)
  · intro n x s hx hI
    obtain ⟨A, ch, L⟩ := s
    obtain ⟨hR, hch⟩ := hI
    have hR : Rep6 L A := hR
    obtain ⟨A1, l1, R1⟩ := lower6 (u := c * 4 + x) (v := c * 4 + g) (w := w) hR (by omega) (by omega) (by omega)
    have hn : ∀ y : Nat, nI c * 4 + nI y = nI (c * 4 + y) := fun y => by rw [show (4 : Int32) = nI 4 from rfl, pk_mul, nI_add]
    have e0 : f_X0_costHands_L42 fu k17 (n + 1) A nc ng hd hi (nI g) ch (nI w) (nI c) (nI x) = if (T 8 x).testBit c then f_X0_costHands_L42 fu k17 n A1 nc ng hd hi (nI g) (if rlb L (c * 4 + g) (c * 4 + x) w then 1 else ch) (nI w) (nI c) (nI (x + 1)) else f_X0_costHands_L42 fu k17 n A nc ng hd hi (nI g) ch (nI w) (nI c) (nI (x + 1)) := by
      show f_X0_costHands_L42b fu k17 (f_X0_costHands_L42 fu k17 n) A nc ng hd hi (nI g) ch (nI w) (nI c) (nI x) = _
      unfold f_X0_costHands_L42b
      rw [if_neg (by rw [h6.2.2.1]; exact nI_ge (by omega) (by omega)), his6 hO h6 hx hc, hn, hn, show nI x + 1 = nI (x + 1) from nI_add x 1]
      simp only [bnd, b01i]
      rw [l1]
      simp only [bnd, fl01]
      cases (T 8 x).testBit c
      · rfl
      · cases rlb L (c * 4 + g) (c * 4 + x) w <;> rfl
    by_cases q : (T 8 x).testBit c = true
    · rw [if_pos q] at e0
      refine ⟨(A1, _, rlx L (c * 4 + g) (c * 4 + x) w), e0, ⟨R1, ?_⟩, fun s'' hq => ?_⟩
      · show (if _ then (1 : Int32) else _) = 0 ∨ (if _ then (1 : Int32) else _) = 1
        split
        · exact .inr rfl
        · exact hch
      · have hE : RE T so (c * 4 + x) (c * 4 + g) (fo so (T 0 4) 0) (fo so 0 (T 0 4)) := .inr ⟨c, g, x, hc, hg, hx, hgc, q, rfl, rfl, rfl, rfl⟩
        refine stp_trans (fun u v w' r => ?_) (stp_rlx (al := 10000) (be := 1) (L0 := L0) (L := L) (ch := ch) hE hw.symm) hq
        obtain ⟨i, r1, r2, r3⟩ := r
        by_cases e : i = x
        · subst e
          obtain ⟨_, _, r4, r5, r6⟩ := r3
          exact .inl ⟨r4, r5, r6.trans hw⟩
        · exact .inr ⟨i, by omega, r2, r3⟩
    · rw [if_neg q] at e0
      refine ⟨(A, ch, L), e0, ⟨hR, hch⟩, fun s'' hq => stp_sub (fun u v w' r => ?_) hq⟩
      obtain ⟨i, q1, q2, q3⟩ := r
      by_cases e : i = x
      · subst e
        exact absurd q3.2.1 q
      · exact ⟨i, by omega, q2, q3⟩
  · intro n s hI
    obtain ⟨A, ch, L⟩ := s
    show f_X0_costHands_L42b fu k17 (f_X0_costHands_L42 fu k17 n) A nc ng hd hi (nI g) ch (nI w) (nI c) (nI (T 0 2)) = _
    unfold f_X0_costHands_L42b
    rw [if_pos (by rw [h6.2.2.1]; exact nI_le (Nat.le_refl _) (by omega)), show nI c + 1 = nI (c + 1) from nI_add c 1]
theorem hands6 (hO : TOk T) (h6 : TwA T nc ns ng nb hd mk ea eb ln pa fe kn hi bl) {fu g : Nat} {so : Bool} (hg : g < T 0 2) (hf : 10 ≤ fu) {A : Nat → Int32} {L : Nat → Option Nat} (hR : Rep6 L A) : ∃ A' ch' L', f_X0_costHands fu A nc ng hd hi (nI g) (bi so) = some (ch', A') ∧ Rep6 L' A' ∧ RStp (RE T so) 10000 1 L0 (fun u v w => ∃ c, 0 ≤ c ∧ c < T 0 0 ∧ ∃ i, 0 ≤ i ∧ i < T 0 2 ∧ HC T so 10000 1 c g i u v w) L 0 L' ch' := by
  have o1 := hO.1
  have o3 := hO.2.2.1
  unfold f_X0_costHands
  rw [h6.2.2.2.2.1, show (0 : Int32) = nI 0 from rfl, costOf6, bnd]
  generalize hw : 10000 * fo so (T 0 4) 0 + 1 * fo so 0 (T 0 4) = w
  refine Exists.elim (loop_ex (σ := (Nat → Int32) × Int32 × (Nat → Option Nat)) (fun n s x => f_X0_costHands_L17 fu n s.1 nc ng (nI (T 0 4)) hi (nI g) s.2.1 (nI w) x) (fun s => some (s.2.1, s.1)) (fun _ s => Rep6 s.2.2 s.1 ∧ (s.2.1 = 0 ∨ s.2.1 = 1)) (fun x s s' => RStp (RE T so) 10000 1 L0 (fun u v w => ∃ c, x ≤ c ∧ c < T 0 0 ∧ ∃ i, 0 ≤ i ∧ i < T 0 2 ∧ HC T so 10000 1 c g i u v w) s.2.2 s.2.1 s'.2.2 s'.2.1) (T 0 0) (fun s => stp_nil (fun u v w q => by obtain ⟨i, h1, h2, _⟩ := q; omega)) ?_ ?_ (T 0 0) 0 fu (A, 0, L) (by omega) (by omega) ⟨hR, .inl rfl⟩) (fun s' h => ⟨s'.1, s'.2.1, s'.2.2, h.1, h.2.1.1, h.2.2⟩)
  · intro n x s hx hI
    obtain ⟨A, ch, L⟩ := s
    obtain ⟨hR, hch⟩ := hI
    have hR : Rep6 L A := hR
    have e0 : f_X0_costHands_L17 fu (n + 1) A nc ng (nI (T 0 4)) hi (nI g) ch (nI w) (nI x) = if (T 8 g).testBit x then f_X0_costHands_L42 fu (f_X0_costHands_L17 fu n) fu A nc ng (nI (T 0 4)) hi (nI g) ch (nI w) (nI x) 0 else f_X0_costHands_L17 fu n A nc ng (nI (T 0 4)) hi (nI g) ch (nI w) (nI (x + 1)) := by
      show f_X0_costHands_L17b fu (f_X0_costHands_L17 fu n) A nc ng (nI (T 0 4)) hi (nI g) ch (nI w) (nI x) = _
      unfold f_X0_costHands_L17b
      rw [if_neg (by rw [h6.1]; exact nI_ge (by omega) (by omega)), his6 hO h6 hg hx, show nI x + 1 = nI (x + 1) from nI_add x 1]
      simp only [bnd, b01i]
    by_cases q : (T 8 g).testBit x = true
    · rw [if_pos q] at e0
      obtain ⟨A1, c1, L1, e1, R1, hc1, S1⟩ := hands42 (L0 := L0) (k17 := f_X0_costHands_L17 fu n) hO h6 hg hx q hw hf hR hch
      rw [← h6.2.2.2.2.1] at e0 ⊢
      refine ⟨(A1, c1, L1), e0.trans e1, ⟨R1, hc1⟩, fun s'' hq => stp_trans (fun u v w' r => ?_) S1 hq⟩
      obtain ⟨i, r1, r2, r3⟩ := r
      by_cases e : i = x
      · subst e
        exact .inl r3
      · exact .inr ⟨i, by omega, r2, r3⟩
    · rw [if_neg q] at e0
      refine ⟨(A, ch, L), e0, ⟨hR, hch⟩, fun s'' hq => stp_sub (fun u v w' r => ?_) hq⟩
      obtain ⟨i, q1, q2, j, q3, q4, q5⟩ := r
      by_cases e : i = x
      · subst e
        exact absurd q5.1 q
      · exact ⟨i, by omega, q2, j, q3, q4, q5⟩
  · intro n s hI
    obtain ⟨A, ch, L⟩ := s
    show f_X0_costHands_L17b fu (f_X0_costHands_L17 fu n) A nc ng (nI (T 0 4)) hi (nI g) ch (nI w) (nI (T 0 0)) = _
    unfold f_X0_costHands_L17b xz
    rw [if_pos (by rw [h6.1]; exact nI_le (Nat.le_refl _) (by omega)), if_pos hI.2]
/-- all steps -/
def CA (T : Nat → Nat → Nat) (so : Bool) (al be u v w : Nat) : Prop := ∃ f t, RE T so u v f t ∧ w = al * f + be * t
theorem round6 (hO : TOk T) (h6 : TwA T nc ns ng nb hd mk ea eb ln pa fe kn hi bl) {fu k : Nat} {so : Bool} {a1 a2 a3 x2 : Int32} (hf : 10 ≤ fu) {k43 : (Nat → Int32) → Int32 → Int32 → Int32 → Int32 → Int32 → Int32 → Int32 → (Nat → Int32) → (Nat → Int32) → (Nat → Int32) → (Nat → Int32) → (Nat → Int32) → (Nat → Int32) → (Nat → Int32) → Int32 → Int32 → Int32 → Int32 → Option R_X0_find} {A : Nat → Int32} {L : Nat → Option Nat} (hR : Rep6 L A) : ∃ A' ch' L', f_X0_find_L61 fu k43 fu A a1 a2 a3 nc ns ng hd ea eb ln pa fe kn hi x2 (bi so) 0 (nI k) 0 = k43 A' a1 a2 a3 nc ns ng hd ea eb ln pa fe kn hi x2 (bi so) ch' (nI (k + 1)) ∧ Rep6 L' A' ∧ RStp (RE T so) 10000 1 L0 (CA T so 10000 1) L 0 L' ch' := by
  have o1 := hO.1
  have o3 := hO.2.2.1
  refine Exists.elim (loop_ex (σ := (Nat → Int32) × Int32 × (Nat → Option Nat)) (fun n s x => f_X0_find_L61 fu k43 n s.1 a1 a2 a3 nc ns ng hd ea eb ln pa fe kn hi x2 (bi so) s.2.1 (nI k) x) (fun s => k43 s.1 a1 a2 a3 nc ns ng hd ea eb ln pa fe kn hi x2 (bi so) s.2.1 (nI (k + 1))) (fun _ s => Rep6 s.2.2 s.1) (fun x s s' => RStp (RE T so) 10000 1 L0 (fun u v w => ∃ g, x ≤ g ∧ g < T 0 2 ∧ ((∃ s, 0 ≤ s ∧ s < T 0 1 ∧ SC T so 10000 1 g s u v w) ∨ ∃ c, 0 ≤ c ∧ c < T 0 0 ∧ ∃ i, 0 ≤ i ∧ i < T 0 2 ∧ HC T so 10000 1 c g i u v w)) s.2.2 s.2.1 s'.2.2 s'.2.1) (T 0 2) (fun s => stp_nil (fun u v w q => by obtain ⟨i, h1, h2, _⟩ := q; omega)) ?_ ?_ (T 0 2) 0 fu (A, 0, L) (by omega) (by omega) hR) (fun s' h => ⟨s'.1, s'.2.1, s'.2.2, h.1, h.2.1, stp_sub (fun u v w r => ?_) h.2.2⟩)
  · intro n x s hx hI
    obtain ⟨A, ch, L⟩ := s
    have hR : Rep6 L A := hI
    obtain ⟨A1, c1, L1, e1, R1, S1⟩ := streets6 (L0 := L0) (so := so) hO h6 hx hf hR
    obtain ⟨A2, c2, L2, e2, R2, S2⟩ := hands6 (L0 := L0) (so := so) hO h6 hx hf R1
    have f1 := S1.2.2.2.2.2 (.inl rfl)
    have f2 := S2.2.2.2.2.2 (.inl rfl)
    have e0 : f_X0_find_L61 fu k43 (n + 1) A a1 a2 a3 nc ns ng hd ea eb ln pa fe kn hi x2 (bi so) ch (nI k) (nI x) = f_X0_find_L61 fu k43 n A2 a1 a2 a3 nc ns ng hd ea eb ln pa fe kn hi x2 (bi so) (if c2 = 0 then (if c1 = 0 then ch else 1) else 1) (nI k) (nI (x + 1)) := by
      show f_X0_find_L61b fu k43 (f_X0_find_L61 fu k43 n) A a1 a2 a3 nc ns ng hd ea eb ln pa fe kn hi x2 (bi so) ch (nI k) (nI x) = _
      unfold f_X0_find_L61b f_X0_find_J85
      rw [if_neg (by rw [h6.2.2.1]; exact nI_ge (by omega) (by omega)), e1, show nI x + 1 = nI (x + 1) from nI_add x 1]
      simp only [bnd]
      rw [e2]
      simp only [bnd]
      by_cases q1 : c1 = 0 <;> by_cases q2 : c2 = 0 <;> simp only [q1, q2, if_true, if_false]
    refine ⟨(A2, _, L2), e0, R2, fun s'' hq => ?_⟩
    have S1' : RStp (RE T so) 10000 1 L0 (fun u v w => ∃ s, 0 ≤ s ∧ s < T 0 1 ∧ SC T so 10000 1 x s u v w) L ch L1 (if c1 = 0 then ch else 1) := by
      obtain ⟨b1, b2, b3, b4, b5, b6⟩ := S1
      refine ⟨b1, b2, b3, fun h => ?_, fun p1 p2 => ?_, fun h => ?_⟩
      · by_cases q : c1 = 0
        · rw [if_pos q] at h
          exact ⟨h, (b4 q).2⟩
        · rw [if_neg q] at h
          exact absurd h (by decide)
      · obtain ⟨r1, r2⟩ := b5 p1 p2
        exact ⟨r1, if_pos r2⟩
      · split
        · exact h
        · exact .inr rfl
    have S2' : RStp (RE T so) 10000 1 L0 (fun u v w => ∃ c, 0 ≤ c ∧ c < T 0 0 ∧ ∃ i, 0 ≤ i ∧ i < T 0 2 ∧ HC T so 10000 1 c x i u v w) L1 (if c1 = 0 then ch else 1) L2 (if c2 = 0 then (if c1 = 0 then ch else 1) else 1) := by
      generalize (if c1 = 0 then ch else 1) = ch
      obtain ⟨b1, b2, b3, b4, b5, b6⟩ := S2
      refine ⟨b1, b2, b3, fun h => ?_, fun p1 p2 => ?_, fun h => ?_⟩
      · by_cases q : c2 = 0
        · rw [if_pos q] at h
          exact ⟨h, (b4 q).2⟩
        · rw [if_neg q] at h
          exact absurd h (by decide)
      · obtain ⟨r1, r2⟩ := b5 p1 p2
        exact ⟨r1, if_pos r2⟩
      · split
        · exact h
        · exact .inr rfl
    refine stp_trans (C1 := fun u v w => (∃ s, 0 ≤ s ∧ s < T 0 1 ∧ SC T so 10000 1 x s u v w) ∨ ∃ c, 0 ≤ c ∧ c < T 0 0 ∧ ∃ i, 0 ≤ i ∧ i < T 0 2 ∧ HC T so 10000 1 c x i u v w) (fun u v w r => ?_) (stp_trans (fun u v w r => r) S1' S2') hq
    obtain ⟨i, r1, r2, r3⟩ := r
    by_cases e : i = x
    · subst e
      exact .inl r3
    · exact .inr ⟨i, by omega, r2, r3⟩
  · intro n s hI
    obtain ⟨A, ch, L⟩ := s
    show f_X0_find_L61b fu k43 (f_X0_find_L61 fu k43 n) A a1 a2 a3 nc ns ng hd ea eb ln pa fe kn hi x2 (bi so) ch (nI k) (nI (T 0 2)) = _
    unfold f_X0_find_L61b
    rw [if_pos (by rw [h6.2.2.1]; exact nI_le (Nat.le_refl _) (by omega)), show nI k + 1 = nI (k + 1) from nI_add k 1]
  · obtain ⟨f, t, hE, rfl⟩ := r
    rcases hE with ⟨s, g, hs, hg, hk, hu, rfl, rfl⟩ | ⟨c, g, h, hc, hg, hh, h1, h2, rfl, rfl, rfl, rfl⟩
    · exact ⟨g, Nat.zero_le _, hg, .inl ⟨s, Nat.zero_le _, hs, hk, hu, rfl⟩⟩
    · exact ⟨g, Nat.zero_le _, hg, .inr ⟨c, Nat.zero_le _, hc, h, Nat.zero_le _, hh, h1, h2, rfl, rfl, rfl⟩⟩
/-- the rounds end with the least costs -/
theorem rounds6 (hO : TOk T) (h6 : TwA T nc ns ng nb hd mk ea eb ln pa fe kn hi bl) {fu : Nat} {so : Bool} {a1 a2 a3 x2 : Int32} (hf : 10 ≤ fu) : ∀ (d k p : Nat) (A : Nat → Int32) (L : Nat → Option Nat) (ch : Int32), k + d = 28 → d < p → Rep6 L A → Snd (RE T so) 10000 1 L0 L → Upt (RE T so) 10000 1 L0 k L → (ch = 0 → Cmp (RE T so) 10000 1 L0 L) → ∃ A' L', f_X0_find_L43 fu p A a1 a2 a3 nc ns ng hd ea eb ln pa fe kn hi x2 (bi so) ch (nI k) = f_X0_find_J112 fu A' a1 a2 a3 nc ns ng hd ea eb ln pa fe kn hi x2 (bi so) ∧ Rep6 L' A' ∧ Snd (RE T so) 10000 1 L0 L' ∧ Cmp (RE T so) 10000 1 L0 L' := by
  intro d
  induction d with
  | zero =>
    intro k p A L ch hk hp hR hS hU hc
    obtain ⟨p, rfl⟩ : ∃ j, p = j + 1 := ⟨p - 1, by omega⟩
    obtain rfl : k = 28 := by omega
    refine ⟨A, L, ?_, hR, hS, cmp_of (re_node hO) (by decide) (by decide) hU⟩
    show f_X0_find_L43b fu (f_X0_find_L43 fu p) A a1 a2 a3 nc ns ng hd ea eb ln pa fe kn hi x2 (bi so) ch (nI 28) = _
    unfold f_X0_find_L43b
    rw [if_pos (show (28 : Int32) ≤ nI 28 by decide)]
    split <;> rfl
  | succ d ih =>
    intro k p A L ch hk hp hR hS hU hc
    obtain ⟨p, rfl⟩ : ∃ j, p = j + 1 := ⟨p - 1, by omega⟩
    by_cases q : ch = 0
    · refine ⟨A, L, ?_, hR, hS, hc q⟩
      show f_X0_find_L43b fu (f_X0_find_L43 fu p) A a1 a2 a3 nc ns ng hd ea eb ln pa fe kn hi x2 (bi so) ch (nI k) = _
      unfold f_X0_find_L43b
      rw [if_pos q]
    · obtain ⟨A1, c1, L1, e1, R1, S1⟩ := round6 (L0 := L0) (so := so) (k := k) (a1 := a1) (a2 := a2) (a3 := a3) (x2 := x2) (k43 := f_X0_find_L43 fu p) hO h6 hf hR
      have hC : ∀ u v f t, RE T so u v f t → CA T so 10000 1 u v (10000 * f + 1 * t) := fun u v f t h => ⟨f, t, h, rfl⟩
      have e0 : f_X0_find_L43 fu (p + 1) A a1 a2 a3 nc ns ng hd ea eb ln pa fe kn hi x2 (bi so) ch (nI k) = f_X0_find_L61 fu (f_X0_find_L43 fu p) fu A a1 a2 a3 nc ns ng hd ea eb ln pa fe kn hi x2 (bi so) 0 (nI k) 0 := by
        show f_X0_find_L43b fu (f_X0_find_L43 fu p) A a1 a2 a3 nc ns ng hd ea eb ln pa fe kn hi x2 (bi so) ch (nI k) = _
        unfold f_X0_find_L43b
        rw [if_neg q, if_neg (by rw [show (28 : Int32) = nI 28 from rfl]; exact nI_ge (by omega) (by omega))]
      rw [e0, e1]
      refine ih (k + 1) p A1 L1 c1 (by omega) (by omega) R1 (S1.2.2.1 hS) (upt_succ hC S1 hU) (fun h => ?_)
      have hL := (S1.2.2.2.1 h).2
      subst hL
      exact cmp_fix hC S1 (upt_le (Nat.zero_le _) hU)
end ROUTE6
