/-! soonest, cheapest: the class's labels -/
def fo (so : Bool) (a b : Nat) : Nat := if so then a else b
/-- a step of a guided way, between nodes (corner * 4 + guide) -/
def RE (T : Nat → Nat → Nat) (so : Bool) (u v f t : Nat) : Prop :=
  (∃ s g, s < T 0 1 ∧ g < T 0 2 ∧ (T 7 g).testBit s = true ∧ ((u = T 2 s * 4 + g ∧ v = T 3 s * 4 + g) ∨ (u = T 3 s * 4 + g ∧ v = T 2 s * 4 + g)) ∧ f = fo so (T 4 s + T 5 g) (T 6 g * (T 4 s + T 5 g)) ∧ t = fo so (T 6 g * (T 4 s + T 5 g)) (T 4 s + T 5 g)) ∨
  (∃ c g h, c < T 0 0 ∧ g < T 0 2 ∧ h < T 0 2 ∧ (T 8 g).testBit c = true ∧ (T 8 h).testBit c = true ∧ u = c * 4 + h ∧ v = c * 4 + g ∧ f = fo so (T 0 4) 0 ∧ t = fo so 0 (T 0 4))
def SC (T : Nat → Nat → Nat) (so : Bool) (al be g s u v w : Nat) : Prop := (T 7 g).testBit s = true ∧ ((u = T 2 s * 4 + g ∧ v = T 3 s * 4 + g) ∨ (u = T 3 s * 4 + g ∧ v = T 2 s * 4 + g)) ∧ w = al * fo so (T 4 s + T 5 g) (T 6 g * (T 4 s + T 5 g)) + be * fo so (T 6 g * (T 4 s + T 5 g)) (T 4 s + T 5 g)
def HC (T : Nat → Nat → Nat) (so : Bool) (al be c g h u v w : Nat) : Prop := (T 8 g).testBit c = true ∧ (T 8 h).testBit c = true ∧ u = c * 4 + h ∧ v = c * 4 + g ∧ w = al * fo so (T 0 4) 0 + be * fo so 0 (T 0 4)
theorem fo_le {so : Bool} {a b n : Nat} (ha : a ≤ n) (hb : b ≤ n) : fo so a b ≤ n := by
  unfold fo
  split <;> assumption
theorem led_le {T : Nat → Nat → Nat} (hO : TOk T) {s g : Nat} (hs : s < T 0 1) (hg : g < T 0 2) : T 4 s + T 5 g ≤ 14 ∧ T 6 g * (T 4 s + T 5 g) ≤ 126 := by
  have o := hO.2.2.2.2.2.2.1 s hs
  have q := hO.2.2.2.2.2.2.2.1 g hg
  refine ⟨by omega, ?_⟩
  exact Nat.mul_le_mul (show T 6 g ≤ 9 by omega) (show T 4 s + T 5 g ≤ 14 by omega)
theorem re_bnd {T : Nat → Nat → Nat} (hO : TOk T) {so : Bool} : ∀ u v f t, RE T so u v f t → f ≤ 126 ∧ t ≤ 126 := by
  intro u v f t h
  have o5 := hO.2.2.2.2.1
  rcases h with ⟨s, g, hs, hg, _, _, rfl, rfl⟩ | ⟨c, g, h, hc, hg, hh, _, _, _, _, rfl, rfl⟩
  · have := led_le hO hs hg
    exact ⟨fo_le (by omega) (by omega), fo_le (by omega) (by omega)⟩
  · exact ⟨fo_le (by omega) (by omega), fo_le (by omega) (by omega)⟩
theorem re_node {T : Nat → Nat → Nat} (hO : TOk T) {so : Bool} : ∀ u v f t, RE T so u v f t → u < 28 ∧ v < 28 := by
  intro u v f t h
  have o1 := hO.1
  have o3 := hO.2.2.1
  rcases h with ⟨s, g, hs, hg, _, h, _, _⟩ | ⟨c, g, h, hc, hg, hh, _, _, rfl, rfl, _, _⟩
  · have o := hO.2.2.2.2.2.2.1 s hs
    rcases h with ⟨rfl, rfl⟩ | ⟨rfl, rfl⟩ <;> omega
  · omega
theorem re_guide {T : Nat → Nat → Nat} (hO : TOk T) {so : Bool} : ∀ u v f t, RE T so u v f t → u % 4 < T 0 2 ∧ v % 4 < T 0 2 := by
  intro u v f t h
  have o3 := hO.2.2.1
  rcases h with ⟨s, g, hs, hg, _, h, _, _⟩ | ⟨c, g, h, hc, hg, hh, _, _, rfl, rfl, _, _⟩
  · rcases h with ⟨rfl, rfl⟩ | ⟨rfl, rfl⟩ <;> omega
  · omega
theorem re_sym {T : Nat → Nat → Nat} {so : Bool} : ∀ u v f t, RE T so u v f t → RE T so v u f t := by
  intro u v f t h
  rcases h with ⟨s, g, hs, hg, hk, h, hf, ht⟩ | ⟨c, g, h, hc, hg, hh, h1, h2, hu, hv, hf, ht⟩
  · refine .inl ⟨s, g, hs, hg, hk, ?_, hf, ht⟩
    rcases h with ⟨rfl, rfl⟩ | ⟨rfl, rfl⟩
    · exact .inr ⟨rfl, rfl⟩
    · exact .inl ⟨rfl, rfl⟩
  · exact .inr ⟨c, h, g, hc, hh, hg, h2, h1, hv, hu, hf, ht⟩
theorem costOf6 (so : Bool) (m p : Nat) : f_X0_costOf (nI m) (nI p) (bi so) = some (nI (10000 * fo so m p + 1 * fo so p m)) := by
  unfold f_X0_costOf fo
  cases so
  · rw [if_pos (show bi false = 0 from rfl), show (10000 : Int32) = nI 10000 from rfl, pk_mul, nI_add]
    simp only [Bool.false_eq_true, if_false]
    rw [Nat.mul_comm p, Nat.one_mul]
  · rw [if_neg (show ¬ bi true = 0 from by decide), show (10000 : Int32) = nI 10000 from rfl, pk_mul, nI_add]
    simp only [if_true]
    rw [Nat.mul_comm m, Nat.one_mul]
def cn (L : Nat → Option Nat) : Nat → Nat
  | 0 => 0
  | n + 1 => cn L n + (if (L n).isSome then 1 else 0)
theorem cn_le (L : Nat → Option Nat) : ∀ n, cn L n ≤ n := by
  intro n
  induction n with
  | zero => exact Nat.le_refl _
  | succ n ih =>
    show cn L n + (if (L n).isSome then 1 else 0) ≤ n + 1
    split <;> omega
theorem cn_put (L : Nat → Option Nat) (v c : Nat) : ∀ n, cn (putL L v c) n = cn L n + (if v < n then (if (L v).isSome then 0 else 1) else 0) := by
  intro n
  induction n with
  | zero => rfl
  | succ n ih =>
    show cn (putL L v c) n + (if (putL L v c n).isSome then 1 else 0) = cn L n + (if (L n).isSome then 1 else 0) + _
    rw [ih]
    by_cases e : n = v
    · subst e
      rw [if_neg (Nat.lt_irrefl n), if_pos (Nat.lt_succ_self n), show putL L n c n = some c from if_pos rfl]
      cases (L n).isSome <;> rfl
    · rw [show putL L v c n = L n from if_neg e]
      by_cases q : v < n
      · rw [if_pos q, if_pos (show v < n + 1 by omega)]
        omega
      · rw [if_neg q, if_neg (show ¬ v < n + 1 by omega)]
        omega
/-- the class's costs hold the labels -/
def Rep6 (L : Nat → Option Nat) (A : Nat → Int32) : Prop := ∀ v, v < 28 → (L v = none ∧ A v = nI 1000000000) ∨ ∃ c, L v = some c ∧ A v = nI c ∧ c ≤ 1260126 * cn L 28
theorem Rep6.put {L : Nat → Option Nat} {A : Nat → Int32} (h : Rep6 L A) {v c : Nat} (h1 : c ≤ 1260126 * cn (putL L v c) 28) : Rep6 (putL L v c) (upd A v (nI c)) := by
  intro j hj
  by_cases e : j = v
  · exact .inr ⟨c, if_pos e, if_pos e, h1⟩
  · have h2 : cn L 28 ≤ cn (putL L v c) 28 := by rw [cn_put]; omega
    rcases h j hj with ⟨a, b⟩ | ⟨d, a, b, q⟩
    · exact .inl ⟨(if_neg e).trans a, (if_neg e).trans b⟩
    · exact .inr ⟨d, (if_neg e).trans a, (if_neg e).trans b, Nat.le_trans q (Nat.mul_le_mul_left _ h2)⟩
theorem lower6 {L : Nat → Option Nat} {A : Nat → Int32} {u v w : Nat} (h : Rep6 L A) (hu : u < 28) (hv : v < 28) (hw : w ≤ 1260126) : ∃ A', f_X0_lower A (nI v) (nI u) (nI w) = some (if rlb L v u w then 1 else 0, A') ∧ Rep6 (rlx L v u w) A' := by
  have hc := cn_le L 28
  have qu : ∀ {α : Type} (X : Option α), xb (nI u) 28 X = X := fun X => xb_nI X hu (by decide)
  have qv : ∀ {α : Type} (X : Option α), xb (nI v) 28 X = X := fun X => xb_nI X hv (by decide)
  unfold f_X0_lower rlx
  simp only [qu, qv, cl u (show u < 2 ^ 31 by omega), cl v (show v < 2 ^ 31 by omega)]
  rcases h u hu with ⟨e1, a1⟩ | ⟨c, e1, a1, b1⟩
  · have hb : rlb L v u w = false := by unfold rlb; rw [e1]
    rw [a1, hb, if_pos (by decide)]
    exact ⟨A, rfl, h⟩
  · rw [a1, show (1000000000 : Int32) = nI 1000000000 from rfl, if_neg (nI_ge (by omega) (by decide)), nI_add]
    rcases h v hv with ⟨e2, a2⟩ | ⟨b, e2, a2, b2⟩
    · have hb : rlb L v u w = true := by unfold rlb; rw [e1, e2]
      rw [a2, hb, if_pos (nI_lt (by omega) (by decide)), if_pos rfl, if_pos rfl, e1]
      refine ⟨_, rfl, h.put ?_⟩
      rw [cn_put, if_pos hv, e2, Nat.mul_add]
      show c + w ≤ _ + 1260126 * 1
      omega
    · by_cases q : c + w < b
      · have hb : rlb L v u w = true := by unfold rlb; rw [e1, e2]; exact decide_eq_true q
        rw [a2, hb, if_pos (nI_lt q (by omega)), if_pos rfl, if_pos rfl, e1]
        refine ⟨_, rfl, h.put ?_⟩
        rw [cn_put, Nat.mul_add]
        show c + w ≤ _
        omega
      · have hb : rlb L v u w = false := by unfold rlb; rw [e1, e2]; exact decide_eq_false q
        rw [a2, hb, if_neg (nI_nlt (by omega) (by omega))]
        exact ⟨A, rfl, h⟩
theorem fl01 {b : Bool} {α : Type} (X Y : α) : (if (if b then (1 : Int32) else 0) = 0 then X else Y) = if b then Y else X := by
  cases b <;> rfl
section ROUTE6
variable {T : Nat → Nat → Nat} {nc ns ng nb hd : Int32} {mk ea eb ln pa fe kn hi bl tw : Nat → Int32} {L0 : Nat → Option Nat}
theorem streets6 (hO : TOk T) (h6 : TwA T nc ns ng nb hd mk ea eb ln pa fe kn hi bl) {fu g : Nat} {so : Bool} (hg : g < T 0 2) (hf : 10 ≤ fu) {A : Nat → Int32} {L : Nat → Option Nat} (hR : Rep6 L A) : ∃ A' ch' L', f_X0_costStreets fu A ns ng ea eb ln pa fe kn (nI g) (bi so) = some (ch', A') ∧ Rep6 L' A' ∧ RStp (RE T so) 10000 1 L0 (fun u v w => ∃ s, 0 ≤ s ∧ s < T 0 1 ∧ SC T so 10000 1 g s u v w) L 0 L' ch' := by
  have o1 := hO.1
  have o2 := hO.2.1
  have o3 := hO.2.2.1
  refine Exists.elim (loop_ex (σ := (Nat → Int32) × Int32 × (Nat → Option Nat)) (fun n s x => f_X0_costStreets_L6 fu n s.1 ns ng ea eb ln pa fe kn (nI g) (bi so) s.2.1 x) (fun s => some (s.2.1, s.1)) (fun _ s => Rep6 s.2.2 s.1 ∧ (s.2.1 = 0 ∨ s.2.1 = 1)) (fun x s s' => RStp (RE T so) 10000 1 L0 (fun u v w => ∃ i, x ≤ i ∧ i < T 0 1 ∧ SC T so 10000 1 g i u v w) s.2.2 s.2.1 s'.2.2 s'.2.1) (T 0 1) (fun s => stp_nil (fun u v w q => by obtain ⟨i, h1, h2, _⟩ := q; omega)) ?_ ?_ (T 0 1) 0 fu (A, 0, L) (by omega) (by omega) ⟨hR, .inl rfl⟩) (fun s' h => ⟨s'.1, s'.2.1, s'.2.2, h.1, h.2.1.1, h.2.2⟩)
  · intro n x s hx hI
    obtain ⟨A, ch, L⟩ := s
    obtain ⟨hR, hch⟩ := hI
    have hR : Rep6 L A := hR
    have o := hO.2.2.2.2.2.2.1 x hx
    have s6 := h6.2.2.2.2.2.2.1 x hx
    have g6 := h6.2.2.2.2.2.2.2.1 g hg
    have hl := led_le hO hx hg
    have q9 : ∀ {α : Type} (X : Option α), xb (nI x) 9 X = X := fun X => xb_nI X (by omega) (by decide)
    have q4 : ∀ {α : Type} (X : Option α), xb (nI g) 4 X = X := fun X => xb_nI X (by omega) (by decide)
    generalize hm : T 4 x + T 5 g = m at hl
    generalize hp : T 6 g * m = p at hl
    have hfo1 : fo so m p ≤ 126 := fo_le (by omega) (by omega)
    have hfo2 : fo so p m ≤ 126 := fo_le (by omega) (by omega)
    generalize hw : 10000 * fo so m p + 1 * fo so p m = w
    obtain ⟨A1, l1, R1⟩ := lower6 (u := T 3 x * 4 + g) (v := T 2 x * 4 + g) (w := w) hR (by omega) (by omega) (by omega)
    obtain ⟨A2, l2, R2⟩ := lower6 (u := T 2 x * 4 + g) (v := T 3 x * 4 + g) (w := w) R1 (by omega) (by omega) (by omega)
    have hn : ∀ c : Nat, nI c * 4 + nI g = nI (c * 4 + g) := fun c => by rw [show (4 : Int32) = nI 4 from rfl, pk_mul, nI_add]
    have e0 : f_X0_costStreets_L6 fu (n + 1) A ns ng ea eb ln pa fe kn (nI g) (bi so) ch (nI x) = if (T 7 g).testBit x then f_X0_costStreets_L6 fu n A2 ns ng ea eb ln pa fe kn (nI g) (bi so) (if rlb (rlx L (T 2 x * 4 + g) (T 3 x * 4 + g) w) (T 3 x * 4 + g) (T 2 x * 4 + g) w then 1 else (if rlb L (T 2 x * 4 + g) (T 3 x * 4 + g) w then 1 else ch)) (nI (x + 1)) else f_X0_costStreets_L6 fu n A ns ng ea eb ln pa fe kn (nI g) (bi so) ch (nI (x + 1)) := by
      show f_X0_costStreets_L6b fu (f_X0_costStreets_L6 fu n) A ns ng ea eb ln pa fe kn (nI g) (bi so) ch (nI x) = _
      unfold f_X0_costStreets_L6b f_X0_costStreets_J96
      rw [if_neg (by rw [h6.2.1]; exact nI_ge (by omega) (by omega)), kno6 hO h6 hg hx, led6 hO h6 hg hx, cl x (by omega), cl g (by omega), s6.1, s6.2.1, g6.2.1, hm, hn, hn, show nI x + 1 = nI (x + 1) from nI_add x 1]
      simp only [bnd, q9, q4, b01i]
      rw [pk_mul, hp, costOf6, hw]
      simp only [bnd]
      rw [l1]
      simp only [bnd, fl01]
      rw [l2]
      simp only [bnd, fl01]
      cases (T 7 g).testBit x
      · rfl
      · cases rlb L (T 2 x * 4 + g) (T 3 x * 4 + g) w <;> cases rlb (rlx L (T 2 x * 4 + g) (T 3 x * 4 + g) w) (T 3 x * 4 + g) (T 2 x * 4 + g) w <;> rfl
    by_cases c : (T 7 g).testBit x = true
    · rw [if_pos c] at e0
      refine ⟨(A2, _, rlx (rlx L (T 2 x * 4 + g) (T 3 x * 4 + g) w) (T 3 x * 4 + g) (T 2 x * 4 + g) w), e0, ⟨R2, ?_⟩, fun s'' hq => ?_⟩
      · show (if _ then (1 : Int32) else _) = 0 ∨ (if _ then (1 : Int32) else _) = 1
        split
        · exact .inr rfl
        · split
          · exact .inr rfl
          · exact hch
      · have hE1 : RE T so (T 3 x * 4 + g) (T 2 x * 4 + g) (fo so m p) (fo so p m) := .inl ⟨x, g, hx, hg, c, .inr ⟨rfl, rfl⟩, by rw [hm, hp], by rw [hm, hp]⟩
        have s1 := stp_rlx (al := 10000) (be := 1) (L0 := L0) (L := L) (ch := ch) hE1 hw.symm
        have s2 := stp_rlx (al := 10000) (be := 1) (L0 := L0) (L := rlx L (T 2 x * 4 + g) (T 3 x * 4 + g) w) (ch := if rlb L (T 2 x * 4 + g) (T 3 x * 4 + g) w then 1 else ch) (re_sym _ _ _ _ hE1) hw.symm
        refine stp_trans (C1 := fun u v w => SC T so 10000 1 g x u v w) (fun u v w' q => ?_) (stp_trans (fun u v w' q => ?_) s1 s2) hq
        · obtain ⟨i, q1, q2, q3⟩ := q
          by_cases e : i = x
          · subst e
            exact .inl q3
          · exact .inr ⟨i, by omega, q2, q3⟩
        · obtain ⟨_, q2, q3⟩ := q
          rw [hm, hp, hw] at q3
          rcases q2 with ⟨a, b⟩ | ⟨a, b⟩
          · exact .inr ⟨a, b, q3⟩
          · exact .inl ⟨a, b, q3⟩
    · rw [if_neg c] at e0
      refine ⟨(A, ch, L), e0, ⟨hR, hch⟩, fun s'' hq => stp_sub (fun u v w' q => ?_) hq⟩
      obtain ⟨i, q1, q2, q3⟩ := q
      by_cases e : i = x
      · subst e
        exact absurd q3.1 c
      · exact ⟨i, by omega, q2, q3⟩
  · intro n s hI
    obtain ⟨A, ch, L⟩ := s
    show f_X0_costStreets_L6b fu (f_X0_costStreets_L6 fu n) A ns ng ea eb ln pa fe kn (nI g) (bi so) ch (nI (T 0 1)) = _
    unfold f_X0_costStreets_L6b xz
    rw [if_pos (by rw [h6.2.1]; exact nI_le (Nat.le_refl _) (by omega)), if_pos hI.2]
end ROUTE6
