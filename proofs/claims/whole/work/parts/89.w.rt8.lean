/-! soonest, cheapest: class and reference -/
section ROUTE8
variable {T : Nat → Nat → Nat} {nc ns ng nb hd : Int32} {mk ea eb ln pa fe kn hi bl tw : Nat → Int32}
theorem wk_end (hO : TOk T) {so : Bool} {k u v f t : Nat} (h : Wk (RE T so) (k + 1) u v f t) : v % 4 < T 0 2 := by
  obtain ⟨m, f1, t1, f2, t2, h1, h2, _, _⟩ := h
  exact (re_guide hO _ _ _ _ h2).2
theorem snd_short (hO : TOk T) {so : Bool} {al be : Nat} {L0 L : Nat → Option Nat} (hS : Snd (RE T so) al be L0 L) (hC : Cmp (RE T so) al be L0 L) {v c : Nat} (h : L v = some c) : ∃ u s k f t, L0 u = some s ∧ Wk (RE T so) k u v f t ∧ c = s + (al * f + be * t) ∧ f ≤ 3402 ∧ t ≤ 3402 := by
  obtain ⟨u, s, k, f, t, h1, h2, h3⟩ := hS v c h
  obtain ⟨k', f', t', p1, p2, p3, p4⟩ := wk_dom (re_node hO) (by decide) k k u v f t (Nat.le_refl _) h2
  obtain ⟨b, q1, q2⟩ := hC k' u s k' v f' t' h1 (Nat.le_refl _) p4
  rw [h] at q1
  cases q1
  have a1 := Nat.mul_le_mul_left al p2
  have a2 := Nat.mul_le_mul_left be p3
  have w := wk_bnd (re_bnd hO) p4
  have b1 : k' * 126 ≤ 27 * 126 := Nat.mul_le_mul_right _ (by omega)
  exact ⟨u, s, k', f', t', h1, p4, by omega, by omega, by omega⟩
theorem match76 (hO : TOk T) {so : Bool} {a b : Nat} (hb : b < T 0 0) {L6 L7 : Nat → Option Nat} (C6 : Cmp (RE T so) 10000 1 (L0c b) L6) (S7 : Snd (RE T so) 67108864 4 (L0x T a (T 0 2)) L7) (C7 : Cmp (RE T so) 67108864 4 (L0x T a (T 0 2)) L7) {x d : Nat} (hx : x < T 0 2) (h : L7 (b * 4 + x) = some d) : ∃ s f t c6, s < T 0 2 ∧ (T 8 s).testBit a = true ∧ d = s + (67108864 * f + 4 * t) ∧ f ≤ 3402 ∧ t ≤ 3402 ∧ L6 (a * 4 + s) = some c6 ∧ c6 ≤ 10000 * f + t := by
  have o1 := hO.1
  have o3 := hO.2.2.1
  obtain ⟨u, s, k, f, t, h1, h2, h3, h4, h5⟩ := snd_short hO S7 C7 h
  unfold L0x at h1
  by_cases c : u / 4 = a ∧ u % 4 < T 0 2 ∧ (T 8 (u % 4)).testBit a = true
  · rw [if_pos c] at h1
    cases h1
    have hu : u = a * 4 + u % 4 := by omega
    have w := wk_sym re_sym h2
    obtain ⟨c6, q1, q2⟩ := C6 k (b * 4 + x) 0 k u f t (if_pos ⟨by omega, by omega⟩) (Nat.le_refl _) w
    rw [hu] at q1
    exact ⟨u % 4, f, t, c6, c.2.1, c.2.2, h3, h4, h5, q1, by omega⟩
  · rw [if_neg c] at h1
    cases h1
theorem match67 (hO : TOk T) {so : Bool} {a b : Nat} (ha : a < T 0 0) (hab : a ≠ b) {L6 L7 : Nat → Option Nat} (S6 : Snd (RE T so) 10000 1 (L0c b) L6) (C6 : Cmp (RE T so) 10000 1 (L0c b) L6) (C7 : Cmp (RE T so) 67108864 4 (L0x T a (T 0 2)) L7) {g c : Nat} (hg : g < T 0 2) (hh : (T 8 g).testBit a = true) (h : L6 (a * 4 + g) = some c) : ∃ f t x d, x < T 0 2 ∧ c = 10000 * f + t ∧ f ≤ 3402 ∧ t ≤ 3402 ∧ L7 (b * 4 + x) = some d ∧ d ≤ g + (67108864 * f + 4 * t) := by
  have o1 := hO.1
  have o3 := hO.2.2.1
  obtain ⟨u, s, k, f, t, h1, h2, h3, h4, h5⟩ := snd_short hO S6 C6 h
  unfold L0c at h1
  by_cases c0 : u < 28 ∧ u / 4 = b
  · rw [if_pos c0] at h1
    cases h1
    have w := wk_sym re_sym h2
    match k, w with
    | 0, w =>
      have := w.1
      omega
    | k + 1, w =>
      have hu := wk_end hO w
      obtain ⟨d, q1, q2⟩ := C7 (k + 1) (a * 4 + g) g (k + 1) u f t (by unfold L0x; rw [show (a * 4 + g) / 4 = a by omega, show (a * 4 + g) % 4 = g by omega]; exact if_pos ⟨rfl, hg, hh⟩) (Nat.le_refl _) w
      rw [show u = b * 4 + u % 4 by omega] at q1
      exact ⟨f, t, u % 4, d, hu, by omega, h4, h5, q1, q2⟩
  · rw [if_neg c0] at h1
    cases h1
theorem route_match (hO : TOk T) {so : Bool} {a b : Nat} (ha : a < T 0 0) (hb : b < T 0 0) (hab : a ≠ b) {L6 L7 : Nat → Option Nat} (S6 : Snd (RE T so) 10000 1 (L0c b) L6) (C6 : Cmp (RE T so) 10000 1 (L0c b) L6) (S7 : Snd (RE T so) 67108864 4 (L0x T a (T 0 2)) L7) (C7 : Cmp (RE T so) 67108864 4 (L0x T a (T 0 2)) L7) : (None6 T L6 a (T 0 2) → ∀ x d, ¬ Best7 L7 b (T 0 2) x d) ∧ (None7 L7 b (T 0 2) → ∀ g c, ¬ Best6 T L6 a (T 0 2) g c) ∧ ∀ g c x d, Best6 T L6 a (T 0 2) g c → Best7 L7 b (T 0 2) x d → d % 4 = g ∧ d / 67108864 = c / 10000 ∧ d / 4 % 16777216 = c % 10000 := by
  have o3 := hO.2.2.1
  refine ⟨fun h x d q => ?_, fun h g c q => ?_, fun g c x d p q => ?_⟩
  · obtain ⟨s, f, t, c6, h1, h2, h3, h4, h5, h6, h7⟩ := match76 hO hb C6 S7 C7 q.1 q.2.1
    rw [h s h1 h2] at h6
    cases h6
  · obtain ⟨f, t, x, d, h1, h2, h3, h4, h5, h6⟩ := match67 hO ha hab S6 C6 C7 q.1 q.2.1 q.2.2.1
    rw [h x h1] at h5
    cases h5
  · obtain ⟨s, f, t, c6, h1, h2, h3, h4, h5, h6, h7⟩ := match76 hO hb C6 S7 C7 q.1 q.2.1
    obtain ⟨f', t', x', d', k1, k2, k3, k4, k5, k6⟩ := match67 hO ha hab S6 C6 C7 p.1 p.2.1 p.2.2.1
    have m1 := p.2.2.2 s c6 h1 h2 h6
    have m2 := q.2.2 x' d' k1 k5
    have hg := p.1
    have ef : f = f' := by omega
    subst ef
    have et : t = t' := by omega
    subst et
    have eg : s = g := by omega
    subst eg
    refine ⟨by omega, by omega, by omega⟩
theorem route8 (hO : TOk T) (h6 : TwA T nc ns ng nb hd mk ea eb ln pa fe kn hi bl) (h7 : TwB T tw) {so : Bool} (A : Nat → Int32) (a1 a2 a3 : Int32) (fs ts bs : Nat → Int32) (ch : Int32) (x1 x2 x3 : Int32) : ∃ r v, f_X6_routeAnswer 50 nc ns ng hd ea eb ln pa fe kn hi A a1 a2 a3 x1 x2 x3 (bi so) = some r ∧ f_X7_route 50 tw fs ts bs ch x1 x2 x3 (bi so) = some v ∧ r.1 = v.1 := by
  have o1 := hO.1
  unfold f_X6_routeAnswer f_X7_route
  rw [show f_X4_hasCorner nc x1 = some (if 0 ≤ x1.toInt ∧ x1.toInt < T 0 0 then 1 else 0) from by rw [h6.1]; exact hasC6 (by omega) _, show f_X4_hasCorner nc x2 = some (if 0 ≤ x2.toInt ∧ x2.toInt < T 0 0 then 1 else 0) from by rw [h6.1]; exact hasC6 (by omega) _, isC7 h7.1 (by omega), isC7 h7.1 (by omega), rng6 x3 2 2 rfl, in7n x3 0 2 0 2 rfl rfl]
  simp only [bnd, b01i]
  by_cases c1 : 0 ≤ x1.toInt ∧ x1.toInt < T 0 0
  · by_cases c2 : 0 ≤ x2.toInt ∧ x2.toInt < T 0 0
    · by_cases c3 : 0 ≤ x3.toInt ∧ x3.toInt ≤ 2
      · simp only [if_pos c1, if_pos c2, if_pos c3]
        obtain ⟨a, hka, rfl⟩ := of_in c1.1 c1.2
        obtain ⟨b, hkb, rfl⟩ := of_in c2.1 c2.2
        obtain ⟨k, hk, rfl⟩ : ∃ v : Nat, v < 3 ∧ x3 = nI v := of_in c3.1 (by omega)
        simp only [eqE (show a < 2 ^ 31 by omega) (show b < 2 ^ 31 by omega)]
        by_cases e : a = b
        · simp only [if_pos e]
          by_cases w : nI k = 2
          · simp only [if_pos w]
            exact ⟨_, _, rfl, rfl, rfl⟩
          · simp only [if_neg w]
            exact ⟨_, _, rfl, rfl, rfl⟩
        · simp only [if_neg e]
          obtain ⟨A1, L6, S6, C6, h6'⟩ := find6 (so := so) (a1 := a1) (a2 := a2) (a3 := a3) hO h6 hka hkb A
          obtain ⟨f1, t1, b1, ch', L7, e7, R7, S7, C7⟩ := goes7 (so := so) (ch := ch) hO h7 fs ts bs hka
          obtain ⟨m1, m2, m3⟩ := route_match hO hka hkb e S6 C6 S7 C7
          have hk3 : k = 0 ∨ k = 1 ∨ k = 2 := by omega
          have z02 : ¬ nI 0 = (2 : Int32) := by decide
          have z10 : ¬ nI 1 = (0 : Int32) := by decide
          have z12 : ¬ nI 1 = (2 : Int32) := by decide
          have z20 : ¬ nI 2 = (0 : Int32) := by decide
          have z21 : ¬ nI 2 = (1 : Int32) := by decide
          have z00 : nI 0 = (0 : Int32) := rfl
          have z11 : nI 1 = (1 : Int32) := rfl
          have z22 : nI 2 = (2 : Int32) := rfl
          rw [e7]
          simp only [bnd]
          rcases h6' with ⟨p1, p2⟩ | ⟨g, c, p1, p2⟩
          · rw [p2]
            simp only [bnd]
            rcases end7 (so := so) (ch := ch') (x3 := nI k) hO h7 hkb R7 with ⟨q1, q2⟩ | ⟨x, d, q1, q2⟩
            · rw [q2]
              rcases hk3 with rfl | rfl | rfl
              · rw [if_pos z00]
                exact ⟨_, _, rfl, rfl, rfl⟩
              · rw [if_neg z10, if_pos z11]
                exact ⟨_, _, rfl, rfl, rfl⟩
              · rw [if_neg z20, if_neg z21]
                exact ⟨_, _, rfl, rfl, rfl⟩
            · exact absurd q1 (m1 p1 x d)
          · rw [p2]
            simp only [bnd]
            rcases end7 (so := so) (ch := ch') (x3 := nI k) hO h7 hkb R7 with ⟨q1, q2⟩ | ⟨x, d, q1, q2⟩
            · exact absurd p1 (m2 q1 g c)
            · obtain ⟨r1, r2, r3⟩ := m3 g c x d p1 q1
              rw [q2, r1, r2, r3]
              rcases hk3 with rfl | rfl | rfl
              · rw [if_pos z00, if_neg z02, if_pos z00]
                exact ⟨_, _, rfl, rfl, rfl⟩
              · rw [if_neg z10, if_pos z11, if_neg z12, if_neg z10]
                exact ⟨_, _, rfl, rfl, rfl⟩
              · rw [if_neg z20, if_neg z21, if_pos z22]
                exact ⟨_, _, rfl, rfl, rfl⟩
      · simp only [if_pos c1, if_pos c2, if_neg c3]
        exact ⟨_, _, rfl, rfl, rfl⟩
    · simp only [if_pos c1, if_neg c2]
      exact ⟨_, _, rfl, rfl, rfl⟩
  · simp only [if_neg c1]
    exact ⟨_, _, rfl, rfl, rfl⟩
end ROUTE8
theorem st_soonest : St_soonest Sim := by
  intro I F as J G tr x1 x2 x3 h
  obtain ⟨T, hO, h6, h7, ha, r⟩ := h
  obtain ⟨r6, r7, e6, e7, e⟩ := route8 (so := true) hO h6 h7 (F 24) (I 23) (I 24) (I 25) (G 5) (G 6) (G 7) (J 6) x1 x2 x3
  have q6 : f_X6_soonest 50 (I 6) (I 7) (I 8) (I 10) (F 3) (F 4) (F 5) (F 6) (F 7) (F 8) (F 9) (F 24) (I 23) (I 24) (I 25) x1 x2 x3 = some (r6.1, r6.2.1, r6.2.2.1, r6.2.2.2.1, r6.2.2.2.2) := by
    unfold f_X6_soonest
    rw [show (1 : Int32) = bi true from rfl, e6, bnd]
  have q7 : f_X7_soonest 50 (G 2) (G 5) (G 6) (G 7) (J 6) x1 x2 x3 = some (r7.1, r7.2.1, r7.2.2.1, r7.2.2.2.1, r7.2.2.2.2) := by
    unfold f_X7_soonest
    rw [show (1 : Int32) = bi true from rfl, e7, bnd]
  exact ⟨50, _, 50, _, q6, q7, e, T, hO, h6, h7, ha, r⟩
theorem st_cheapest : St_cheapest Sim := by
  intro I F as J G tr x1 x2 x3 h
  obtain ⟨T, hO, h6, h7, ha, r⟩ := h
  obtain ⟨r6, r7, e6, e7, e⟩ := route8 (so := false) hO h6 h7 (F 24) (I 23) (I 24) (I 25) (G 5) (G 6) (G 7) (J 6) x1 x2 x3
  have q6 : f_X6_cheapest 50 (I 6) (I 7) (I 8) (I 10) (F 3) (F 4) (F 5) (F 6) (F 7) (F 8) (F 9) (F 24) (I 23) (I 24) (I 25) x1 x2 x3 = some (r6.1, r6.2.1, r6.2.2.1, r6.2.2.2.1, r6.2.2.2.2) := by
    unfold f_X6_cheapest
    rw [show (0 : Int32) = bi false from rfl, e6, bnd]
  have q7 : f_X7_cheapest 50 (G 2) (G 5) (G 6) (G 7) (J 6) x1 x2 x3 = some (r7.1, r7.2.1, r7.2.2.1, r7.2.2.2.1, r7.2.2.2.2) := by
    unfold f_X7_cheapest
    rw [show (0 : Int32) = bi false from rfl, e7, bnd]
  exact ⟨50, _, 50, _, q6, q7, e, T, hO, h6, h7, ha, r⟩
