/-! soonest, cheapest: what the class answers -/
/-- the labels at the start: the goal's nodes -/
def L0c (b : Nat) : Nat → Option Nat := fun v => if v < 28 ∧ v / 4 = b then some 0 else none
section ROUTE6
variable {T : Nat → Nat → Nat} {nc ns ng nb hd : Int32} {mk ea eb ln pa fe kn hi bl tw : Nat → Int32} {L0 : Nat → Option Nat}
theorem find0_6 {fu a b : Nat} {x2 : Int32} {so : Int32} {a1 a2 a3 : Int32} (hf : 30 ≤ fu) (hb : b < 7) (A : Nat → Int32) : ∃ A', f_X0_find fu A a1 a2 a3 nc ns ng hd ea eb ln pa fe kn hi x2 (nI b) so = f_X0_find_L43 fu fu A' a1 a2 a3 nc ns ng hd ea eb ln pa fe kn hi x2 so 1 0 ∧ Rep6 (L0c b) A' := by
  have h := fold_loop (fun q (A : Nat → Int32) x => f_X0_find_L3 fu q A a1 a2 a3 nc ns ng hd ea eb ln pa fe kn hi x2 (nI b) so x) (fun A => f_X0_find_L43 fu fu A a1 a2 a3 nc ns ng hd ea eb ln pa fe kn hi x2 so 1 0) (fun x A => upd A x (if x / 4 = b then 0 else nI 1000000000)) (fun x A => ∀ j, j < x → A j = if j / 4 = b then 0 else nI 1000000000) 28 (by
    intro q x A hx hP
    refine ⟨?_, fun j hj => ?_⟩
    · show f_X0_find_L3b fu (f_X0_find_L3 fu q) A a1 a2 a3 nc ns ng hd ea eb ln pa fe kn hi x2 (nI b) so (nI x) = _
      unfold f_X0_find_L3b
      rw [if_neg (by rw [show (28 : Int32) = nI 28 from rfl]; exact nI_ge (by omega) (by omega)), xb_nI _ hx (by decide), xb_nI _ hx (by decide), cl x (by omega), show nI x + 1 = nI (x + 1) from nI_add x 1, show (4 : Int32) = nI 4 from rfl, pk_div (by omega) (by decide) (by decide), eqE (by omega) (by omega)]
      by_cases e : x / 4 = b
      · rw [if_pos e, if_pos e]
      · rw [if_neg e, if_neg e]
        rfl
    · unfold upd
      by_cases e : j = x
      · rw [if_pos e, e]
      · rw [if_neg e]
        exact hP j (by omega)) (by
    intro q A hP
    show f_X0_find_L3b fu (f_X0_find_L3 fu q) A a1 a2 a3 nc ns ng hd ea eb ln pa fe kn hi x2 (nI b) so (nI 28) = _
    unfold f_X0_find_L3b
    rw [if_pos (by decide)]) 28 0 fu A (by omega) (by omega) (fun j hj => by omega)
  refine ⟨_, h.1, fun v hv => ?_⟩
  have e := h.2 v hv
  unfold L0c
  by_cases q : v / 4 = b
  · rw [if_pos q] at e
    exact .inr ⟨0, if_pos ⟨hv, q⟩, e, by omega⟩
  · rw [if_neg q] at e
    exact .inl ⟨if_neg (fun r => q r.2), e⟩
/-- the least cost from a corner, and the least guide with it -/
def Best6 (T : Nat → Nat → Nat) (L : Nat → Option Nat) (a n g c : Nat) : Prop := g < n ∧ (T 8 g).testBit a = true ∧ L (a * 4 + g) = some c ∧ ∀ g' c', g' < n → (T 8 g').testBit a = true → L (a * 4 + g') = some c' → c < c' ∨ (c = c' ∧ g ≤ g')
def None6 (T : Nat → Nat → Nat) (L : Nat → Option Nat) (a n : Nat) : Prop := ∀ g', g' < n → (T 8 g').testBit a = true → L (a * 4 + g') = none
theorem choose6 (hO : TOk T) (h6 : TwA T nc ns ng nb hd mk ea eb ln pa fe kn hi bl) {fu a : Nat} {so : Bool} {a1 a2 a3 : Int32} (hf : 10 ≤ fu) (ha : a < T 0 0) {A : Nat → Int32} {L : Nat → Option Nat} (hR : Rep6 L A) : (None6 T L a (T 0 2) ∧ f_X0_chooseFirst fu A a1 a2 a3 nc ng hi (nI a) (bi so) = some (-9, -9, -9)) ∨ ∃ g c, Best6 T L a (T 0 2) g c ∧ f_X0_chooseFirst fu A a1 a2 a3 nc ng hi (nI a) (bi so) = some (nI (fo so (c / 10000) (c % 10000)), nI (fo so (c % 10000) (c / 10000)), nI g) := by
  have o1 := hO.1
  have o3 := hO.2.2.1
  have hcn := cn_le L 28
  have key := loop_ex (σ := Int32 × Int32) (fun n s x => f_X0_chooseFirst_L13 fu n A a1 a2 s.1 nc ng hi (nI a) (bi so) s.2 x) (fun s => f_X0_chooseFirst_L13 fu 1 A a1 a2 s.1 nc ng hi (nI a) (bi so) s.2 (nI (T 0 2))) (fun x s => (None6 T L a x ∧ s = (-9, nI 1000000000)) ∨ ∃ g c, Best6 T L a x g c ∧ s = (nI g, nI c)) (fun _ _ _ => True) (T 0 2) (fun _ => trivial) (by
    intro n x s hx hI
    obtain ⟨f, l⟩ := s
    have q28 : ∀ {α : Type} (X : Option α), xb (nI (a * 4 + x)) 28 X = X := fun X => xb_nI X (by omega) (by decide)
    have e0 : f_X0_chooseFirst_L13 fu (n + 1) A a1 a2 f nc ng hi (nI a) (bi so) l (nI x) = if (T 8 x).testBit a then (if l ≤ A (a * 4 + x) then f_X0_chooseFirst_L13 fu n A a1 a2 f nc ng hi (nI a) (bi so) l (nI (x + 1)) else f_X0_chooseFirst_L13 fu n A a1 a2 (nI x) nc ng hi (nI a) (bi so) (A (a * 4 + x)) (nI (x + 1))) else f_X0_chooseFirst_L13 fu n A a1 a2 f nc ng hi (nI a) (bi so) l (nI (x + 1)) := by
      show f_X0_chooseFirst_L13b fu (f_X0_chooseFirst_L13 fu n) A a1 a2 f nc ng hi (nI a) (bi so) l (nI x) = _
      unfold f_X0_chooseFirst_L13b
      rw [if_neg (by rw [h6.2.2.1]; exact nI_ge (by omega) (by omega)), his6 hO h6 hx ha, show nI x + 1 = nI (x + 1) from nI_add x 1, show nI a * 4 + nI x = nI (a * 4 + x) from by rw [show (4 : Int32) = nI 4 from rfl, pk_mul, nI_add], q28, cl (a * 4 + x) (by omega)]
      simp only [bnd, b01i]
    have hRx := hR (a * 4 + x) (by omega)
    by_cases c : (T 8 x).testBit a = true
    · rw [if_pos c] at e0
      rcases hRx with ⟨r1, r2⟩ | ⟨d, r1, r2, r3⟩
      · have hle : l ≤ A (a * 4 + x) := by
          rw [r2]
          rcases hI with ⟨_, e⟩ | ⟨g, c', hb, e⟩
          · cases e
            exact nI_le (Nat.le_refl _) (by decide)
          · cases e
            rcases hR (a * 4 + g) (by have := hb.1; omega) with ⟨w1, _⟩ | ⟨w, w1, _, w3⟩
            · rw [hb.2.2.1] at w1
              cases w1
            · rw [hb.2.2.1] at w1
              cases w1
              exact nI_le (by omega) (by decide)
        rw [if_pos hle] at e0
        refine ⟨(f, l), e0, ?_, fun _ _ => trivial⟩
        rcases hI with ⟨h1, e⟩ | ⟨g, c', hb, e⟩
        · refine .inl ⟨fun g' hg' hh => ?_, e⟩
          by_cases q : g' = x
          · subst q
            exact r1
          · exact h1 g' (by omega) hh
        · refine .inr ⟨g, c', ⟨by have := hb.1; omega, hb.2.1, hb.2.2.1, fun g' d' hg' hh hd => ?_⟩, e⟩
          by_cases q : g' = x
          · subst q
            rw [r1] at hd
            cases hd
          · exact hb.2.2.2 g' d' (by omega) hh hd
      · rw [r2] at e0
        rcases hI with ⟨h1, e⟩ | ⟨g, c', hb, e⟩
        · cases e
          rw [if_neg (nI_ge (by omega) (by decide))] at e0
          refine ⟨(nI x, nI d), e0, .inr ⟨x, d, ⟨by omega, c, r1, fun g' d' hg' hh hd => ?_⟩, rfl⟩, fun _ _ => trivial⟩
          by_cases q : g' = x
          · subst q
            rw [r1] at hd
            cases hd
            exact .inr ⟨rfl, Nat.le_refl _⟩
          · rw [h1 g' (by omega) hh] at hd
            cases hd
        · cases e
          have hc' : c' ≤ 1260126 * cn L 28 := by
            rcases hR (a * 4 + g) (by have := hb.1; omega) with ⟨w1, _⟩ | ⟨w, w1, _, w3⟩
            · rw [hb.2.2.1] at w1
              cases w1
            · rw [hb.2.2.1] at w1
              cases w1
              exact w3
          by_cases q1 : c' ≤ d
          · rw [if_pos (nI_le q1 (by omega))] at e0
            refine ⟨(nI g, nI c'), e0, .inr ⟨g, c', ⟨by have := hb.1; omega, hb.2.1, hb.2.2.1, fun g' d' hg' hh hd => ?_⟩, rfl⟩, fun _ _ => trivial⟩
            by_cases q : g' = x
            · subst q
              rw [r1] at hd
              cases hd
              have := hb.1
              omega
            · exact hb.2.2.2 g' d' (by omega) hh hd
          · rw [if_neg (nI_ge (by omega) (by omega))] at e0
            refine ⟨(nI x, nI d), e0, .inr ⟨x, d, ⟨by omega, c, r1, fun g' d' hg' hh hd => ?_⟩, rfl⟩, fun _ _ => trivial⟩
            by_cases q : g' = x
            · subst q
              rw [r1] at hd
              cases hd
              exact .inr ⟨rfl, Nat.le_refl _⟩
            · have := hb.2.2.2 g' d' (by omega) hh hd
              omega
    · rw [if_neg c] at e0
      refine ⟨(f, l), e0, ?_, fun _ _ => trivial⟩
      rcases hI with ⟨h1, e⟩ | ⟨g, c', hb, e⟩
      · refine .inl ⟨fun g' hg' hh => ?_, e⟩
        by_cases q : g' = x
        · subst q
          exact absurd hh c
        · exact h1 g' (by omega) hh
      · refine .inr ⟨g, c', ⟨by have := hb.1; omega, hb.2.1, hb.2.2.1, fun g' d' hg' hh hd => ?_⟩, e⟩
        by_cases q : g' = x
        · subst q
          exact absurd hh c
        · exact hb.2.2.2 g' d' (by omega) hh hd) (by
    intro n s _
    show f_X0_chooseFirst_L13b fu (f_X0_chooseFirst_L13 fu n) A a1 a2 s.1 nc ng hi (nI a) (bi so) s.2 (nI (T 0 2)) = f_X0_chooseFirst_L13b fu (f_X0_chooseFirst_L13 fu 0) A a1 a2 s.1 nc ng hi (nI a) (bi so) s.2 (nI (T 0 2))
    have hle : ng ≤ nI (T 0 2) := by rw [h6.2.2.1]; exact nI_le (Nat.le_refl _) (by omega)
    unfold f_X0_chooseFirst_L13b
    simp only [if_pos hle]) (T 0 2) 0 fu (-9, nI 1000000000) (by omega) (by omega) (.inl ⟨fun g' hg' => by omega, rfl⟩)
  obtain ⟨s, e1, hI, _⟩ := key
  have e2 : f_X0_chooseFirst fu A a1 a2 a3 nc ng hi (nI a) (bi so) = f_X0_chooseFirst_L13b fu (f_X0_chooseFirst_L13 fu 0) A a1 a2 s.1 nc ng hi (nI a) (bi so) s.2 (nI (T 0 2)) := e1
  unfold f_X0_chooseFirst_L13b f_X0_chooseFirst_J110 at e2
  rw [if_pos (by rw [h6.2.2.1]; exact nI_le (Nat.le_refl _) (by omega))] at e2
  rcases hI with ⟨h1, e⟩ | ⟨g, c, hb, e⟩
  · subst e
    refine .inl ⟨h1, e2.trans ?_⟩
    rw [if_pos rfl, if_pos rfl]
  · subst e
    refine .inr ⟨g, c, hb, e2.trans ?_⟩
    have hc' : c ≤ 1260126 * cn L 28 := by
      rcases hR (a * 4 + g) (by have := hb.1; omega) with ⟨w1, _⟩ | ⟨w, w1, _, w3⟩
      · rw [hb.2.2.1] at w1
        cases w1
      · rw [hb.2.2.1] at w1
        cases w1
        exact w3
    have hg := hb.1
    have n9 : ¬ nI g = -9 := neg9 (by omega)
    simp only [if_neg n9]
    rw [show (10000 : Int32) = nI 10000 from rfl, pk_rem (by omega) (by decide) (by decide), pk_div (by omega) (by decide) (by decide)]
    cases so
    · rfl
    · rfl
/-- what the class finds -/
theorem find6 (hO : TOk T) (h6 : TwA T nc ns ng nb hd mk ea eb ln pa fe kn hi bl) {a b : Nat} {so : Bool} {a1 a2 a3 : Int32} (ha : a < T 0 0) (hb : b < T 0 0) (A : Nat → Int32) : ∃ A' L, Snd (RE T so) 10000 1 (L0c b) L ∧ Cmp (RE T so) 10000 1 (L0c b) L ∧ ((None6 T L a (T 0 2) ∧ f_X0_find 50 A a1 a2 a3 nc ns ng hd ea eb ln pa fe kn hi (nI a) (nI b) (bi so) = some (A', -9, -9, -9)) ∨ ∃ g c, Best6 T L a (T 0 2) g c ∧ f_X0_find 50 A a1 a2 a3 nc ns ng hd ea eb ln pa fe kn hi (nI a) (nI b) (bi so) = some (A', nI (fo so (c / 10000) (c % 10000)), nI (fo so (c % 10000) (c / 10000)), nI g)) := by
  have o1 := hO.1
  obtain ⟨A1, e1, R1⟩ := find0_6 (nc := nc) (ns := ns) (ng := ng) (hd := hd) (ea := ea) (eb := eb) (ln := ln) (pa := pa) (fe := fe) (kn := kn) (hi := hi) (fu := 50) (a := a) (b := b) (x2 := nI a) (so := bi so) (a1 := a1) (a2 := a2) (a3 := a3) (by decide) (by omega) A
  obtain ⟨A2, L, e2, R2, hS, hC⟩ := rounds6 (L0 := L0c b) (fu := 50) (so := so) (a1 := a1) (a2 := a2) (a3 := a3) (x2 := nI a) hO h6 (by decide) 28 0 50 A1 (L0c b) 1 (by decide) (by decide) R1 snd_0 (upt_0 (fun u s h => ⟨s, h, Nat.le_refl _⟩)) (fun h => absurd h (by decide))
  have e3 := e1.trans e2
  unfold f_X0_find_J112 at e3
  refine ⟨A2, L, hS, hC, ?_⟩
  rcases choose6 (fu := 50) (so := so) (a1 := a1) (a2 := a2) (a3 := a3) hO h6 (by decide) ha R2 with ⟨h1, q⟩ | ⟨g, c, h1, q⟩
  · rw [q, bnd] at e3
    exact .inl ⟨h1, e3⟩
  · rw [q, bnd] at e3
    exact .inr ⟨g, c, h1, e3⟩
end ROUTE6
