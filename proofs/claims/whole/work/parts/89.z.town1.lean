/-! the text: all of it -/
section TOWN
variable {n : Nat} {t : Nat → Nat} {t6 t7 : Nat → Int32} {fu : Nat}
theorem into67 (hT : Txt n t t6 t7) (hf : 201 < fu) {tw nw kt : Nat → Int32} {un fl we wi : Int32} : ∀ (d p i m m' : Nat) (tk6 tA6 va6 be7 tk7 to7 : Int32) (c s g f h ht : Nat) (mk ea eb ln pa fe kn hi bl rd : Nat → Int32), n ≤ p + d → p ≤ n → i ≤ p → d < m → d < m' → RdS c s g f h ht mk ea eb ln pa fe kn hi bl rd →
    (∃ b r6 p7 b7 k7 v7 rd', b ≤ n ∧ f_X2_readInto_L18 fu m t6 (nI n) (nI p) tk6 tA6 va6 (-1) (nI c) (nI s) (nI g) (nI f) (nI h) (nI ht) mk ea eb ln pa fe kn hi bl (nI i) (nI i) = some r6 ∧ r6.1 = -10 - nI b ∧ (f_X7_reads fu t7 (nI n) (nI p) be7 tk7 to7).bind (fun r => f_X7_town_L15 fu m' t7 (nI n) r.1 r.2.1 r.2.2.1 r.2.2.2 rd tw nw un fl we wi kt (nI i)) = some (-10 - nI b, nI n, p7, b7, k7, v7, rd', tw, nw, un, fl, we, wi, kt)) ∨
    (∃ i' p6 k6 a6 v6 c' s' g' f' h' ht' mk' ea' eb' ln' pa' fe' kn' hi' bl' p7 b7 k7 v7 rd', i' ≤ 200 ∧ RdS c' s' g' f' h' ht' mk' ea' eb' ln' pa' fe' kn' hi' bl' rd' ∧ f_X2_readInto_L18 fu m t6 (nI n) (nI p) tk6 tA6 va6 (-1) (nI c) (nI s) (nI g) (nI f) (nI h) (nI ht) mk ea eb ln pa fe kn hi bl (nI i) (nI i) = f_X2_readInto_J69 fu t6 (nI n) p6 k6 a6 v6 (-1) (nI c') (nI s') (nI g') (nI f') (nI h') (nI ht') mk' ea' eb' ln' pa' fe' kn' hi' bl' (nI i') ∧ (f_X7_reads fu t7 (nI n) (nI p) be7 tk7 to7).bind (fun r => f_X7_town_L15 fu m' t7 (nI n) r.1 r.2.1 r.2.2.1 r.2.2.2 rd tw nw un fl we wi kt (nI i)) = (f_X7_takes fu rd' tw nw un fl we wi kt).bind (fun r2 => some (nI i', (0 : Int32), p7, b7, k7, v7, rd', r2.1, r2.2.1, r2.2.2.1, r2.2.2.2.1, r2.2.2.2.2.1, r2.2.2.2.2.2.1, r2.2.2.2.2.2.2))) := by
  have hn := hT.1
  intro d
  induction d with
  | zero =>
    intro p i m m' tk6 tA6 va6 be7 tk7 to7 c s g f h ht mk ea eb ln pa fe kn hi bl rd hd hp hi' hm hm' hS
    obtain ⟨m, rfl⟩ : ∃ j, m = j + 1 := ⟨m - 1, by omega⟩
    obtain ⟨m', rfl⟩ : ∃ j, m' = j + 1 := ⟨m' - 1, by omega⟩
    obtain ⟨b, p6, k6, v6, p7, k7, v7, hb1, hb2, e6, e7, hk⟩ := tok67 hT hp hf tk6 tA6 va6 be7 tk7 to7
    rcases hk with ⟨z1, z2⟩ | ⟨hbn, _⟩
    · refine .inr ⟨i, p6, k6, nI b, v6, c, s, g, f, h, ht, mk, ea, eb, ln, pa, fe, kn, hi, bl, p7, nI b, k7, v7, rd, by omega, hS, ?_, ?_⟩
      · show f_X2_readInto_L18b fu (f_X2_readInto_L18 fu m) t6 (nI n) (nI p) tk6 tA6 va6 (-1) (nI c) (nI s) (nI g) (nI f) (nI h) (nI ht) mk ea eb ln pa fe kn hi bl (nI i) (nI i) = _
        unfold f_X2_readInto_L18b
        rw [show (200 : Int32) = nI 200 from rfl, if_neg (nI_nlt (by omega) (by omega)), e6, bnd, if_pos z1]
      · rw [e7, bnd]
        show f_X7_town_L15b fu (f_X7_town_L15 fu m') t7 (nI n) p7 (nI b) k7 v7 rd tw nw un fl we wi kt (nI i) = _
        unfold f_X7_town_L15b
        rw [if_pos z2]
    · omega
  | succ d ih =>
    intro p i m m' tk6 tA6 va6 be7 tk7 to7 c s g f h ht mk ea eb ln pa fe kn hi bl rd hd hp hi' hm hm' hS
    obtain ⟨m, rfl⟩ : ∃ j, m = j + 1 := ⟨m - 1, by omega⟩
    obtain ⟨m', rfl⟩ : ∃ j, m' = j + 1 := ⟨m' - 1, by omega⟩
    obtain ⟨b, p6, k6, v6, p7, k7, v7, hb1, hb2, e6, e7, hk⟩ := tok67 hT hp hf tk6 tA6 va6 be7 tk7 to7
    rcases hk with ⟨z1, z2⟩ | ⟨hbn, hk⟩
    · refine .inr ⟨i, p6, k6, nI b, v6, c, s, g, f, h, ht, mk, ea, eb, ln, pa, fe, kn, hi, bl, p7, nI b, k7, v7, rd, by omega, hS, ?_, ?_⟩
      · show f_X2_readInto_L18b fu (f_X2_readInto_L18 fu m) t6 (nI n) (nI p) tk6 tA6 va6 (-1) (nI c) (nI s) (nI g) (nI f) (nI h) (nI ht) mk ea eb ln pa fe kn hi bl (nI i) (nI i) = _
        unfold f_X2_readInto_L18b
        rw [show (200 : Int32) = nI 200 from rfl, if_neg (nI_nlt (by omega) (by omega)), e6, bnd, if_pos z1]
      · rw [e7, bnd]
        show f_X7_town_L15b fu (f_X7_town_L15 fu m') t7 (nI n) p7 (nI b) k7 v7 rd tw nw un fl we wi kt (nI i) = _
        unfold f_X7_town_L15b
        rw [if_pos z2]
    · have nz : ¬ k6 = 0 ∧ ¬ k7 = 0 := by
        rcases hk with ⟨q, _, _, _, _, ⟨z1, z2, _⟩ | ⟨z1, z2⟩ | ⟨z1, z2, _⟩⟩ | ⟨z2, z1 | z1⟩
        · rw [z1, z2]
          decide
        · rw [z1, z2]
          decide
        · rw [z1, z2]
          decide
        · rw [z1, z2]
          decide
        · rw [z1.1, z2]
          decide
      have c6 : f_X2_readInto_L18 fu (m + 1) t6 (nI n) (nI p) tk6 tA6 va6 (-1) (nI c) (nI s) (nI g) (nI f) (nI h) (nI ht) mk ea eb ln pa fe kn hi bl (nI i) (nI i) = (f_X2_readItem fu t6 (nI n) p6 k6 (nI b) v6 (-1) (nI c) (nI s) (nI g) (nI f) (nI h) (nI ht) mk ea eb ln pa fe kn hi bl).bind (fun r5 => if r5.2.2.2.2.1 = (-1 : Int32) then (f_X2_readInto_L18 fu m t6 (nI n) r5.1 r5.2.1 r5.2.2.1 r5.2.2.2.1 r5.2.2.2.2.1 r5.2.2.2.2.2.1 r5.2.2.2.2.2.2.1 r5.2.2.2.2.2.2.2.1 r5.2.2.2.2.2.2.2.2.1 r5.2.2.2.2.2.2.2.2.2.1 r5.2.2.2.2.2.2.2.2.2.2.1 r5.2.2.2.2.2.2.2.2.2.2.2.1 r5.2.2.2.2.2.2.2.2.2.2.2.2.1 r5.2.2.2.2.2.2.2.2.2.2.2.2.2.1 r5.2.2.2.2.2.2.2.2.2.2.2.2.2.2.1 r5.2.2.2.2.2.2.2.2.2.2.2.2.2.2.2.1 r5.2.2.2.2.2.2.2.2.2.2.2.2.2.2.2.2.1 r5.2.2.2.2.2.2.2.2.2.2.2.2.2.2.2.2.2.1 r5.2.2.2.2.2.2.2.2.2.2.2.2.2.2.2.2.2.2.1 r5.2.2.2.2.2.2.2.2.2.2.2.2.2.2.2.2.2.2.2 (nI (i + 1)) (nI (i + 1))) else (some ((-10 : Int32) - r5.2.2.2.2.1, r5.1, r5.2.1, r5.2.2.1, r5.2.2.2.1, r5.2.2.2.2.1, r5.2.2.2.2.2.1, r5.2.2.2.2.2.2.1, r5.2.2.2.2.2.2.2.1, r5.2.2.2.2.2.2.2.2.1, r5.2.2.2.2.2.2.2.2.2.1, r5.2.2.2.2.2.2.2.2.2.2.1, r5.2.2.2.2.2.2.2.2.2.2.2.1, r5.2.2.2.2.2.2.2.2.2.2.2.2.1, r5.2.2.2.2.2.2.2.2.2.2.2.2.2.1, r5.2.2.2.2.2.2.2.2.2.2.2.2.2.2.1, r5.2.2.2.2.2.2.2.2.2.2.2.2.2.2.2.1, r5.2.2.2.2.2.2.2.2.2.2.2.2.2.2.2.2.1, r5.2.2.2.2.2.2.2.2.2.2.2.2.2.2.2.2.2.1, r5.2.2.2.2.2.2.2.2.2.2.2.2.2.2.2.2.2.2.1, r5.2.2.2.2.2.2.2.2.2.2.2.2.2.2.2.2.2.2.2))) := by
        show f_X2_readInto_L18b fu (f_X2_readInto_L18 fu m) t6 (nI n) (nI p) tk6 tA6 va6 (-1) (nI c) (nI s) (nI g) (nI f) (nI h) (nI ht) mk ea eb ln pa fe kn hi bl (nI i) (nI i) = _
        unfold f_X2_readInto_L18b
        rw [show (200 : Int32) = nI 200 from rfl, if_neg (nI_nlt (by omega) (by omega)), e6, bnd, if_neg nz.1, show nI i + 1 = nI (i + 1) from nI_add i 1]
      have c7 : (f_X7_reads fu t7 (nI n) (nI p) be7 tk7 to7).bind (fun r => f_X7_town_L15 fu (m' + 1) t7 (nI n) r.1 r.2.1 r.2.2.1 r.2.2.2 rd tw nw un fl we wi kt (nI i)) = (f_X7_readItem fu t7 (nI n) p7 (nI b) k7 v7 rd).bind (fun r3 => if r3.1 = (0 : Int32) then (some ((-10 : Int32) - r3.2.2.1, nI n, r3.2.1, r3.2.2.1, r3.2.2.2.1, r3.2.2.2.2.1, r3.2.2.2.2.2, tw, nw, un, fl, we, wi, kt)) else ((f_X7_reads fu t7 (nI n) r3.2.1 r3.2.2.1 r3.2.2.2.1 r3.2.2.2.2.1).bind (fun r5 => f_X7_town_L15 fu m' t7 (nI n) r5.1 r5.2.1 r5.2.2.1 r5.2.2.2 r3.2.2.2.2.2 tw nw un fl we wi kt (nI (i + 1))))) := by
        rw [e7, bnd]
        show f_X7_town_L15b fu (f_X7_town_L15 fu m') t7 (nI n) p7 (nI b) k7 v7 rd tw nw un fl we wi kt (nI i) = _
        unfold f_X7_town_L15b
        rw [if_neg nz.2, show nI i + 1 = nI (i + 1) from nI_add i 1]
      rcases item67 hT hf hbn hk hS with ⟨b', r6, p7', k', v', rd', w1, w2, w3, w4⟩ | ⟨q, k', a', v', c', s', g', f', h', ht', mk', ea', eb', ln', pa', fe', kn', hi'', bl', b7, k7', v7', rd', w0, w1, w2, w3, w4⟩
      · rw [w2, bnd, w3, if_neg (neg1 (by omega))] at c6
        rw [w4, bnd, if_pos rfl] at c7
        exact .inl ⟨b', _, _, _, _, _, _, w1, c6, rfl, c7⟩
      · rw [w2, bnd, if_pos rfl] at c6
        rw [w3, bnd, if_neg (show ¬ (1 : Int32) = 0 by decide)] at c7
        rcases ih q (i + 1) m m' k' a' v' b7 k7' v7' c' s' g' f' h' ht' mk' ea' eb' ln' pa' fe' kn' hi'' bl' rd' (by omega) w1 (by omega) (by omega) (by omega) w4 with ⟨b2, x1, x2, x3, x4, x5, x6, y1, y2, y3, y4⟩ | ⟨i2, x1, x2, x3, x4, x5, x6, x7, x8, x9, x10, x11, x12, x13, x14, x15, x16, x17, x18, x19, x20, x21, x22, x23, x24, y1, y2, y3, y4⟩
        · exact .inl ⟨b2, _, _, _, _, _, _, y1, c6.trans y2, y3, c7.trans y4⟩
        · exact .inr ⟨i2, _, _, _, _, _, _, _, _, _, _, _, _, _, _, _, _, _, _, _, _, _, _, _, _, y1, y2, c6.trans y3, c7.trans y4⟩
end TOWN
/-- what isn't there is dropped -/
theorem drop6 {fu c s g : Nat} (hf : 10 ≤ fu) (hg : g ≤ 4) (kn hi : Nat → Int32) : ∃ kn' hi', f_X4_dropWhatIsNotThere fu (nI c) (nI s) (nI g) kn hi = some (kn', hi') ∧ ∀ k, k < g → kn' k = kn k &&& (((1 : Int32) <<< (nI s &&& 31)) - (1 : Int32)) ∧ hi' k = hi k &&& (((1 : Int32) <<< (nI c &&& 31)) - (1 : Int32)) := by
  obtain ⟨st, e, hI⟩ := rel_loop (σ := (Nat → Int32) × (Nat → Int32)) (fun m st x => f_X4_dropWhatIsNotThere_L2 fu m (nI c) (nI s) (nI g) st.1 st.2 x) (fun st => some st) (fun x st => (∀ k, k < x → st.1 k = kn k &&& (((1 : Int32) <<< (nI s &&& 31)) - (1 : Int32)) ∧ st.2 k = hi k &&& (((1 : Int32) <<< (nI c &&& 31)) - (1 : Int32))) ∧ ∀ k, x ≤ k → st.1 k = kn k ∧ st.2 k = hi k) g (by
    intro m x st hx hI
    obtain ⟨K, H⟩ := st
    obtain ⟨h1, h2⟩ := hI
    obtain ⟨a1, a2⟩ := h2 x (Nat.le_refl _)
    have a1 : K x = kn x := a1
    have a2 : H x = hi x := a2
    have q4 : ∀ {α : Type} (X : Option α), xb (nI x) 4 X = X := fun X => xb_nI X (by omega) (by decide)
    refine ⟨(upd K x (kn x &&& (((1 : Int32) <<< (nI s &&& 31)) - (1 : Int32))), upd H x (hi x &&& (((1 : Int32) <<< (nI c &&& 31)) - (1 : Int32)))), ?_, fun k hk => ?_, fun k hk => ?_⟩
    · show f_X4_dropWhatIsNotThere_L2b fu (f_X4_dropWhatIsNotThere_L2 fu m) (nI c) (nI s) (nI g) K H (nI x) = _
      unfold f_X4_dropWhatIsNotThere_L2b
      rw [if_neg (nI_ge (by omega) (by omega))]
      simp only [q4, cl x (show x < 2 ^ 31 by omega), a1, a2, show nI x + 1 = nI (x + 1) from nI_add x 1]
    · by_cases e : k = x
      · subst e
        exact ⟨upd_eq, upd_eq⟩
      · obtain ⟨b1, b2⟩ := h1 k (by omega)
        exact ⟨(upd_ne e).trans b1, (upd_ne e).trans b2⟩
    · obtain ⟨b1, b2⟩ := h2 k (by omega)
      exact ⟨(upd_ne (by omega)).trans b1, (upd_ne (by omega)).trans b2⟩) (by
    intro m st hI
    show f_X4_dropWhatIsNotThere_L2b fu (f_X4_dropWhatIsNotThere_L2 fu m) (nI c) (nI s) (nI g) st.1 st.2 (nI g) = _
    unfold f_X4_dropWhatIsNotThere_L2b
    rw [if_pos (nI_le (Nat.le_refl _) (by omega))]) g 0 fu (kn, hi) (by omega) (by omega) ⟨fun k hk => by omega, fun k hk => ⟨rfl, rfl⟩⟩
  exact ⟨st.1, st.2, e, hI.1⟩
/-- the town that was read -/
def mkT (c s g f h : Nat) (mk ea eb ln pa fe kn hi bl : Nat → Int32) : Nat → Nat → Nat := fun i k => match i with
  | 0 => (match k with
    | 0 => c
    | 1 => s
    | 2 => g
    | 3 => f
    | _ => h)
  | 1 => (mk k).toNatClampNeg
  | 2 => (ea k).toNatClampNeg
  | 3 => (eb k).toNatClampNeg
  | 4 => (ln k).toNatClampNeg
  | 5 => (pa k).toNatClampNeg
  | 6 => (fe k).toNatClampNeg
  | 7 => (kn k).toNatClampNeg
  | 8 => (hi k).toNatClampNeg
  | _ => (bl k).toNatClampNeg
theorem rd_town {c s g f h ht : Nat} {mk ea eb ln pa fe kn hi bl kn' hi' rd tw : Nat → Int32} (hS : RdS c s g f h ht mk ea eb ln pa fe kn hi bl rd) (hd : ∀ k, k < g → kn' k = kn k &&& (((1 : Int32) <<< (nI s &&& 31)) - (1 : Int32)) ∧ hi' k = hi k &&& (((1 : Int32) <<< (nI c &&& 31)) - (1 : Int32))) (ht : ∀ j, j < 64 → tw j = rd j) : TOk (mkT c s g f h mk ea eb ln pa fe kn' hi' bl) ∧ TwA (mkT c s g f h mk ea eb ln pa fe kn' hi' bl) (nI c) (nI s) (nI g) (nI f) (nI h) mk ea eb ln pa fe kn' hi' bl ∧ TwB (mkT c s g f h mk ea eb ln pa fe kn' hi' bl) tw := by
  obtain ⟨⟨o1, o2, o3, o4, o5, o6⟩, ⟨r0, r1, r2, r3, r4, r5⟩, hm, hs, hg, hb⟩ := hS
  have hg' : ∀ k, k < g → ∃ p q u v, p ≤ 5 ∧ q ≤ 9 ∧ u < 512 ∧ v < 128 ∧ pa k = nI p ∧ fe k = nI q ∧ kn' k = nI (u % 2 ^ s) ∧ hi' k = nI (v % 2 ^ c) ∧ rd (40 + 4 * k) = nI p ∧ rd (41 + 4 * k) = nI q ∧ rd (42 + 4 * k) = nI u ∧ rd (43 + 4 * k) = nI v := by
    intro k hk
    obtain ⟨a1, a2, a3, a4, z1, z2, z3, z4, z5, z6, z7, z8, z9, z10, z11, z12⟩ := hg k hk
    obtain ⟨d1, d2⟩ := hd k hk
    rw [z7, maskE (by omega) (by omega)] at d1
    rw [z8, maskE (by omega) (by omega)] at d2
    exact ⟨a1, a2, a3, a4, z1, z2, z3, z4, z5, z6, d1, d2, z9, z10, z11, z12⟩
  have p9 : 2 ^ s ≤ 2 ^ 9 := Nat.pow_le_pow_right (by decide) o2
  have p7 : 2 ^ c ≤ 2 ^ 7 := Nat.pow_le_pow_right (by decide) o1
  have q9 : 0 < 2 ^ s := Nat.two_pow_pos s
  have q7 : 0 < 2 ^ c := Nat.two_pow_pos c
  have mu : ∀ u, u % 2 ^ s < 2 ^ s := fun u => Nat.mod_lt u q9
  have mv : ∀ v, v % 2 ^ c < 2 ^ c := fun v => Nat.mod_lt v q7
  refine ⟨⟨o1, o2, o3, o4, o5, fun k hk => ?_, fun k hk => ?_, fun k hk => ?_, fun k hk => ?_⟩, ⟨rfl, rfl, rfl, rfl, rfl, fun k hk => ?_, fun k hk => ?_, fun k hk => ?_, fun k hk => ?_⟩, ⟨(ht 0 (by decide)).trans r0, (ht 1 (by decide)).trans r1, (ht 2 (by decide)).trans r2, (ht 3 (by decide)).trans r3, (ht 4 (by decide)).trans r4, fun k hk => ?_, fun k hk => ?_, fun k hk => ?_, fun k hk => ?_⟩⟩
  · obtain ⟨m, m1, m2, m3⟩ := hm k hk
    show (mk k).toNatClampNeg < 4
    rw [m2, cl m (by omega)]
    exact m1
  · obtain ⟨x, y, l, z1, z2, z3, z4, z5, z6, z7, z8, z9, z10, z11⟩ := hs k hk
    show (ea k).toNatClampNeg < c ∧ (eb k).toNatClampNeg < c ∧ (ea k).toNatClampNeg ≠ (eb k).toNatClampNeg ∧ 1 ≤ (ln k).toNatClampNeg ∧ (ln k).toNatClampNeg ≤ 9
    rw [z6, z7, z8, cl x (by omega), cl y (by omega), cl l (by omega)]
    exact ⟨z1, z2, z3, z4, z5⟩
  · obtain ⟨a1, a2, a3, a4, z1, z2, z3, z4, z5, z6, z7, z8, z9, z10, z11, z12⟩ := hg' k hk
    have b1 := mu a3
    have b2 := mv a4
    show (pa k).toNatClampNeg ≤ 5 ∧ (fe k).toNatClampNeg ≤ 9 ∧ (kn' k).toNatClampNeg < 2 ^ s ∧ (hi' k).toNatClampNeg < 2 ^ c
    rw [z5, z6, z7, z8, cl a1 (by omega), cl a2 (by omega), cl (a3 % 2 ^ s) (by omega), cl (a4 % 2 ^ c) (by omega)]
    exact ⟨z1, z2, b1, b2⟩
  · obtain ⟨m, m1, m2, m3⟩ := hb k hk
    show (bl k).toNatClampNeg < 2
    rw [m2, cl m (by omega)]
    exact m1
  · obtain ⟨m, m1, m2, m3⟩ := hm k hk
    show mk k = nI (mk k).toNatClampNeg
    rw [m2, cl m (by omega)]
  · obtain ⟨x, y, l, z1, z2, z3, z4, z5, z6, z7, z8, z9, z10, z11⟩ := hs k hk
    show ea k = nI (ea k).toNatClampNeg ∧ eb k = nI (eb k).toNatClampNeg ∧ ln k = nI (ln k).toNatClampNeg
    rw [z6, z7, z8, cl x (by omega), cl y (by omega), cl l (by omega)]
    exact ⟨rfl, rfl, rfl⟩
  · obtain ⟨a1, a2, a3, a4, z1, z2, z3, z4, z5, z6, z7, z8, z9, z10, z11, z12⟩ := hg' k hk
    have b1 := mu a3
    have b2 := mv a4
    show pa k = nI (pa k).toNatClampNeg ∧ fe k = nI (fe k).toNatClampNeg ∧ kn' k = nI (kn' k).toNatClampNeg ∧ hi' k = nI (hi' k).toNatClampNeg
    rw [z5, z6, z7, z8, cl a1 (by omega), cl a2 (by omega), cl (a3 % 2 ^ s) (by omega), cl (a4 % 2 ^ c) (by omega)]
    exact ⟨rfl, rfl, rfl, rfl⟩
  · obtain ⟨m, m1, m2, m3⟩ := hb k hk
    show bl k = nI (bl k).toNatClampNeg
    rw [m2, cl m (by omega)]
  · have hk : k < c := hk
    obtain ⟨m, m1, m2, m3⟩ := hm k hk
    show tw (6 + k) = nI (mk k).toNatClampNeg
    rw [ht (6 + k) (by omega), m2, m3, cl m (by omega)]
  · have hk : k < s := hk
    obtain ⟨x, y, l, z1, z2, z3, z4, z5, z6, z7, z8, z9, z10, z11⟩ := hs k hk
    show tw (13 + 3 * k) = nI (ea k).toNatClampNeg ∧ tw (14 + 3 * k) = nI (eb k).toNatClampNeg ∧ tw (15 + 3 * k) = nI (ln k).toNatClampNeg
    rw [ht (13 + 3 * k) (by omega), ht (14 + 3 * k) (by omega), ht (15 + 3 * k) (by omega), z6, z7, z8, z9, z10, z11, cl x (by omega), cl y (by omega), cl l (by omega)]
    exact ⟨rfl, rfl, rfl⟩
  · have hk : k < g := hk
    obtain ⟨a1, a2, a3, a4, z1, z2, z3, z4, z5, z6, z7, z8, z9, z10, z11, z12⟩ := hg' k hk
    have b1 := mu a3
    have b2 := mv a4
    refine ⟨?_, ?_, ⟨a3, z3, ?_, ?_⟩, ⟨a4, z4, ?_, ?_⟩⟩
    · show tw (40 + 4 * k) = nI (pa k).toNatClampNeg
      rw [ht (40 + 4 * k) (by omega), z5, z9, cl a1 (by omega)]
    · show tw (41 + 4 * k) = nI (fe k).toNatClampNeg
      rw [ht (41 + 4 * k) (by omega), z6, z10, cl a2 (by omega)]
    · rw [ht (42 + 4 * k) (by omega), z11]
    · show a3 % 2 ^ s = (kn' k).toNatClampNeg
      rw [z7, cl (a3 % 2 ^ s) (by omega)]
    · rw [ht (43 + 4 * k) (by omega), z12]
    · show a4 % 2 ^ c = (hi' k).toNatClampNeg
      rw [z8, cl (a4 % 2 ^ c) (by omega)]
  · have hk : k < f := hk
    obtain ⟨m, m1, m2, m3⟩ := hb k hk
    show tw (56 + k) = nI (bl k).toNatClampNeg
    rw [ht (56 + k) (by omega), m2, m3, cl m (by omega)]
