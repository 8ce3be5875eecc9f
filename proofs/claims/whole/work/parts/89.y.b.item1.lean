/-! the text: its items -/
theorem neg1 {b : Nat} (h : b < 2 ^ 31) : ¬ nI b = -1 := by
  intro e
  have q := congrArg Int32.toInt e
  rw [nI_toInt h, show ((-1 : Int32)).toInt = -1 from rfl] at q
  omega
theorem upd_ne {f : Nat → Int32} {i j : Nat} {v : Int32} (h : j ≠ i) : upd f i v j = f j := if_neg h
theorem upd_eq {f : Nat → Int32} {i : Nat} {v : Int32} : upd f i v i = v := if_pos rfl
/-- what was read so far, on both sides -/
def RdS (c s g f h ht : Nat) (mk ea eb ln pa fe kn hi bl rd : Nat → Int32) : Prop :=
  (c ≤ 7 ∧ s ≤ 9 ∧ g ≤ 4 ∧ f ≤ 8 ∧ h ≤ 9 ∧ ht ≤ 1) ∧ (rd 0 = nI c ∧ rd 1 = nI s ∧ rd 2 = nI g ∧ rd 3 = nI h ∧ rd 4 = nI f ∧ rd 5 = nI ht) ∧
  (∀ k, k < c → ∃ m, m < 4 ∧ mk k = nI m ∧ rd (6 + k) = nI m) ∧
  (∀ k, k < s → ∃ x y l, x < c ∧ y < c ∧ x ≠ y ∧ 1 ≤ l ∧ l ≤ 9 ∧ ea k = nI x ∧ eb k = nI y ∧ ln k = nI l ∧ rd (13 + 3 * k) = nI x ∧ rd (14 + 3 * k) = nI y ∧ rd (15 + 3 * k) = nI l) ∧
  (∀ k, k < g → ∃ p q u v, p ≤ 5 ∧ q ≤ 9 ∧ u < 512 ∧ v < 128 ∧ pa k = nI p ∧ fe k = nI q ∧ kn k = nI u ∧ hi k = nI v ∧ rd (40 + 4 * k) = nI p ∧ rd (41 + 4 * k) = nI q ∧ rd (42 + 4 * k) = nI u ∧ rd (43 + 4 * k) = nI v) ∧
  ∀ k, k < f → ∃ m, m < 2 ∧ bl k = nI m ∧ rd (56 + k) = nI m
section ITEMS
variable {n : Nat} {t : Nat → Nat} {t6 t7 : Nat → Int32} {fu : Nat} {c s g f h ht : Nat} {mk ea eb ln pa fe kn hi bl rd : Nat → Int32}
theorem rn_f {L pl tk tA va lo hi' : Int32} {b : Nat} (h : b < 2 ^ 31) : f_X2_readNumber fu t6 L pl tk tA va (nI b) lo hi' = some (0, pl, tk, tA, va, nI b) := by
  unfold f_X2_readNumber
  rw [if_neg (neg1 h)]
theorem rs_f {L pl tk tA va : Int32} {b : Nat} (h : b < 2 ^ 31) : f_X2_readStop fu t6 L pl tk tA va (nI b) = some (pl, tk, tA, va, nI b) := by
  unfold f_X2_readStop
  rw [if_neg (neg1 h)]
theorem rf_f {tA : Int32} {b : Nat} (h : b < 2 ^ 31) : f_X2_refuseToken tA (nI b) = some (nI b) := by
  unfold f_X2_refuseToken
  rw [if_neg (neg1 h)]
theorem rf_t {tA : Int32} : f_X2_refuseToken tA (-1) = some tA := by
  unfold f_X2_refuseToken
  rw [if_pos rfl]
theorem num67 (hT : Txt n t t6 t7) {p : Nat} (hp : p ≤ n) (hf : 201 < fu) (tk6 tA6 va6 be7 tk7 to7 lo hi' : Int32) : ∃ b, b ≤ n ∧ ((∃ (v q : Nat), v ≤ 99 ∧ lo.toInt ≤ (v : Int) ∧ (v : Int) ≤ hi'.toInt ∧ p < q ∧ q ≤ n ∧ f_X2_readNumber fu t6 (nI n) (nI p) tk6 tA6 va6 (-1) lo hi' = some (nI v, nI q, 2, nI b, nI v, -1) ∧ f_X7_number fu t7 (nI n) (nI p) be7 tk7 to7 lo hi' = some (1, nI q, nI b, 2, nI v)) ∨ (∃ p6 k6 v6 p7 k7 v7, f_X2_readNumber fu t6 (nI n) (nI p) tk6 tA6 va6 (-1) lo hi' = some (0, p6, k6, nI b, v6, nI b) ∧ f_X7_number fu t7 (nI n) (nI p) be7 tk7 to7 lo hi' = some (0, p7, nI b, k7, v7))) := by
  obtain ⟨b, p6, k6, v6, p7, k7, v7, hb1, hb2, e6, e7, hk⟩ := tok67 hT hp hf tk6 tA6 va6 be7 tk7 to7
  have c6 : f_X2_readNumber fu t6 (nI n) (nI p) tk6 tA6 va6 (-1) lo hi' = if k6 = 2 ∧ lo.toInt ≤ v6.toInt ∧ v6.toInt ≤ hi'.toInt then some (v6, p6, k6, nI b, v6, -1) else some (0, p6, k6, nI b, v6, nI b) := by
    unfold f_X2_readNumber f_X2_readNumber_J43
    rw [if_pos rfl, e6, bnd]
    simp only [rf_t, bnd, Int32.lt_iff_toInt_lt]
    by_cases h1 : k6 = 2
    · rw [if_pos h1]
      by_cases h2 : v6.toInt < lo.toInt
      · rw [if_pos h2, if_neg (by omega)]
      · rw [if_neg h2]
        by_cases h3 : hi'.toInt < v6.toInt
        · rw [if_pos h3, if_neg (by omega)]
        · rw [if_neg h3, if_pos ⟨h1, by omega, by omega⟩]
    · rw [if_neg h1, if_neg (fun q => h1 q.1)]
  have c7 : f_X7_number fu t7 (nI n) (nI p) be7 tk7 to7 lo hi' = if k7 = 2 ∧ lo.toInt ≤ v7.toInt ∧ v7.toInt ≤ hi'.toInt then some (1, p7, nI b, k7, v7) else some (0, p7, nI b, k7, v7) := by
    unfold f_X7_number
    rw [e7, bnd]
    simp only [in7x, bnd, b01i, Int32.toInt_toInt64]
    by_cases h1 : k7 = 2
    · rw [if_pos h1]
      by_cases h2 : lo.toInt ≤ v7.toInt ∧ v7.toInt ≤ hi'.toInt
      · rw [if_pos h2, if_pos ⟨h1, h2⟩]
      · rw [if_neg h2, if_neg (fun q => h2 q.2)]
    · rw [if_neg h1, if_neg (fun q => h1 q.1)]
  have bad : ¬ k6 = 2 → ¬ k7 = 2 → ∃ p6 k6 v6 p7 k7 v7, f_X2_readNumber fu t6 (nI n) (nI p) tk6 tA6 va6 (-1) lo hi' = some (0, p6, k6, nI b, v6, nI b) ∧ f_X7_number fu t7 (nI n) (nI p) be7 tk7 to7 lo hi' = some (0, p7, nI b, k7, v7) := by
    intro h1 h2
    rw [if_neg (fun q => h1 q.1)] at c6
    rw [if_neg (fun q => h2 q.1)] at c7
    exact ⟨_, _, _, _, _, _, c6, c7⟩
  refine ⟨b, hb2, ?_⟩
  rcases hk with ⟨z1, z2⟩ | ⟨hbn, ⟨q, h1, h2, h3, h4, ⟨z1, z2, _⟩ | ⟨z1, z2⟩ | ⟨z1, z2, v, z3, z4, z5⟩⟩ | ⟨z2, z1⟩⟩
  · exact .inr (bad (by rw [z1]; decide) (by rw [z2]; decide))
  · exact .inr (bad (by rw [z1]; decide) (by rw [z2]; decide))
  · exact .inr (bad (by rw [z1]; decide) (by rw [z2]; decide))
  · rw [z4, tl v (by omega), z1, h3] at c6
    rw [z5, tl v (by omega), z2, h4] at c7
    by_cases r : lo.toInt ≤ v ∧ (v : Int) ≤ hi'.toInt
    · rw [if_pos ⟨rfl, r⟩] at c6 c7
      exact .inl ⟨v, q, z3, r.1, r.2, by omega, h2, c6, c7⟩
    · rw [if_neg (fun w => r w.2)] at c6 c7
      exact .inr ⟨_, _, _, _, _, _, c6, c7⟩
  · refine .inr (bad ?_ (by rw [z2]; decide))
    rcases z1 with z1 | z1
    · rw [z1]
      decide
    · rw [z1.1]
      decide
theorem stop67 (hT : Txt n t t6 t7) {p : Nat} (hp : p ≤ n) (hf : 201 < fu) (tk6 tA6 va6 be7 tk7 to7 : Int32) : ∃ b, b ≤ n ∧ ((∃ q v6 v7, p < q ∧ q ≤ n ∧ f_X2_readStop fu t6 (nI n) (nI p) tk6 tA6 va6 (-1) = some (nI q, 3, nI b, v6, -1) ∧ f_X7_ends fu t7 (nI n) (nI p) be7 tk7 to7 = some (1, nI q, nI b, 3, v7)) ∨ (∃ p6 k6 v6 p7 k7 v7, f_X2_readStop fu t6 (nI n) (nI p) tk6 tA6 va6 (-1) = some (p6, k6, nI b, v6, nI b) ∧ f_X7_ends fu t7 (nI n) (nI p) be7 tk7 to7 = some (0, p7, nI b, k7, v7))) := by
  obtain ⟨b, p6, k6, v6, p7, k7, v7, hb1, hb2, e6, e7, hk⟩ := tok67 hT hp hf tk6 tA6 va6 be7 tk7 to7
  have c6 : f_X2_readStop fu t6 (nI n) (nI p) tk6 tA6 va6 (-1) = if k6 = 3 then some (p6, k6, nI b, v6, -1) else some (p6, k6, nI b, v6, nI b) := by
    unfold f_X2_readStop
    rw [if_pos rfl, e6, bnd]
    simp only [rf_t, bnd]
  have c7 : f_X7_ends fu t7 (nI n) (nI p) be7 tk7 to7 = if k7 = 3 then some (1, p7, nI b, k7, v7) else some (0, p7, nI b, k7, v7) := by
    unfold f_X7_ends
    rw [e7, bnd]
  have bad : ¬ k6 = 3 → ¬ k7 = 3 → ∃ p6 k6 v6 p7 k7 v7, f_X2_readStop fu t6 (nI n) (nI p) tk6 tA6 va6 (-1) = some (p6, k6, nI b, v6, nI b) ∧ f_X7_ends fu t7 (nI n) (nI p) be7 tk7 to7 = some (0, p7, nI b, k7, v7) := by
    intro h1 h2
    rw [if_neg h1] at c6
    rw [if_neg h2] at c7
    exact ⟨_, _, _, _, _, _, c6, c7⟩
  refine ⟨b, hb2, ?_⟩
  rcases hk with ⟨z1, z2⟩ | ⟨hbn, ⟨q, h1, h2, h3, h4, ⟨z1, z2, _⟩ | ⟨z1, z2⟩ | ⟨z1, z2, _⟩⟩ | ⟨z2, z1⟩⟩
  · exact .inr (bad (by rw [z1]; decide) (by rw [z2]; decide))
  · exact .inr (bad (by rw [z1]; decide) (by rw [z2]; decide))
  · rw [z1, if_pos rfl, h3] at c6
    rw [z2, if_pos rfl, h4] at c7
    exact .inl ⟨q, v6, v7, by omega, h2, c6, c7⟩
  · exact .inr (bad (by rw [z1]; decide) (by rw [z2]; decide))
  · refine .inr (bad ?_ (by rw [z2]; decide))
    rcases z1 with z1 | z1
    · rw [z1]
      decide
    · rw [z1.1]
      decide
theorem corner67 (hT : Txt n t t6 t7) {p b0 : Nat} (hp : p ≤ n) (hb0 : b0 ≤ n) (hf : 201 < fu) (tk6 va6 tk7 to7 : Int32) (hS : RdS c s g f h ht mk ea eb ln pa fe kn hi bl rd) : (∃ b p6 k6 a6 v6 c' mk' p7 k7 v7 rd', b ≤ n ∧ f_X2_readCorner fu t6 (nI n) (nI p) tk6 (nI b0) va6 (-1) (nI c) mk = some (p6, k6, a6, v6, nI b, c', mk') ∧ f_X7_readCorner fu t7 (nI n) (nI p) (nI b0) tk7 to7 rd = some (0, p7, nI b, k7, v7, rd')) ∨ (∃ q k6 a6 v6 mk' b7 k7 v7 rd', p < q ∧ q ≤ n ∧ f_X2_readCorner fu t6 (nI n) (nI p) tk6 (nI b0) va6 (-1) (nI c) mk = some (nI q, k6, a6, v6, -1, nI (c + 1), mk') ∧ f_X7_readCorner fu t7 (nI n) (nI p) (nI b0) tk7 to7 rd = some (1, nI q, b7, k7, v7, rd') ∧ RdS (c + 1) s g f h ht mk' ea eb ln pa fe kn hi bl rd') := by
  have hn := hT.1
  obtain ⟨⟨o1, o2, o3, o4, o5, o6⟩, ⟨r0, r1, r2, r3, r4, r5⟩, hm, hs, hg, hb⟩ := hS
  have q0 : ∀ {α : Type} (X : Option α), xb (0 : Int32) 64 X = X := fun X => xb_l (by decide)
  generalize h6 : f_X2_readCorner fu t6 (nI n) (nI p) tk6 (nI b0) va6 (-1) (nI c) mk = x6
  generalize h7 : f_X7_readCorner fu t7 (nI n) (nI p) (nI b0) tk7 to7 rd = x7
  unfold f_X2_readCorner at h6
  unfold f_X7_readCorner at h7
  simp only [q0, show ((0 : Int32).toNatClampNeg) = 0 from rfl, r0] at h7
  rw [show (7 : Int32) = nI 7 from rfl, ltE (by omega) (by decide)] at h6
  rw [show (7 : Int32) = nI 7 from rfl, eqE (by omega) (by decide)] at h7
  by_cases hc : c < 7
  · rw [if_pos hc] at h6
    rw [if_neg (by omega)] at h7
    obtain ⟨b, hbn, ⟨v, q, v1, v2, v3, hq1, hq2, e6, e7⟩ | ⟨p6, k6, v6, p7, k7, v7, e6, e7⟩⟩ := num67 hT hp hf tk6 (nI b0) va6 (nI b0) tk7 to7 0 3
    · rw [e6] at h6
      rw [e7] at h7
      have v3 : (v : Int) ≤ 3 := v3
      have hidx : (6 : Int32) + nI c = nI (6 + c) := by rw [show (6 : Int32) = nI 6 from rfl, nI_add]
      simp only [bnd, xb_nI _ hc (show 7 < 2 ^ 31 by decide), cl c (show c < 2 ^ 31 by omega)] at h6
      simp only [bnd, if_neg (show ¬ (1 : Int32) = 0 by decide), hidx, xb_nI _ (show 6 + c < 64 by omega) (show 64 < 2 ^ 31 by decide), cl (6 + c) (show 6 + c < 2 ^ 31 by omega)] at h7
      obtain ⟨b', hbn', ⟨q', w6, w7, hq3, hq4, e6', e7'⟩ | ⟨p6, k6, v6, p7, k7, v7, e6', e7'⟩⟩ := stop67 hT hq2 hf 2 (nI b) (nI v) (nI b) 2 (nI v)
      · rw [e6'] at h6
        rw [e7'] at h7
        simp only [bnd, show nI c + 1 = nI (c + 1) from nI_add c 1] at h6
        simp only [bnd, xz_1, upd_ne (show (0 : Nat) ≠ 6 + c by omega), r0, show nI c + 1 = nI (c + 1) from nI_add c 1] at h7
        refine .inr ⟨q', _, _, _, _, _, _, _, _, by omega, hq4, h6.symm, h7.symm, ⟨by omega, o2, o3, o4, o5, o6⟩, ?_, ?_, ?_, ?_, ?_⟩
        · have hr : ∀ j, j ≠ 0 → j ≠ 6 + c → upd (upd rd (6 + c) (nI v)) 0 (nI (c + 1)) j = rd j := fun j j1 j2 => (upd_ne j1).trans (upd_ne j2)
          exact ⟨upd_eq, (hr 1 (by decide) (by omega)).trans r1, (hr 2 (by decide) (by omega)).trans r2, (hr 3 (by decide) (by omega)).trans r3, (hr 4 (by decide) (by omega)).trans r4, (hr 5 (by decide) (by omega)).trans r5⟩
        · intro k hk
          by_cases e : k = c
          · subst e
            exact ⟨v, by omega, upd_eq, (upd_ne (by omega)).trans upd_eq⟩
          · obtain ⟨m, m1, m2, m3⟩ := hm k (by omega)
            exact ⟨m, m1, (upd_ne e).trans m2, ((upd_ne (by omega)).trans (upd_ne (by omega))).trans m3⟩
        · intro k hk
          obtain ⟨x, y, l, z1, z2, z3, z4, z5, z6, z7, z8, z9, z10, z11⟩ := hs k hk
          exact ⟨x, y, l, by omega, by omega, z3, z4, z5, z6, z7, z8, ((upd_ne (by omega)).trans (upd_ne (by omega))).trans z9, ((upd_ne (by omega)).trans (upd_ne (by omega))).trans z10, ((upd_ne (by omega)).trans (upd_ne (by omega))).trans z11⟩
        · intro k hk
          obtain ⟨a1, a2, a3, a4, z1, z2, z3, z4, z5, z6, z7, z8, z9, z10, z11, z12⟩ := hg k hk
          exact ⟨a1, a2, a3, a4, z1, z2, z3, z4, z5, z6, z7, z8, ((upd_ne (by omega)).trans (upd_ne (by omega))).trans z9, ((upd_ne (by omega)).trans (upd_ne (by omega))).trans z10, ((upd_ne (by omega)).trans (upd_ne (by omega))).trans z11, ((upd_ne (by omega)).trans (upd_ne (by omega))).trans z12⟩
        · intro k hk
          obtain ⟨m, m1, m2, m3⟩ := hb k hk
          exact ⟨m, m1, m2, ((upd_ne (by omega)).trans (upd_ne (by omega))).trans m3⟩
      · rw [e6'] at h6
        rw [e7'] at h7
        simp only [bnd] at h6
        simp only [bnd, xz_0] at h7
        exact .inl ⟨b', _, _, _, _, _, _, _, _, _, _, hbn', h6.symm, h7.symm⟩
    · rw [e6] at h6
      rw [e7] at h7
      simp only [bnd, xb_nI _ hc (show 7 < 2 ^ 31 by decide), cl c (show c < 2 ^ 31 by omega), rs_f (show b < 2 ^ 31 by omega)] at h6
      simp only [bnd, if_true] at h7
      exact .inl ⟨b, _, _, _, _, _, _, _, _, _, _, hbn, h6.symm, h7.symm⟩
  · rw [if_neg hc, rf_t, bnd] at h6
    rw [if_pos (by omega)] at h7
    exact .inl ⟨b0, _, _, _, _, _, _, _, _, _, _, hb0, h6.symm, h7.symm⟩
theorem hand67 (hT : Txt n t t6 t7) {p b0 : Nat} (hp : p ≤ n) (hb0 : b0 ≤ n) (hf : 201 < fu) (tk6 va6 to7 : Int32) (hto : to7 = 104) (hS : RdS c s g f h ht mk ea eb ln pa fe kn hi bl rd) : (∃ b p6 k6 a6 v6 h' ht' p7 k7 v7 rd', b ≤ n ∧ f_X2_readHand fu t6 (nI n) (nI p) tk6 (nI b0) va6 (-1) (nI h) (nI ht) = some (p6, k6, a6, v6, nI b, h', ht') ∧ f_X7_readItem fu t7 (nI n) (nI p) (nI b0) 1 to7 rd = some (0, p7, nI b, k7, v7, rd')) ∨ (∃ q k6 a6 v6 h' ht' b7 k7 v7 rd', p < q ∧ q ≤ n ∧ f_X2_readHand fu t6 (nI n) (nI p) tk6 (nI b0) va6 (-1) (nI h) (nI ht) = some (nI q, k6, a6, v6, -1, nI h', nI ht') ∧ f_X7_readItem fu t7 (nI n) (nI p) (nI b0) 1 to7 rd = some (1, nI q, b7, k7, v7, rd') ∧ RdS c s g f h' ht' mk ea eb ln pa fe kn hi bl rd') := by
  have hn := hT.1
  obtain ⟨⟨o1, o2, o3, o4, o5, o6⟩, ⟨r0, r1, r2, r3, r4, r5⟩, hm, hs, hg, hb⟩ := hS
  have q5 : ∀ {α : Type} (X : Option α), xb (5 : Int32) 64 X = X := fun X => xb_l (by decide)
  have q3 : ∀ {α : Type} (X : Option α), xb (3 : Int32) 64 X = X := fun X => xb_l (by decide)
  generalize h6 : f_X2_readHand fu t6 (nI n) (nI p) tk6 (nI b0) va6 (-1) (nI h) (nI ht) = x6
  generalize h7 : f_X7_readItem fu t7 (nI n) (nI p) (nI b0) 1 to7 rd = x7
  unfold f_X2_readHand at h6
  unfold f_X7_readItem at h7
  rw [if_pos rfl, if_neg (by rw [hto]; decide), if_neg (by rw [hto]; decide), if_neg (by rw [hto]; decide), if_neg (by rw [hto]; decide)] at h7
  simp only [q5, q3, show ((5 : Int32).toNatClampNeg) = 5 from rfl, show ((3 : Int32).toNatClampNeg) = 3 from rfl, r5] at h7
  by_cases hc : ht = 0
  · rw [if_pos (by rw [hc]; rfl)] at h6
    rw [if_neg (by rw [hc]; decide)] at h7
    obtain ⟨b, hbn, ⟨v, q, v1, v2, v3, hq1, hq2, e6, e7⟩ | ⟨p6, k6, v6, p7, k7, v7, e6, e7⟩⟩ := num67 hT hp hf tk6 (nI b0) va6 (nI b0) 1 to7 0 9
    · rw [e6] at h6
      rw [e7] at h7
      have v3 : (v : Int) ≤ 9 := v3
      simp only [bnd] at h6
      simp only [bnd, if_neg (show ¬ (1 : Int32) = 0 by decide)] at h7
      obtain ⟨b', hbn', ⟨q', w6, w7, hq3, hq4, e6', e7'⟩ | ⟨p6, k6, v6, p7, k7, v7, e6', e7'⟩⟩ := stop67 hT hq2 hf 2 (nI b) (nI v) (nI b) 2 (nI v)
      · rw [e6'] at h6
        rw [e7'] at h7
        simp only [bnd] at h6
        simp only [bnd, xz_1] at h7
        refine .inr ⟨q', _, _, _, v, 1, _, _, _, _, by omega, hq4, h6.symm, h7.symm, ⟨o1, o2, o3, o4, by omega, by omega⟩, ?_, ?_, ?_, ?_, ?_⟩
        · exact ⟨((upd_ne (by decide)).trans (upd_ne (by decide))).trans r0, ((upd_ne (by decide)).trans (upd_ne (by decide))).trans r1, ((upd_ne (by decide)).trans (upd_ne (by decide))).trans r2, upd_eq, ((upd_ne (by decide)).trans (upd_ne (by decide))).trans r4, (upd_ne (by decide)).trans upd_eq⟩
        · intro k hk
          obtain ⟨m, m1, m2, m3⟩ := hm k hk
          exact ⟨m, m1, m2, ((upd_ne (by omega)).trans (upd_ne (by omega))).trans m3⟩
        · intro k hk
          obtain ⟨x, y, l, z1, z2, z3, z4, z5, z6, z7, z8, z9, z10, z11⟩ := hs k hk
          exact ⟨x, y, l, z1, z2, z3, z4, z5, z6, z7, z8, ((upd_ne (by omega)).trans (upd_ne (by omega))).trans z9, ((upd_ne (by omega)).trans (upd_ne (by omega))).trans z10, ((upd_ne (by omega)).trans (upd_ne (by omega))).trans z11⟩
        · intro k hk
          obtain ⟨a1, a2, a3, a4, z1, z2, z3, z4, z5, z6, z7, z8, z9, z10, z11, z12⟩ := hg k hk
          exact ⟨a1, a2, a3, a4, z1, z2, z3, z4, z5, z6, z7, z8, ((upd_ne (by omega)).trans (upd_ne (by omega))).trans z9, ((upd_ne (by omega)).trans (upd_ne (by omega))).trans z10, ((upd_ne (by omega)).trans (upd_ne (by omega))).trans z11, ((upd_ne (by omega)).trans (upd_ne (by omega))).trans z12⟩
        · intro k hk
          obtain ⟨m, m1, m2, m3⟩ := hb k hk
          exact ⟨m, m1, m2, ((upd_ne (by omega)).trans (upd_ne (by omega))).trans m3⟩
      · rw [e6'] at h6
        rw [e7'] at h7
        simp only [bnd] at h6
        simp only [bnd, xz_0] at h7
        exact .inl ⟨b', _, _, _, _, _, _, _, _, _, _, hbn', h6.symm, h7.symm⟩
    · rw [e6] at h6
      rw [e7] at h7
      simp only [bnd, rs_f (show b < 2 ^ 31 by omega)] at h6
      simp only [bnd, if_true] at h7
      exact .inl ⟨b, _, _, _, _, _, _, _, _, _, _, hbn, h6.symm, h7.symm⟩
  · rw [if_neg (fun q => hc ((nI_eq0 (by omega)).mp q)), rf_t, bnd] at h6
    rw [if_pos (by rw [show ht = 1 by omega]; rfl)] at h7
    exact .inl ⟨b0, _, _, _, _, _, _, _, _, _, _, hb0, h6.symm, h7.symm⟩
end ITEMS
