/-! what is looked up, what is counted -/
theorem isS7 {tw : Nat → Int32} {n : Nat} (h : tw 1 = nI n) (hn : n < 2 ^ 30) (x : Int32) : f_X7_isStreet tw x = some (if 0 ≤ x.toInt ∧ x.toInt < n then (1 : Int32) else 0) := by
  unfold f_X7_isStreet
  rw [xb_l (by decide), show ((1 : Int32).toNatClampNeg) = 1 from rfl, h, in7x, hi7 hn]
  simp only [Option.bind_some, xz_b]
  congr 1
  by_cases c : 0 ≤ x.toInt ∧ x.toInt < n
  · rw [if_pos c, if_pos ⟨c.1, by omega⟩]
  · rw [if_neg c, if_neg (fun q => c ⟨q.1, by have := q.2; omega⟩)]
theorem isG7 {tw : Nat → Int32} {n : Nat} (h : tw 2 = nI n) (hn : n < 2 ^ 30) (x : Int32) : f_X7_isGuide tw x = some (if 0 ≤ x.toInt ∧ x.toInt < n then (1 : Int32) else 0) := by
  unfold f_X7_isGuide
  rw [xb_l (by decide), show ((2 : Int32).toNatClampNeg) = 2 from rfl, h, in7x, hi7 hn]
  simp only [Option.bind_some, xz_b]
  congr 1
  by_cases c : 0 ≤ x.toInt ∧ x.toInt < n
  · rw [if_pos c, if_pos ⟨c.1, by omega⟩]
  · rw [if_neg c, if_neg (fun q => c ⟨q.1, by have := q.2; omega⟩)]
/-- town[a + b*k] is read -/
theorem tw1 {α : Type} {tw : Nat → Int32} {k : Nat} {f : Int32 → Option α} (a : Nat) (h : a + k < 64) : xb (nI a + nI k) 64 (f (tw (nI a + nI k).toNatClampNeg)) = f (tw (a + k)) := by
  rw [nI_add, xb_nI _ h (by decide), cl _ (by omega)]
theorem pace7 {T : Nat → Nat → Nat} {tw : Nat → Int32} (hO : TOk T) (h : TwB T tw) {g : Nat} (hg : g < T 0 2) : f_X7_pace tw (nI g) = some (nI (T 5 g)) := by
  unfold f_X7_pace
  rw [show (40 : Int32) + 4 * nI g = nI (40 + 4 * g) from by rw [show (4 : Int32) = nI 4 from rfl, pk_mul, show (40 : Int32) = nI 40 from rfl, nI_add], xb_nI _ (by have := hO.2.2.1; omega) (by decide), cl _ (by have := hO.2.2.1; omega), (h.2.2.2.2.2.2.2.1 g hg).1]
theorem fee7 {T : Nat → Nat → Nat} {tw : Nat → Int32} (hO : TOk T) (h : TwB T tw) {g : Nat} (hg : g < T 0 2) : f_X7_fee tw (nI g) = some (nI (T 6 g)) := by
  unfold f_X7_fee
  rw [show (40 : Int32) + 4 * nI g + 1 = nI (41 + 4 * g) from by rw [show (4 : Int32) = nI 4 from rfl, pk_mul, show (40 : Int32) = nI 40 from rfl, nI_add, show (1 : Int32) = nI 1 from rfl, nI_add]; congr 1; omega, xb_nI _ (by have := hO.2.2.1; omega) (by decide), cl _ (by have := hO.2.2.1; omega), (h.2.2.2.2.2.2.2.1 g hg).2.1]
theorem known7 {T : Nat → Nat → Nat} {tw : Nat → Int32} (hO : TOk T) (h : TwB T tw) {g : Nat} (hg : g < T 0 2) : f_X7_known tw (nI g) = some (nI (T 7 g)) := by
  unfold f_X7_known
  obtain ⟨r, hr, e1, e2⟩ := (h.2.2.2.2.2.2.2.1 g hg).2.2.1
  rw [show (40 : Int32) + 4 * nI g + 2 = nI (42 + 4 * g) from by rw [show (4 : Int32) = nI 4 from rfl, pk_mul, show (40 : Int32) = nI 40 from rfl, nI_add, show (2 : Int32) = nI 2 from rfl, nI_add]; congr 1; omega, xb_nI _ (by have := hO.2.2.1; omega) (by decide), cl _ (by have := hO.2.2.1; omega), xb_l (by decide), show ((1 : Int32).toNatClampNeg) = 1 from rfl, h.2.1, e1, maskE (by omega) (by have := hO.2.1; omega), e2]
theorem his7 {T : Nat → Nat → Nat} {tw : Nat → Int32} (hO : TOk T) (h : TwB T tw) {g : Nat} (hg : g < T 0 2) : f_X7_his tw (nI g) = some (nI (T 8 g)) := by
  unfold f_X7_his
  obtain ⟨r, hr, e1, e2⟩ := (h.2.2.2.2.2.2.2.1 g hg).2.2.2
  rw [show (40 : Int32) + 4 * nI g + 3 = nI (43 + 4 * g) from by rw [show (4 : Int32) = nI 4 from rfl, pk_mul, show (40 : Int32) = nI 40 from rfl, nI_add, show (3 : Int32) = nI 3 from rfl, nI_add]; congr 1; omega, xb_nI _ (by have := hO.2.2.1; omega) (by decide), cl _ (by have := hO.2.2.1; omega), xb_l (by decide), show ((0 : Int32).toNatClampNeg) = 0 from rfl, h.1, e1, maskE (by omega) (by have := hO.1; omega), e2]
theorem st_corner : St_corner Sim := by
  intro I F as J G tr x1 h
  obtain ⟨T, hO, h6, h7, r⟩ := h
  unfold f_X6_corner f_X7_corner
  have hn := hO.1
  rw [h6.1, hasC6 (by omega), isC7 h7.1 (by omega)]
  simp only [Option.bind_some, b01i]
  by_cases c : 0 ≤ x1.toInt ∧ x1.toInt < T 0 0
  · rw [if_pos c, if_pos c]
    obtain ⟨k, hk, rfl⟩ := of_in c.1 c.2
    rw [xb_nI _ (by omega) (by decide), cl k (by omega), show (6 : Int32) + nI k = nI (6 + k) from nI_add 6 k, xb_nI _ (by omega) (by decide), cl _ (by omega), h6.2.2.2.2.2.1 k hk, h7.2.2.2.2.2.1 k hk]
    exact ⟨_, _, rfl, rfl, rfl, T, hO, h6, h7, r⟩
  · rw [if_neg c, if_neg c]
    exact ⟨_, _, rfl, rfl, rfl, T, hO, h6, h7, r⟩
theorem st_street : St_street Sim := by
  intro I F as J G tr x1 x2 h
  obtain ⟨T, hO, h6, h7, r⟩ := h
  unfold f_X6_street f_X7_street
  have hn := hO.2.1
  rw [h6.2.1, hasS6 (by omega), isS7 h7.2.1 (by omega), in7n x2 0 2 0 2 rfl rfl]
  simp only [Option.bind_some, b01i]
  by_cases c : 0 ≤ x1.toInt ∧ x1.toInt < T 0 1
  · rw [if_pos c, if_pos c]
    obtain ⟨k, hk, rfl⟩ := of_in c.1 c.2
    obtain ⟨s1, s2, s3⟩ := h6.2.2.2.2.2.2.1 k hk
    obtain ⟨t1, t2, t3⟩ := h7.2.2.2.2.2.2.1 k hk
    rw [show (13 : Int32) + 3 * nI k = nI (13 + 3 * k) from by rw [show (3 : Int32) = nI 3 from rfl, pk_mul, show (13 : Int32) = nI 13 from rfl, nI_add]]
    by_cases c2 : 0 ≤ x2.toInt ∧ x2.toInt ≤ 2
    · rw [if_pos c2]
      obtain ⟨w, hw, rfl⟩ : ∃ w : Nat, w < 3 ∧ x2 = nI w := of_in c2.1 (by omega)
      have q9 : ∀ A : Option Int32, xb (nI k) 9 A = A := fun A => xb_nI A (by omega) (by decide)
      simp only [q9, cl k (show k < 2 ^ 31 by omega), s1, s2, s3]
      rw [nI_add, xb_nI _ (by omega) (by decide), cl _ (by omega)]
      rcases (show w = 0 ∨ w = 1 ∨ w = 2 by omega) with rfl | rfl | rfl
      · rw [if_pos (show nI 0 = 0 from rfl), show 13 + 3 * k + 0 = 13 + 3 * k from rfl, t1]
        exact ⟨_, _, rfl, rfl, rfl, T, hO, h6, h7, r⟩
      · rw [if_neg (by decide), if_pos (show nI 1 = 1 from rfl), show 13 + 3 * k + 1 = 14 + 3 * k by omega, t2]
        exact ⟨_, _, rfl, rfl, rfl, T, hO, h6, h7, r⟩
      · rw [if_neg (by decide), if_neg (by decide), if_pos (show nI 2 = 2 from rfl), show 13 + 3 * k + 2 = 15 + 3 * k by omega, t3]
        exact ⟨_, _, rfl, rfl, rfl, T, hO, h6, h7, r⟩
    · rw [if_neg c2, if_neg (fun e => c2 (by rw [e]; decide)), if_neg (fun e => c2 (by rw [e]; decide)), if_neg (fun e => c2 (by rw [e]; decide))]
      exact ⟨_, _, rfl, rfl, rfl, T, hO, h6, h7, r⟩
  · rw [if_neg c, if_neg c]
    exact ⟨_, _, rfl, rfl, rfl, T, hO, h6, h7, r⟩
theorem st_guide : St_guide Sim := by
  intro I F as J G tr x1 x2 h
  obtain ⟨T, hO, h6, h7, r⟩ := h
  unfold f_X6_guide f_X7_guide
  have hn := hO.2.2.1
  rw [h6.2.2.1, hasG6 (by omega), isG7 h7.2.2.1 (by omega), in7n x2 0 3 0 3 rfl rfl]
  simp only [Option.bind_some, b01i]
  by_cases c : 0 ≤ x1.toInt ∧ x1.toInt < T 0 2
  · rw [if_pos c, if_pos c]
    obtain ⟨k, hk, rfl⟩ := of_in c.1 c.2
    obtain ⟨s1, s2, s3, s4⟩ := h6.2.2.2.2.2.2.2.1 k hk
    rw [pace7 hO h7 hk, fee7 hO h7 hk, known7 hO h7 hk, his7 hO h7 hk, xb_nI _ (by omega) (by decide), xb_nI _ (by omega) (by decide), xb_nI _ (by omega) (by decide), xb_nI _ (by omega) (by decide), cl k (by omega), s1, s2, s3, s4]
    simp only [Option.bind_some]
    by_cases c2 : 0 ≤ x2.toInt ∧ x2.toInt ≤ 3
    · rw [if_pos c2]
      obtain ⟨w, hw, rfl⟩ : ∃ w : Nat, w < 4 ∧ x2 = nI w := of_in c2.1 (by omega)
      rcases (show w = 0 ∨ w = 1 ∨ w = 2 ∨ w = 3 by omega) with rfl | rfl | rfl | rfl
      · exact ⟨_, _, rfl, rfl, rfl, T, hO, h6, h7, r⟩
      · exact ⟨_, _, rfl, rfl, rfl, T, hO, h6, h7, r⟩
      · exact ⟨_, _, rfl, rfl, rfl, T, hO, h6, h7, r⟩
      · exact ⟨_, _, rfl, rfl, rfl, T, hO, h6, h7, r⟩
    · rw [if_neg c2, if_neg (fun e => c2 (by rw [e]; decide)), if_neg (fun e => c2 (by rw [e]; decide)), if_neg (fun e => c2 (by rw [e]; decide)), if_neg (fun e => c2 (by rw [e]; decide))]
      exact ⟨_, _, rfl, rfl, rfl, T, hO, h6, h7, r⟩
  · rw [if_neg c, if_neg c]
    exact ⟨_, _, rfl, rfl, rfl, T, hO, h6, h7, r⟩
theorem st_count : St_count Sim := by
  intro I F as J G tr x1 h
  obtain ⟨T, hO, h6, h7, ha, ⟨n, hn, e6, e7, ht⟩, ⟨r1, u, hu, u6, u7, ru⟩, r2, r3, ⟨f, hf, f6, f7, rf⟩, ⟨w, hw, w6, w7, rw1⟩, y, hy, y6, y7, ry⟩ := h
  have hs : Sim I F as J G tr := ⟨T, hO, h6, h7, ha, ⟨n, hn, e6, e7, ht⟩, ⟨r1, u, hu, u6, u7, ru⟩, r2, r3, ⟨f, hf, f6, f7, rf⟩, ⟨w, hw, w6, w7, rw1⟩, y, hy, y6, y7, ry⟩
  unfold f_X6_count f_X7_count
  by_cases c0 : x1 = 0
  · rw [if_pos c0, if_pos c0, c0, xb_l (by decide)]
    exact ⟨_, _, rfl, rfl, h6.1.trans h7.1.symm, hs⟩
  · rw [if_neg c0, if_neg c0]
    by_cases c1 : x1 = 1
    · rw [if_pos c1, if_pos c1, c1, xb_l (by decide)]
      exact ⟨_, _, rfl, rfl, h6.2.1.trans h7.2.1.symm, hs⟩
    · rw [if_neg c1, if_neg c1]
      by_cases c2 : x1 = 2
      · rw [if_pos c2, if_pos c2, c2, xb_l (by decide)]
        exact ⟨_, _, rfl, rfl, h6.2.2.1.trans h7.2.2.1.symm, hs⟩
      · rw [if_neg c2, if_neg c2]
        by_cases c3 : x1 = 3
        · rw [if_pos c3, if_pos c3, c3, xb_l (by decide)]
          exact ⟨_, _, rfl, rfl, h6.2.2.2.2.1.trans h7.2.2.2.1.symm, hs⟩
        · rw [if_neg c3, if_neg c3]
          by_cases c4 : x1 = 4
          · rw [if_pos c4, if_pos c4, c4, xb_l (by decide)]
            exact ⟨_, _, rfl, rfl, h6.2.2.2.1.trans h7.2.2.2.2.1.symm, hs⟩
          · rw [if_neg c4, if_neg c4, f6, f7, w6, w7, y6, y7, u6, u7, e6, e7]
            by_cases c5 : x1 = 5
            · rw [if_pos c5]; exact ⟨_, _, rfl, rfl, rfl, hs⟩
            · rw [if_neg c5]
              by_cases c6 : x1 = 6
              · rw [if_pos c6]; exact ⟨_, _, rfl, rfl, rfl, hs⟩
              · rw [if_neg c6]
                by_cases c7 : x1 = 7
                · rw [if_pos c7]; exact ⟨_, _, rfl, rfl, rfl, hs⟩
                · rw [if_neg c7]
                  by_cases c8 : x1 = 8
                  · rw [if_pos c8]; exact ⟨_, _, rfl, rfl, rfl, hs⟩
                  · rw [if_neg c8]
                    by_cases c9 : x1 = 9
                    · rw [if_pos c9]; exact ⟨_, _, rfl, rfl, rfl, hs⟩
                    · rw [if_neg c9]; exact ⟨_, _, rfl, rfl, rfl, hs⟩
theorem st_feels : St_feels Sim := by
  intro I F as J G tr x1 h
  obtain ⟨T, hO, h6, h7, ha, r1, r2, r3, r4, ⟨n, hn, e6, e7, ht⟩, r5⟩ := h
  unfold f_X6_feels f_X7_feels
  rw [rng6 x1 3 3 rfl, in7n x1 0 3 0 3 rfl rfl]
  simp only [Option.bind_some, b01i, e6, e7]
  by_cases h : 0 ≤ x1.toInt ∧ x1.toInt ≤ 3
  · rw [if_pos h, if_pos h]
    unfold f_X3_addMark
    rw [show (6 : Int32) = nI 6 from rfl, ltE (by omega) (by decide), eqE (by omega) (by decide)]
    obtain ⟨b, hb, rfl⟩ : ∃ b : Nat, b < 4 ∧ x1 = nI b := of_in h.1 (by omega)
    by_cases hf : n < 6
    · rw [if_pos hf, if_neg (by omega), xb_nI _ hf (by decide), xb_nI _ hf (by decide), cl n (by omega), show nI n + 1 = nI (n + 1) from nI_add n 1]
      refine ⟨_, _, rfl, rfl, rfl, T, hO, h6, h7, ha, r1, r2, r3, r4, ⟨n + 1, by omega, rfl, rfl, ?_⟩, r5⟩
      intro k hk
      show ∃ c, c < 4 ∧ upd (F 26) n (nI b) k = nI c ∧ upd (G 12) n (nI b) k = nI c
      unfold upd
      by_cases e : k = n
      · exact ⟨b, hb, by rw [if_pos e], by rw [if_pos e]⟩
      · rw [if_neg e, if_neg e]
        exact ht k (by omega)
    · rw [if_neg hf, if_pos (by omega)]
      exact ⟨_, _, rfl, rfl, rfl, T, hO, h6, h7, ha, r1, r2, r3, r4, ⟨n, hn, rfl, rfl, ht⟩, r5⟩
  · rw [if_neg h, if_neg h]
    exact ⟨_, _, rfl, rfl, rfl, T, hO, h6, h7, ha, r1, r2, r3, r4, ⟨n, hn, rfl, rfl, ht⟩, r5⟩
theorem st_forget : St_forget Sim := by
  intro I F as J G tr h
  obtain ⟨T, hO, h6, h7, ha, r1, r2, r3, r4, ⟨n, hn, e6, e7, ht⟩, ⟨w, hw, w6, w7, rw1⟩, r5⟩ := h
  exact ⟨_, _, rfl, rfl, by show I 26 + I 27 = J 7 + J 8; rw [e6, e7, w6, w7], T, hO, h6, h7, ha, r1, r2, r3, r4, ⟨0, by omega, rfl, rfl, fun k hk => by omega⟩, ⟨0, by omega, rfl, rfl, fun k hk => by omega⟩, r5⟩
theorem st_grants : St_grants Sim := by
  intro I F as J G tr h
  obtain ⟨T, hO, h6, h7, ha, r1, r2, r3, r4, r5, r6, y, hy, y6, y7, ry⟩ := h
  exact ⟨_, _, rfl, rfl, by show I 28 = J 9; rw [y6, y7], T, hO, h6, h7, ha, r1, r2, r3, r4, r5, r6, 0, by omega, rfl, rfl, fun k hk => by omega⟩
/-- what 'wishes' answers -/
def wishSpec (n y : Nat) (a b w : Nat → Int32) (x1 x2 x3 : Int32) : Option (Int32 × Int32 × (Nat → Int32) × (Nat → Int32) × (Nat → Int32)) :=
  if (0 ≤ x1.toInt ∧ x1.toInt < n) ∧ (0 ≤ x2.toInt ∧ x2.toInt < n) ∧ ¬ x1 = x2 ∧ 0 ≤ x3.toInt ∧ x3.toInt ≤ 99 then (if y < 4 then some (nI (y + 1), nI (y + 1), upd a y x1, upd b y x2, upd w y x3) else some (-3, nI y, a, b, w)) else some (-1, nI y, a, b, w)
theorem wishes6 {n y : Nat} (hn : n ≤ 7) (hy : y ≤ 4) (a b w : Nat → Int32) (x1 x2 x3 : Int32) : f_X6_wishes (nI n) (nI y) a b w x1 x2 x3 = wishSpec n y a b w x1 x2 x3 := by
  unfold f_X6_wishes wishSpec f_X5_add
  rw [hasC6 (by omega), hasC6 (by omega), rng6 x3 99 99 rfl, show (4 : Int32) = nI 4 from rfl, ltE (by omega) (by decide)]
  simp only [Option.bind_some, b01i]
  by_cases c1 : 0 ≤ x1.toInt ∧ x1.toInt < n
  · rw [if_pos c1]
    by_cases c2 : 0 ≤ x2.toInt ∧ x2.toInt < n
    · rw [if_pos c2]
      by_cases c3 : x1 = x2
      · rw [if_pos c3]
        exact (if_neg (fun q => q.2.2.1 c3)).symm
      · rw [if_neg c3]
        by_cases c4 : 0 ≤ x3.toInt ∧ x3.toInt ≤ 99
        · rw [if_pos c4]
          refine Eq.trans ?_ (if_pos ⟨c1, c2, c3, c4⟩).symm
          by_cases hf : y < 4
          · rw [if_pos hf, if_pos hf]
            simp only [xb_nI _ hf (show 4 < 2 ^ 31 by decide), cl y (show y < 2 ^ 31 by omega), show nI y + 1 = nI (y + 1) from nI_add y 1, Option.bind_some]
            rw [if_neg (by decide)]
          · rw [if_neg hf, if_neg hf]
            rfl
        · rw [if_neg c4]
          exact (if_neg (fun q => c4 q.2.2.2)).symm
    · rw [if_neg c2]
      exact (if_neg (fun q => c2 q.2.1)).symm
  · rw [if_neg c1]
    exact (if_neg (fun q => c1 q.1)).symm
theorem wishes7 {n y : Nat} (hn : n ≤ 7) (hy : y ≤ 4) {tw : Nat → Int32} (ht : tw 0 = nI n) (a b w : Nat → Int32) (x1 x2 x3 : Int32) : f_X7_wishes tw (nI y) a b w x1 x2 x3 = wishSpec n y a b w x1 x2 x3 := by
  unfold f_X7_wishes wishSpec
  rw [isC7 ht (by omega), isC7 ht (by omega), in7n x3 0 99 0 99 rfl rfl, show (4 : Int32) = nI 4 from rfl, eqE (by omega) (by decide)]
  simp only [Option.bind_some, b01i]
  by_cases c1 : 0 ≤ x1.toInt ∧ x1.toInt < n
  · rw [if_pos c1]
    by_cases c2 : 0 ≤ x2.toInt ∧ x2.toInt < n
    · rw [if_pos c2]
      by_cases c3 : x1 = x2
      · rw [if_pos c3]
        exact (if_neg (fun q => q.2.2.1 c3)).symm
      · rw [if_neg c3]
        by_cases c4 : 0 ≤ x3.toInt ∧ x3.toInt ≤ 99
        · rw [if_pos c4]
          refine Eq.trans ?_ (if_pos ⟨c1, c2, c3, c4⟩).symm
          by_cases hf : y < 4
          · rw [if_pos hf, if_neg (by omega)]
            simp only [xb_nI _ hf (show 4 < 2 ^ 31 by decide), cl y (show y < 2 ^ 31 by omega), show nI y + 1 = nI (y + 1) from nI_add y 1]
          · rw [if_neg hf, if_pos (by omega)]
        · rw [if_neg c4]
          exact (if_neg (fun q => c4 q.2.2.2)).symm
    · rw [if_neg c2]
      exact (if_neg (fun q => c2 q.2.1)).symm
  · rw [if_neg c1]
    exact (if_neg (fun q => c1 q.1)).symm
theorem st_wishes : St_wishes Sim := by
  intro I F as J G tr x1 x2 x3 h
  obtain ⟨T, hO, h6, h7, ha, r1, r2, r3, r4, r5, r6, y, hy, y6, y7, ry⟩ := h
  have e6 := wishes6 hO.1 hy (F 30) (F 31) (F 32) x1 x2 x3
  have e7 := wishes7 hO.1 hy h7.1 (G 18) (G 19) (G 20) x1 x2 x3
  rw [← h6.1, ← y6] at e6
  rw [← y7] at e7
  unfold wishSpec at e6 e7
  by_cases c : (0 ≤ x1.toInt ∧ x1.toInt < T 0 0) ∧ (0 ≤ x2.toInt ∧ x2.toInt < T 0 0) ∧ ¬ x1 = x2 ∧ 0 ≤ x3.toInt ∧ x3.toInt ≤ 99
  · rw [if_pos c] at e6 e7
    by_cases hf : y < 4
    · rw [if_pos hf] at e6 e7
      obtain ⟨c1, c2, c3, c4⟩ := c
      obtain ⟨a, hka, rfl⟩ := of_in c1.1 c1.2
      obtain ⟨b, hkb, rfl⟩ := of_in c2.1 c2.2
      obtain ⟨v, hkv, rfl⟩ : ∃ v : Nat, v < 100 ∧ x3 = nI v := of_in c4.1 (by omega)
      refine ⟨_, _, e6, e7, rfl, T, hO, h6, h7, ha, r1, r2, r3, r4, r5, r6, y + 1, by omega, rfl, rfl, ?_⟩
      intro k hk
      show ∃ a' b' w', a' < T 0 0 ∧ b' < T 0 0 ∧ a' ≠ b' ∧ w' ≤ 99 ∧ upd (F 30) y (nI a) k = nI a' ∧ upd (F 31) y (nI b) k = nI b' ∧ upd (F 32) y (nI v) k = nI w' ∧ upd (G 18) y (nI a) k = nI a' ∧ upd (G 19) y (nI b) k = nI b' ∧ upd (G 20) y (nI v) k = nI w'
      unfold upd
      by_cases e : k = y
      · refine ⟨a, b, v, hka, hkb, fun e => c3 (by rw [e]), by omega, ?_⟩
        simp only [if_pos e, and_self]
      · simp only [if_neg e]
        exact ry k (by omega)
    · rw [if_neg hf] at e6 e7
      exact ⟨_, _, e6, e7, rfl, T, hO, h6, h7, ha, r1, r2, r3, r4, r5, r6, y, hy, rfl, rfl, ry⟩
  · rw [if_neg c] at e6 e7
    exact ⟨_, _, e6, e7, rfl, T, hO, h6, h7, ha, r1, r2, r3, r4, r5, r6, y, hy, rfl, rfl, ry⟩
