theorem st_leads : St_leads Sim := by
  intro I F as J G tr x1 h
  obtain ⟨T, hO, h6, h7, ha, r1, h8, r3, r4, r5, r6, r7⟩ := h
  have o2 := hO.2.1
  have o3 := hO.2.2.1
  have h8' := h8
  obtain ⟨hr, k, hk, u6, u7, hj⟩ := h8
  obtain ⟨un', cs', ms', ps', ls', ud', e6, e7, hrows⟩ := tale_note h8'
  have q0 : ∀ {α : Type} (A : Option α), xb (0 : Int32) 4 A = A := fun A => xb_l (by decide)
  have q1 : ∀ {α : Type} (A : Option α), xb (1 : Int32) 4 A = A := fun A => xb_l (by decide)
  have q2 : ∀ {α : Type} (A : Option α), xb (2 : Int32) 4 A = A := fun A => xb_l (by decide)
  have q3 : ∀ {α : Type} (A : Option α), xb (3 : Int32) 4 A = A := fun A => xb_l (by decide)
  by_cases hx : 0 ≤ x1.toInt ∧ x1.toInt < T 0 1
  · obtain ⟨s, hs, rfl⟩ := of_in hx.1 hx.2
    obtain ⟨b, hb, m6, m7, hb1, -⟩ := mayLead_eq hO h6 h7 hr hs
    rcases hb with rfl | rfl
    · have q6 : f_X6_leads (I 7) (I 8) (F 3) (F 4) (F 5) (F 6) (F 7) (F 8) (I 18) (I 19) (I 20) (I 21) (I 22) (F 20) (F 21) (F 22) (F 23) (nI s) = some (-2, I 18, I 19, I 20, I 21, I 22, F 20, F 21, F 22, F 23) := by
        unfold f_X6_leads
        rw [m6, h6.2.1, hasS6 (by omega)]
        simp only [Option.bind_some, b01i]
        rw [if_pos hx]
        rfl
      have q7 : f_X7_leads 50 (G 2) (G 3) (G 4) (J 5) (nI s) = some (-2, G 3, G 4, J 5) := by
        unfold f_X7_leads
        rw [m7, isS7 h7.2.1 (by omega)]
        simp only [Option.bind_some, b01i]
        rw [if_pos hx]
        rfl
      exact ⟨_, 50, _, q6, q7, rfl, T, hO, h6, h7, ha, r1, h8', r3, r4, r5, r6, r7⟩
    · obtain ⟨c, l, m, p, hc, hl, ec, el, em, ep, hat, hm, hp⟩ := hb1 rfl
      obtain ⟨-, -, -, -, n0, n1, n2, n3⟩ := hr
      rw [Nat.zero_add] at n1 n2 n3
      rw [if_neg (by omega)] at n0
      have os := hO.2.2.2.2.2.2.1 s hs
      have o1 := hO.1
      obtain ⟨c2, ec2, hc2⟩ : ∃ c2, (if T 2 s = c then T 3 s else T 2 s) = c2 ∧ c2 < T 0 0 := ⟨_, rfl, by split <;> omega⟩
      have q6 : f_X6_leads (I 7) (I 8) (F 3) (F 4) (F 5) (F 6) (F 7) (F 8) (I 18) (I 19) (I 20) (I 21) (I 22) (F 20) (F 21) (F 22) (F 23) (nI s) = some (nI c2, nI c2, nI (m + (T 4 s + T 5 l)), nI (p + T 6 l * (T 4 s + T 5 l)), nI l, un', cs', ms', ps', ls') := by
        unfold f_X6_leads f_X1_step
        rw [m6, e6, h6.2.1, hasS6 (by omega)]
        simp only [Option.bind_some, b01i]
        rw [if_pos hx, if_neg (by decide), el, led6 hO h6 hl hs, ec, acr6 hO h6 hs (by omega), ec2]
        simp only [Option.bind_some]
        rw [xb_nI _ (by omega) (by decide), cl l (by omega), (h6.2.2.2.2.2.2.2.1 l hl).2.1, em, ep, pk_mul, nI_add, nI_add]
      have q7 : f_X7_leads 50 (G 2) (G 3) (G 4) (J 5) (nI s) = some (nI c2, upd (upd (upd (G 3) 0 (nI c2)) 1 (nI (m + (T 4 s + T 5 l)))) 2 (nI (p + T 6 l * (T 4 s + T 5 l))), ud', un') := by
        unfold f_X7_leads
        rw [m7, isS7 h7.2.1 (by omega), e7 50 (by omega), length7 hO h7 hs]
        simp only [Option.bind_some, b01i, q0, q1, q2, q3, show ((0 : Int32).toNatClampNeg) = 0 from rfl, show ((1 : Int32).toNatClampNeg) = 1 from rfl, show ((2 : Int32).toNatClampNeg) = 2 from rfl, show ((3 : Int32).toNatClampNeg) = 3 from rfl, n0, n3]
        rw [if_pos hx, if_neg (by decide), el, pace7 hO h7 hl, ec, over7 hO h7 hs (by omega), if_pos hat, ec2]
        simp only [Option.bind_some]
        rw [show ∀ (f : Nat → Int32) (a b : Int32), upd (upd f 0 a) 1 b 3 = f 3 from fun f a b => rfl, n3, el, fee7 hO h7 hl]
        simp only [Option.bind_some]
        rw [show ∀ (f : Nat → Int32) (a : Int32), upd f 0 a 1 = f 1 from fun f a => rfl, show ∀ (f : Nat → Int32) (a b : Int32), upd (upd f 0 a) 1 b 2 = f 2 from fun f a b => rfl, n1, n2, em, ep, nI_add, nI_add, pk_mul, nI_add]
        rfl
      exact ⟨_, 50, _, q6, q7, rfl, T, hO, h6, h7, ha, r1, ⟨⟨⟨c2, rfl, Or.inl hc2⟩, ⟨_, rfl, hm⟩, ⟨_, rfl, hp⟩, Or.inr ⟨l, hl, rfl⟩, by rw [if_neg (show ¬ T 0 0 = 0 by omega)]; rfl, rfl, rfl, n3.trans el⟩, hrows⟩, r3, r4, r5, r6, r7⟩
  · have q6 : f_X6_leads (I 7) (I 8) (F 3) (F 4) (F 5) (F 6) (F 7) (F 8) (I 18) (I 19) (I 20) (I 21) (I 22) (F 20) (F 21) (F 22) (F 23) x1 = some (-1, I 18, I 19, I 20, I 21, I 22, F 20, F 21, F 22, F 23) := by
      unfold f_X6_leads
      rw [h6.2.1, hasS6 (by omega)]
      simp only [Option.bind_some, b01i]
      rw [if_neg hx]
    have q7 : f_X7_leads 50 (G 2) (G 3) (G 4) (J 5) x1 = some (-1, G 3, G 4, J 5) := by
      unfold f_X7_leads
      rw [isS7 h7.2.1 (by omega)]
      simp only [Option.bind_some, b01i]
      rw [if_neg hx]
    exact ⟨_, 50, _, q6, q7, rfl, T, hO, h6, h7, ha, r1, h8', r3, r4, r5, r6, r7⟩
theorem st_alone : St_alone Sim := by
  intro I F as J G tr x1 h
  obtain ⟨T, hO, h6, h7, ha, r1, h8, r3, r4, r5, r6, r7⟩ := h
  have o2 := hO.2.1
  have h8' := h8
  obtain ⟨hr, k, hk, u6, u7, hj⟩ := h8
  obtain ⟨un', cs', ms', ps', ls', ud', e6, e7, hrows⟩ := tale_note h8'
  have q0 : ∀ {α : Type} (A : Option α), xb (0 : Int32) 4 A = A := fun A => xb_l (by decide)
  have q1 : ∀ {α : Type} (A : Option α), xb (1 : Int32) 4 A = A := fun A => xb_l (by decide)
  by_cases hx : 0 ≤ x1.toInt ∧ x1.toInt < T 0 1
  · obtain ⟨s, hs, rfl⟩ := of_in hx.1 hx.2
    obtain ⟨b, hb, m6, m7, hb1, -⟩ := mayGo_eq hO h6 h7 hr hs (fu := 50) (by omega)
    rcases hb with rfl | rfl
    · have q6 : f_X6_alone 50 (I 7) (I 9) (F 3) (F 4) (F 5) (F 10) (I 18) (I 19) (I 20) (I 21) (I 22) (F 20) (F 21) (F 22) (F 23) (nI s) = some (-2, I 18, I 19, I 20, I 21, I 22, F 20, F 21, F 22, F 23) := by
        unfold f_X6_alone
        rw [m6, h6.2.1, hasS6 (by omega)]
        simp only [Option.bind_some, b01i]
        rw [if_pos hx]
        rfl
      have q7 : f_X7_alone 50 (G 2) (G 3) (G 4) (J 5) (nI s) = some (-2, G 3, G 4, J 5) := by
        unfold f_X7_alone
        rw [m7, isS7 h7.2.1 (by omega)]
        simp only [Option.bind_some, b01i]
        rw [if_pos hx]
        rfl
      exact ⟨50, _, 50, _, q6, q7, rfl, T, hO, h6, h7, ha, r1, h8', r3, r4, r5, r6, r7⟩
    · obtain ⟨el, c, m, hc, ec, em, hat, hm⟩ := hb1 rfl
      obtain ⟨-, -, hp, -, n0, n1, n2, n3⟩ := hr
      rw [Nat.zero_add] at n1 n2 n3
      rw [if_neg (by omega)] at n0
      have os := hO.2.2.2.2.2.2.1 s hs
      have o1 := hO.1
      obtain ⟨c2, ec2, hc2⟩ : ∃ c2, (if T 2 s = c then T 3 s else T 2 s) = c2 ∧ c2 < T 0 0 := ⟨_, rfl, by split <;> omega⟩
      have q6 : f_X6_alone 50 (I 7) (I 9) (F 3) (F 4) (F 5) (F 10) (I 18) (I 19) (I 20) (I 21) (I 22) (F 20) (F 21) (F 22) (F 23) (nI s) = some (nI c2, nI c2, nI (m + T 4 s), I 20 + 0, -9, un', cs', ms', ps', ls') := by
        unfold f_X6_alone f_X1_step
        rw [m6, e6, h6.2.1, hasS6 (by omega)]
        simp only [Option.bind_some, b01i]
        rw [if_pos hx, if_neg (by decide), ec, acr6 hO h6 hs (by omega), ec2]
        simp only [Option.bind_some]
        rw [xb_nI _ (by omega) (by decide), cl s (by omega), (h6.2.2.2.2.2.2.1 s hs).2.2, em, nI_add]
      have q7 : f_X7_alone 50 (G 2) (G 3) (G 4) (J 5) (nI s) = some (nI c2, upd (upd (G 3) 0 (nI c2)) 1 (nI (m + T 4 s)), ud', un') := by
        unfold f_X7_alone
        rw [m7, isS7 h7.2.1 (by omega), e7 50 (by omega), length7 hO h7 hs]
        simp only [Option.bind_some, b01i, q0, q1, show ((0 : Int32).toNatClampNeg) = 0 from rfl, show ((1 : Int32).toNatClampNeg) = 1 from rfl, n0]
        rw [if_pos hx, if_neg (by decide), ec, over7 hO h7 hs (by omega), if_pos hat, ec2]
        simp only [Option.bind_some]
        rw [show ∀ (f : Nat → Int32) (a : Int32), upd f 0 a 1 = f 1 from fun f a => rfl, n1, em, nI_add]
        rfl
      refine ⟨50, _, 50, _, q6, q7, rfl, T, hO, h6, h7, ha, r1, ⟨⟨⟨c2, rfl, Or.inl hc2⟩, ⟨_, rfl, hm⟩, ?_, Or.inl rfl, by rw [if_neg (show ¬ T 0 0 = 0 by omega)]; rfl, rfl, ?_, n3.trans el⟩, hrows⟩, r3, r4, r5, r6, r7⟩
      · show ∃ k, I 20 + 0 = nI k ∧ k ≤ 99999
        rw [Int32.add_zero]; exact hp
      · show G 3 2 = I 20 + 0
        rw [Int32.add_zero]; exact n2
  · have q6 : f_X6_alone 50 (I 7) (I 9) (F 3) (F 4) (F 5) (F 10) (I 18) (I 19) (I 20) (I 21) (I 22) (F 20) (F 21) (F 22) (F 23) x1 = some (-1, I 18, I 19, I 20, I 21, I 22, F 20, F 21, F 22, F 23) := by
      unfold f_X6_alone
      rw [h6.2.1, hasS6 (by omega)]
      simp only [Option.bind_some, b01i]
      rw [if_neg hx]
    have q7 : f_X7_alone 50 (G 2) (G 3) (G 4) (J 5) x1 = some (-1, G 3, G 4, J 5) := by
      unfold f_X7_alone
      rw [isS7 h7.2.1 (by omega)]
      simp only [Option.bind_some, b01i]
      rw [if_neg hx]
    exact ⟨50, _, 50, _, q6, q7, rfl, T, hO, h6, h7, ha, r1, h8', r3, r4, r5, r6, r7⟩
