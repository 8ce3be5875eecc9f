theorem back7 {w : Nat} {now ud kt : Nat → Int32} {un : Int32} (hw : w < 2) : f_X7_back 50 now ud un kt (nI w) = if kt (46 * w) = 0 then some (-2, now, ud, un) else some (cpR kt (46 * w + 2) 0 4 0 now 1, cpR kt (46 * w + 2) 0 4 0 now, cpR kt (46 * w + 6) 0 40 0 ud, kt (46 * w + 1)) := by
  unfold f_X7_back
  rw [in7n (nI w) 0 1 0 1 rfl rfl]
  simp only [Option.bind_some, b01i]
  rw [if_pos (by rw [tl w (by omega)]; omega), show (46 : Int32) = nI 46 from rfl, pk_mul, xb_nI _ (by omega) (by decide), show nI (46 * w) + 1 = nI (46 * w + 1) from nI_add _ 1, xb_nI _ (by omega) (by decide), cl _ (by omega), cl _ (by omega), back43 (by omega) (by omega) (by omega)]
/-- an image comes back -/
theorem img_back {T : Nat → Nat → Nat} {co mi pa le un : Int32} {cs ms ps ls c2 m2 p2 l2 now ud kt : Nat → Int32} {o : Nat} (h : TaleS T co mi pa le un cs ms ps ls kt (o + 2) (kt (o + 1)) kt (o + 6)) : TaleS T co mi pa le un (cp10 cs c2) (cp10 ms m2) (cp10 ps p2) (cp10 ls l2) (cpR kt (o + 2) 0 4 0 now) 0 (kt (o + 1)) (cpR kt (o + 6) 0 40 0 ud) 0 := by
  refine h.copy (fun i hi => ?_) rfl (fun j hj => ?_)
  · rw [cpR_at, if_pos (by omega)]
    congr 1
    omega
  · rw [cpR_at, if_pos (by omega)]
    congr 1
    omega
theorem st_back : St_back Sim := by
  intro I F as J G tr x1 h
  obtain ⟨T, hO, h6, h7, ha, r1, h8, r3, r4, r5⟩ := h
  by_cases hx : 0 ≤ x1.toInt ∧ x1.toInt ≤ 1
  · obtain ⟨w, hw, rfl⟩ : ∃ w : Nat, w < 2 ∧ x1 = nI w := of_in (by omega) (by omega)
    have q7 := back7 (now := G 3) (ud := G 4) (kt := G 22) (un := J 5) hw
    have q2 : ∀ {α : Type} (A : Option α), xb (nI w) 2 A = A := fun A => xb_nI A hw (by decide)
    have q6 : f_X6_back (F 0) (I 18) (I 19) (I 20) (I 21) (I 22) (F 20) (F 21) (F 22) (F 23) (I 31) (I 32) (I 33) (I 34) (I 35) (F 34) (F 35) (F 36) (F 37) (I 36) (I 37) (I 38) (I 39) (I 40) (F 38) (F 39) (F 40) (F 41) (nI w) = if F 0 w = 0 then some (-2, I 18, I 19, I 20, I 21, I 22, F 20, F 21, F 22, F 23) else (if nI w = 0 then some (I 32, I 31, I 32, I 33, I 34, I 35, cp10 (F 34) (F 20), cp10 (F 35) (F 21), cp10 (F 36) (F 22), cp10 (F 37) (F 23)) else some (I 37, I 36, I 37, I 38, I 39, I 40, cp10 (F 38) (F 20), cp10 (F 39) (F 21), cp10 (F 40) (F 22), cp10 (F 41) (F 23))) := by
      unfold f_X6_back
      rw [rng2, if_pos hx, become6, become6]
      simp only [q2, Option.bind_some, cl w (show w < 2 ^ 31 by omega)]
    rcases (show w = 0 ∨ w = 1 by omega) with rfl | rfl
    · rw [if_pos (show nI 0 = 0 from rfl)] at q6
      rcases r3 with ⟨k1, k2⟩ | ⟨k1, k2, k3⟩
      · rw [if_pos k1] at q6
        rw [if_pos k2] at q7
        exact ⟨_, 50, _, q6, q7, rfl, T, hO, h6, h7, ha, r1, h8, Or.inl ⟨k1, k2⟩, r4, r5⟩
      · rw [if_neg (by rw [k1]; decide)] at q6
        rw [if_neg (by rw [show 46 * 0 = 0 from rfl, k2]; decide)] at q7
        have h9 := img_back (c2 := F 20) (m2 := F 21) (p2 := F 22) (l2 := F 23) (now := G 3) (ud := G 4) k3
        exact ⟨_, 50, _, q6, q7, h9.1.2.2.2.2.2.1.symm, T, hO, h6, h7, ha, r1, h9, Or.inr ⟨k1, k2, k3⟩, r4, r5⟩
    · rw [if_neg (show ¬ nI 1 = 0 by decide)] at q6
      rcases r4 with ⟨k1, k2⟩ | ⟨k1, k2, k3⟩
      · rw [if_pos k1] at q6
        rw [if_pos k2] at q7
        exact ⟨_, 50, _, q6, q7, rfl, T, hO, h6, h7, ha, r1, h8, r3, Or.inl ⟨k1, k2⟩, r5⟩
      · rw [if_neg (by rw [k1]; decide)] at q6
        rw [if_neg (by rw [show 46 * 1 = 46 from rfl, k2]; decide)] at q7
        have h9 := img_back (c2 := F 20) (m2 := F 21) (p2 := F 22) (l2 := F 23) (now := G 3) (ud := G 4) k3
        exact ⟨_, 50, _, q6, q7, h9.1.2.2.2.2.2.1.symm, T, hO, h6, h7, ha, r1, h9, r3, Or.inr ⟨k1, k2, k3⟩, r5⟩
  · have q6 : f_X6_back (F 0) (I 18) (I 19) (I 20) (I 21) (I 22) (F 20) (F 21) (F 22) (F 23) (I 31) (I 32) (I 33) (I 34) (I 35) (F 34) (F 35) (F 36) (F 37) (I 36) (I 37) (I 38) (I 39) (I 40) (F 38) (F 39) (F 40) (F 41) x1 = some (-1, I 18, I 19, I 20, I 21, I 22, F 20, F 21, F 22, F 23) := by
      unfold f_X6_back
      rw [rng2, if_neg hx]
    have q7 : f_X7_back 50 (G 3) (G 4) (J 5) (G 22) x1 = some (-1, G 3, G 4, J 5) := by
      unfold f_X7_back
      rw [in7n x1 0 1 0 1 rfl rfl]
      simp only [Option.bind_some, b01i]
      rw [if_neg hx]
    exact ⟨_, 50, _, q6, q7, rfl, T, hO, h6, h7, ha, r1, h8, r3, r4, r5⟩
