/-! the start -/
theorem plain7 {fu : Nat} (hf : 65 ≤ fu) (A : Nat → Int32) : ∃ A', f_X7_plain fu A = some A' ∧ A' 3 = 1 ∧ ∀ j, j < 64 → j ≠ 3 → A' j = 0 := by
  have h := fold_loop (fun q (A : Nat → Int32) x => f_X7_plain_L2 fu q A x) (fun A => some (upd A 3 1)) (fun x A => upd A x 0) (fun x A => ∀ j, j < x → A j = 0) 64 (by
    intro q x A hx hP
    refine ⟨?_, fun j hj => ?_⟩
    · show f_X7_plain_L2b fu (f_X7_plain_L2 fu q) A (nI x) = _
      unfold f_X7_plain_L2b
      rw [if_neg (by rw [show (64 : Int32) = nI 64 from rfl]; exact nI_ge (by omega) (by omega)), xb_nI _ hx (by decide), cl x (by omega), show nI x + 1 = nI (x + 1) from nI_add x 1]
    · unfold upd
      by_cases e : j = x
      · rw [if_pos e]
      · rw [if_neg e]
        exact hP j (by omega)) (by
    intro q A hP
    show f_X7_plain_L2b fu (f_X7_plain_L2 fu q) A (nI 64) = _
    unfold f_X7_plain_L2b
    rw [if_pos (by decide), xb_l (by decide)]
    rfl) 64 0 fu A (by omega) (by omega) (fun j hj => by omega)
  refine ⟨_, h.1, ?_, fun j hj hn => ?_⟩
  · unfold upd
    rw [if_pos rfl]
  · have := h.2 j hj
    unfold upd at this ⊢
    rw [if_neg hn]
    exact this
theorem takes7 {fu : Nat} (hf : 65 ≤ fu) (R tw nw kt : Nat → Int32) (a b c d : Int32) : ∃ tw' nw' kt', f_X7_takes fu R tw nw a b c d kt = some (tw', nw', 0, 0, 0, 0, kt') ∧ (∀ j, j < 64 → tw' j = R j) ∧ nw' 0 = (if R 0 = 0 then -9 else 0) ∧ nw' 1 = 0 ∧ nw' 2 = 0 ∧ nw' 3 = -9 ∧ kt' 0 = 0 ∧ kt' 46 = 0 := by
  have h := fold_loop (fun q (t : Nat → Int32) x => f_X7_takes_L2 fu q R t nw a b c d kt x) (fun t => some (t, upd (upd (upd (upd nw 0 (if t 0 = 0 then -9 else 0)) 1 0) 2 0) 3 (-9), 0, 0, 0, 0, upd (upd kt 0 0) 46 0)) (fun x t => upd t x (R x)) (fun x t => ∀ j, j < x → t j = R j) 64 (by
    intro q x t hx hP
    refine ⟨?_, fun j hj => ?_⟩
    · show f_X7_takes_L2b fu (f_X7_takes_L2 fu q) R t nw a b c d kt (nI x) = _
      unfold f_X7_takes_L2b
      rw [if_neg (by rw [show (64 : Int32) = nI 64 from rfl]; exact nI_ge (by omega) (by omega)), xb_nI _ hx (by decide), xb_nI _ hx (by decide), cl x (by omega), show nI x + 1 = nI (x + 1) from nI_add x 1]
    · unfold upd
      by_cases e : j = x
      · rw [if_pos e, e]
      · rw [if_neg e]
        exact hP j (by omega)) (by
    intro q t hP
    show f_X7_takes_L2b fu (f_X7_takes_L2 fu q) R t nw a b c d kt (nI 64) = _
    unfold f_X7_takes_L2b f_X7_takes_J46
    rw [if_pos (by decide), xb_l (by decide), show ((0 : Int32).toNatClampNeg) = 0 from rfl, show ((1 : Int32).toNatClampNeg) = 1 from rfl, show ((2 : Int32).toNatClampNeg) = 2 from rfl, show ((3 : Int32).toNatClampNeg) = 3 from rfl, show ((46 : Int32).toNatClampNeg) = 46 from rfl]
    have x0 : ∀ {α : Type} (A : Option α), xb (0 : Int32) 4 A = A := fun A => xb_l (by decide)
    have x1 : ∀ {α : Type} (A : Option α), xb (1 : Int32) 4 A = A := fun A => xb_l (by decide)
    have x2 : ∀ {α : Type} (A : Option α), xb (2 : Int32) 4 A = A := fun A => xb_l (by decide)
    have x3 : ∀ {α : Type} (A : Option α), xb (3 : Int32) 4 A = A := fun A => xb_l (by decide)
    have x4 : ∀ {α : Type} (A : Option α), xb (0 : Int32) 92 A = A := fun A => xb_l (by decide)
    have x5 : ∀ {α : Type} (A : Option α), xb (46 : Int32) 92 A = A := fun A => xb_l (by decide)
    simp only [x0, x1, x2, x3, x4, x5]
    by_cases e : t 0 = 0
    · rw [if_pos e, if_pos e]
    · rw [if_neg e, if_neg e]) 64 0 fu tw (by omega) (by omega) (fun j hj => by omega)
  refine ⟨_, _, _, h.1, h.2, ?_, rfl, rfl, rfl, rfl, rfl⟩
  have e := h.2 0 (by decide)
  rw [← e]
  rfl
/-- a fresh tale on both sides -/
theorem tale0 {T : Nat → Nat → Nat} {nw ud : Nat → Int32} {cs ms ps ls : Nat → Int32} (h0 : nw 0 = (if T 0 0 = 0 then -9 else 0)) (h1 : nw 1 = 0) (h2 : nw 2 = 0) (h3 : nw 3 = -9) : TaleS T 0 0 0 (-9) 0 cs ms ps ls nw 0 0 ud 0 :=
  ⟨⟨⟨0, rfl, by omega⟩, ⟨0, rfl, by omega⟩, ⟨0, rfl, by omega⟩, .inl rfl, h0, h1, h2, h3⟩, 0, by omega, rfl, rfl, fun j hj => by omega⟩
theorem sim_init : SimInit Sim := by
  obtain ⟨A, e1, a3, a0⟩ := plain7 (fu := 65) (Nat.le_refl _) (fun _ => 0)
  obtain ⟨tw, nw, kt, e2, ht, n0, n1, n2, n3, k0, k46⟩ := takes7 (fu := 65) (Nat.le_refl _) A (fun _ => 0) (fun _ => 0) (fun _ => 0) 0 0 0 0
  refine ⟨65, (A, tw, nw, 0, 0, 0, 0, kt), ?_, ?_⟩
  · unfold f_X7_init
    rw [e1, bnd, e2, bnd]
  · have t0 : ∀ j, j < 64 → j ≠ 3 → tw j = 0 := fun j hj hn => (ht j hj).trans (a0 j hj hn)
    refine ⟨fun a b => if a = 0 ∧ b = 4 then 1 else 0, ?_, ?_, ?_, rfl, ⟨0, by omega, rfl, rfl, fun k hk => by omega⟩, ?_, .inl ⟨rfl, k0⟩, .inl ⟨rfl, k46⟩, ⟨0, by omega, rfl, rfl, fun k hk => by omega⟩, ⟨0, by omega, rfl, rfl, fun k hk => by omega⟩, ⟨0, by omega, rfl, rfl, fun k hk => by omega⟩⟩
    · exact ⟨by decide, by decide, by decide, by decide, by decide, fun k hk => by simp at hk, fun k hk => by simp at hk, fun k hk => by simp at hk, fun k hk => by simp at hk⟩
    · exact ⟨rfl, rfl, rfl, rfl, rfl, fun k hk => by simp at hk, fun k hk => by simp at hk, fun k hk => by simp at hk, fun k hk => by simp at hk⟩
    · exact ⟨t0 0 (by decide) (by decide), t0 1 (by decide) (by decide), t0 2 (by decide) (by decide), (ht 3 (by decide)).trans a3, t0 4 (by decide) (by decide), fun k hk => by simp at hk, fun k hk => by simp at hk, fun k hk => by simp at hk, fun k hk => by simp at hk⟩
    · refine tale0 ?_ n1 n2 n3
      show nw 0 = _
      rw [n0, a0 0 (by decide) (by decide)]
      rfl
