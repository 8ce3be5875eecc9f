/-! now -/
def setR (b : Nat → Bool) : Nat → Nat → Int32 → Int32
  | _, 0, acc => acc
  | x, d + 1, acc => setR b (x + 1) d (if b x then acc ||| ((1 : Int32) <<< (nI x &&& 31)) else acc)
theorem setR_congr {b b' : Nat → Bool} : ∀ (d x : Nat) (acc : Int32), (∀ k, x ≤ k → k < x + d → b k = b' k) → setR b x d acc = setR b' x d acc := by
  intro d
  induction d with
  | zero => intro x acc h; rfl
  | succ d ih =>
    intro x acc h
    show setR b (x + 1) d _ = setR b' (x + 1) d _
    rw [h x (by omega) (by omega)]
    exact ih (x + 1) _ (fun k h1 h2 => h k (by omega) (by omega))
theorem skip4 {fu : Nat} {tw now : Nat → Int32} {x1 : Int32} (hf : 1 ≤ fu) (hx : ¬ x1 = 4) : f_X7_now fu tw now x1 = f_X7_now_L53 fu fu tw now x1 0 0 := by
  unfold f_X7_now
  obtain ⟨k, hk⟩ : ∃ k, fu = k + 1 := ⟨fu - 1, by omega⟩
  rw [show f_X7_now_L4 fu fu tw now x1 0 0 = f_X7_now_L4 fu (k + 1) tw now x1 0 0 from by rw [← hk]]
  show f_X7_now_L4b fu (f_X7_now_L4 fu k) tw now x1 0 0 = _
  unfold f_X7_now_L4b
  rw [xb_l (by decide), if_neg hx]
  split <;> rfl
theorem skip5 {fu n : Nat} {tw now : Nat → Int32} {x1 x2 : Int32} (hn : 1 ≤ n) (hx : ¬ x1 = 5) : f_X7_now_L53 fu n tw now x1 x2 0 = f_X7_now_J92 fu tw now x1 x2 := by
  obtain ⟨k, rfl⟩ : ∃ k, n = k + 1 := ⟨n - 1, by omega⟩
  show f_X7_now_L53b fu (f_X7_now_L53 fu k) tw now x1 x2 0 = _
  unfold f_X7_now_L53b
  rw [xb_l (by decide), if_neg hx]
  split <;> rfl
theorem j92_set {fu : Nat} {tw now : Nat → Int32} {x1 x2 : Int32} (h : 4 ≤ x1.toInt ∧ x1.toInt ≤ 5) : f_X7_now_J92 fu tw now x1 x2 = some x2 := by
  unfold f_X7_now_J92
  rw [in7n x1 0 3 0 3 rfl rfl, in7n x1 4 5 4 5 rfl rfl]
  simp only [Option.bind_some, b01i]
  rw [if_neg (by omega), if_pos h]
theorem j92_now {fu k : Nat} {tw now : Nat → Int32} {x2 : Int32} (h : k < 4) : f_X7_now_J92 fu tw now (nI k) x2 = some (now k) := by
  unfold f_X7_now_J92
  rw [in7n (nI k) 0 3 0 3 rfl rfl]
  simp only [Option.bind_some, b01i]
  rw [if_pos (by rw [tl k (by omega)]; omega), xb_nI _ h (by decide), cl _ (by omega)]
theorem j92_bad {fu : Nat} {tw now : Nat → Int32} {x1 x2 : Int32} (h : ¬ (0 ≤ x1.toInt ∧ x1.toInt ≤ 5)) : f_X7_now_J92 fu tw now x1 x2 = some (-1) := by
  unfold f_X7_now_J92
  rw [in7n x1 0 3 0 3 rfl rfl, in7n x1 4 5 4 5 rfl rfl]
  simp only [Option.bind_some, b01i]
  rw [if_neg (by omega), if_neg (by omega)]
theorem open6 {fu N : Nat} {ng nb co mi pd le x1 : Int32} {ea eb ln pa fe kn bl : Nat → Int32} {b : Nat → Bool} (hN : N < 2 ^ 30) (hb : ∀ s, s < N → (if x1 = 0 then f_X6_mayWalkAlone fu nb ea eb ln bl co mi le (nI s) else f_X6_mayBeLed (nI N) ng ea eb ln pa fe kn co mi pd le (nI s)) = some (bi (b s))) : ∀ (d x n : Nat) (acc : Int32), x + d = N → d < n → f_X6_streetsOpen_L22 fu n (nI N) ng nb ea eb ln pa fe kn bl co mi pd le x1 acc (nI x) = some (setR b x d acc) := by
  intro d
  induction d with
  | zero =>
    intro x n acc hx hn
    obtain ⟨k, rfl⟩ : ∃ k, n = k + 1 := ⟨n - 1, by omega⟩
    show f_X6_streetsOpen_L22b fu (f_X6_streetsOpen_L22 fu k) (nI N) ng nb ea eb ln pa fe kn bl co mi pd le x1 acc (nI x) = _
    unfold f_X6_streetsOpen_L22b
    rw [leE (by omega) (by omega), if_pos (by omega)]
    rfl
  | succ d ih =>
    intro x n acc hx hn
    obtain ⟨k, rfl⟩ : ∃ k, n = k + 1 := ⟨n - 1, by omega⟩
    show f_X6_streetsOpen_L22b fu (f_X6_streetsOpen_L22 fu k) (nI N) ng nb ea eb ln pa fe kn bl co mi pd le x1 acc (nI x) = _
    unfold f_X6_streetsOpen_L22b f_X6_streetsOpen_J56
    have h := hb x (by omega)
    rw [leE (by omega) (by omega), if_neg (by omega), show nI x + 1 = nI (x + 1) from nI_add x 1]
    have e : ∀ acc, f_X6_streetsOpen_L22 fu k (nI N) ng nb ea eb ln pa fe kn bl co mi pd le x1 acc (nI (x + 1)) = some (setR b (x + 1) d acc) := fun acc => ih (x + 1) k acc (by omega) (by omega)
    by_cases c : x1 = 0
    · rw [if_pos c] at h
      rw [if_pos c, h]
      simp only [Option.bind_some, bi0, e]
      show _ = some (setR b (x + 1) d (if b x then acc ||| ((1 : Int32) <<< (nI x &&& 31)) else acc))
      cases b x <;> rfl
    · rw [if_neg c] at h
      rw [if_neg c, h]
      simp only [Option.bind_some, bi0, e]
      show _ = some (setR b (x + 1) d (if b x then acc ||| ((1 : Int32) <<< (nI x &&& 31)) else acc))
      cases b x <;> rfl
theorem open7 {fu N : Nat} {tw now : Nat → Int32} {bl bg : Nat → Bool} (hN : N < 2 ^ 30) (ht : tw 1 = nI N) (hf : 1 ≤ fu) (h1 : ∀ s, s < N → f_X7_mayLead tw now (nI s) = some (bi (bl s))) (h2 : ∀ s, s < N → f_X7_mayGo fu tw now (nI s) = some (bi (bg s))) : ∀ (d x n : Nat) (acc : Int32), x + d = N → d < n → f_X7_now_L4 fu n tw now 4 acc (nI x) = some (setR (fun s => bl s || bg s) x d acc) := by
  intro d
  induction d with
  | zero =>
    intro x n acc hx hn
    obtain ⟨k, rfl⟩ : ∃ k, n = k + 1 := ⟨n - 1, by omega⟩
    show f_X7_now_L4b fu (f_X7_now_L4 fu k) tw now 4 acc (nI x) = _
    unfold f_X7_now_L4b
    rw [xb_l (by decide), show ((1 : Int32).toNatClampNeg) = 1 from rfl, ht, leE (by omega) (by omega), if_pos (by omega), skip5 hf (by decide), j92_set (by decide)]
    rfl
  | succ d ih =>
    intro x n acc hx hn
    obtain ⟨k, rfl⟩ : ∃ k, n = k + 1 := ⟨n - 1, by omega⟩
    show f_X7_now_L4b fu (f_X7_now_L4 fu k) tw now 4 acc (nI x) = _
    unfold f_X7_now_L4b f_X7_now_J36
    have e : ∀ acc, f_X7_now_L4 fu k tw now 4 acc (nI (x + 1)) = some (setR (fun s => bl s || bg s) (x + 1) d acc) := fun acc => ih (x + 1) k acc (by omega) (by omega)
    rw [xb_l (by decide), show ((1 : Int32).toNatClampNeg) = 1 from rfl, ht, leE (by omega) (by omega), if_neg (by omega), if_pos rfl, h1 x (by omega), h2 x (by omega), show nI x + 1 = nI (x + 1) from nI_add x 1]
    simp only [Option.bind_some, bi0, e, Int32.or_zero]
    show _ = some (setR (fun s => bl s || bg s) (x + 1) d (if bl x || bg x then acc ||| ((1 : Int32) <<< (nI x &&& 31)) else acc))
    cases bl x <;> cases bg x <;> rfl
theorem hire6 {fu N : Nat} {nc hd co mi le : Int32} {hi : Nat → Int32} {b : Nat → Bool} (hN : N < 2 ^ 30) (hb : ∀ g, g < N → f_X6_mayHire nc (nI N) hd hi co mi le (nI g) = some (bi (b g))) : ∀ (d x n : Nat) (acc : Int32), x + d = N → d < n → f_X6_guidesToHire_L4 fu n nc (nI N) hd hi co mi le acc (nI x) = some (setR b x d acc) := by
  intro d
  induction d with
  | zero =>
    intro x n acc hx hn
    obtain ⟨k, rfl⟩ : ∃ k, n = k + 1 := ⟨n - 1, by omega⟩
    show f_X6_guidesToHire_L4b fu (f_X6_guidesToHire_L4 fu k) nc (nI N) hd hi co mi le acc (nI x) = _
    unfold f_X6_guidesToHire_L4b
    rw [leE (by omega) (by omega), if_pos (by omega)]
    rfl
  | succ d ih =>
    intro x n acc hx hn
    obtain ⟨k, rfl⟩ : ∃ k, n = k + 1 := ⟨n - 1, by omega⟩
    show f_X6_guidesToHire_L4b fu (f_X6_guidesToHire_L4 fu k) nc (nI N) hd hi co mi le acc (nI x) = _
    unfold f_X6_guidesToHire_L4b
    have e : ∀ acc, f_X6_guidesToHire_L4 fu k nc (nI N) hd hi co mi le acc (nI (x + 1)) = some (setR b (x + 1) d acc) := fun acc => ih (x + 1) k acc (by omega) (by omega)
    rw [leE (by omega) (by omega), if_neg (by omega), hb x (by omega), show nI x + 1 = nI (x + 1) from nI_add x 1]
    simp only [Option.bind_some, bi0, e]
    show _ = some (setR b (x + 1) d (if b x then acc ||| ((1 : Int32) <<< (nI x &&& 31)) else acc))
    cases b x <;> rfl
theorem hire7 {fu N : Nat} {tw now : Nat → Int32} {b : Nat → Bool} (hN : N < 2 ^ 30) (ht : tw 2 = nI N) (hb : ∀ g, g < N → f_X7_mayHire tw now (nI g) = some (bi (b g))) : ∀ (d x n : Nat) (acc : Int32), x + d = N → d < n → f_X7_now_L53 fu n tw now 5 acc (nI x) = some (setR b x d acc) := by
  intro d
  induction d with
  | zero =>
    intro x n acc hx hn
    obtain ⟨k, rfl⟩ : ∃ k, n = k + 1 := ⟨n - 1, by omega⟩
    show f_X7_now_L53b fu (f_X7_now_L53 fu k) tw now 5 acc (nI x) = _
    unfold f_X7_now_L53b
    rw [xb_l (by decide), show ((2 : Int32).toNatClampNeg) = 2 from rfl, ht, leE (by omega) (by omega), if_pos (by omega), j92_set (by decide)]
    rfl
  | succ d ih =>
    intro x n acc hx hn
    obtain ⟨k, rfl⟩ : ∃ k, n = k + 1 := ⟨n - 1, by omega⟩
    show f_X7_now_L53b fu (f_X7_now_L53 fu k) tw now 5 acc (nI x) = _
    unfold f_X7_now_L53b
    have e : ∀ acc, f_X7_now_L53 fu k tw now 5 acc (nI (x + 1)) = some (setR b (x + 1) d acc) := fun acc => ih (x + 1) k acc (by omega) (by omega)
    rw [xb_l (by decide), show ((2 : Int32).toNatClampNeg) = 2 from rfl, ht, leE (by omega) (by omega), if_neg (by omega), if_pos rfl, hb x (by omega), show nI x + 1 = nI (x + 1) from nI_add x 1]
    simp only [Option.bind_some, bi0, e, Int32.or_zero]
    show _ = some (setR b (x + 1) d (if b x then acc ||| ((1 : Int32) <<< (nI x &&& 31)) else acc))
    cases b x <;> rfl
theorem bi_of {b : Int32} (h : b = 0 ∨ b = 1) : b = bi (decide (b = 1)) := by
  rcases h with rfl | rfl <;> rfl
theorem st_now : St_now Sim := by
  intro I F as J G tr x1 h
  obtain ⟨T, hO, h6, h7, ha, r1, h8, r3⟩ := h
  have hs : Sim I F as J G tr := ⟨T, hO, h6, h7, ha, r1, h8, r3⟩
  obtain ⟨hr, -⟩ := h8
  have hr' := hr
  obtain ⟨hc, hm, hp, hl, n0, n1, n2, n3⟩ := hr
  rw [Nat.zero_add] at n1 n2 n3
  have o1 := hO.1
  have o2 := hO.2.1
  have o3 := hO.2.2.1
  by_cases c4 : x1 = 4
  · subst c4
    -- the streets
    have key : ∃ b bl bg : Nat → Bool, (∀ s, s < T 0 1 → (if (if I 21 = -9 then (0 : Int32) else 1) = 0 then f_X6_mayWalkAlone 50 (I 9) (F 3) (F 4) (F 5) (F 10) (I 18) (I 19) (I 21) (nI s) else f_X6_mayBeLed (nI (T 0 1)) (I 8) (F 3) (F 4) (F 5) (F 6) (F 7) (F 8) (I 18) (I 19) (I 20) (I 21) (nI s)) = some (bi (b s))) ∧ (∀ s, s < T 0 1 → f_X7_mayLead (G 2) (G 3) (nI s) = some (bi (bl s))) ∧ (∀ s, s < T 0 1 → f_X7_mayGo 50 (G 2) (G 3) (nI s) = some (bi (bg s))) ∧ ∀ s, s < T 0 1 → b s = (bl s || bg s) := by
      refine ⟨fun s => decide (f_X7_mayLead (G 2) (G 3) (nI s) = some 1) || decide (f_X7_mayGo 50 (G 2) (G 3) (nI s) = some 1), fun s => decide (f_X7_mayLead (G 2) (G 3) (nI s) = some 1), fun s => decide (f_X7_mayGo 50 (G 2) (G 3) (nI s) = some 1), ?_, ?_, ?_, fun s _ => rfl⟩
      · intro s hs
        obtain ⟨b1, hb1, m6, m7, -, hz1⟩ := mayLead_eq hO h6 h7 hr' hs
        obtain ⟨b2, hb2, g6, g7, -, hz2⟩ := mayGo_eq hO h6 h7 hr' hs (fu := 50) (by omega)
        dsimp only
        rw [m7, g7]
        by_cases e : I 21 = -9
        · rw [if_pos e, if_pos rfl, g6, hz1 e]
          rcases hb2 with rfl | rfl <;> rfl
        · rw [if_neg e, if_neg (by decide), ← h6.2.1, m6, hz2 e]
          rcases hb1 with rfl | rfl <;> rfl
      · intro s hs
        obtain ⟨b1, hb1, m6, m7, -, hz1⟩ := mayLead_eq hO h6 h7 hr' hs
        show _ = some (bi (decide (f_X7_mayLead (G 2) (G 3) (nI s) = some 1)))
        rw [m7]
        rcases hb1 with rfl | rfl <;> rfl
      · intro s hs
        obtain ⟨b2, hb2, g6, g7, -, hz2⟩ := mayGo_eq hO h6 h7 hr' hs (fu := 50) (by omega)
        show _ = some (bi (decide (f_X7_mayGo 50 (G 2) (G 3) (nI s) = some 1)))
        rw [g7]
        rcases hb2 with rfl | rfl <;> rfl
    obtain ⟨b, bl, bg, k1, k2, k3, k4⟩ := key
    have q6 : f_X6_now 50 (I 6) (I 7) (I 8) (I 9) (I 10) (F 3) (F 4) (F 5) (F 6) (F 7) (F 8) (F 9) (F 10) (I 18) (I 19) (I 20) (I 21) 4 = some (setR b 0 (T 0 1) 0) := by
      unfold f_X6_now f_X6_streetsOpen
      rw [if_neg (by decide), if_neg (by decide), if_neg (by decide), if_neg (by decide), if_pos rfl]
      have := open6 (fu := 50) (N := T 0 1) (x1 := if I 21 = -9 then (0 : Int32) else 1) (by omega) k1 (T 0 1) 0 50 0 (by omega) (by omega)
      rw [← h6.2.1] at this
      by_cases e : I 21 = -9
      · rw [if_pos e] at this
        rw [if_pos e, show (0 : Int32) = nI 0 from rfl] at *
        rw [this]
        rfl
      · rw [if_neg e] at this
        rw [if_neg e, show f_X6_streetsOpen_L22 50 50 (I 7) (I 8) (I 9) (F 3) (F 4) (F 5) (F 6) (F 7) (F 8) (F 10) (I 18) (I 19) (I 20) (I 21) 1 0 0 = some (setR b 0 (T 0 1) 0) from this]
        rfl
    have q7 : f_X7_now 50 (G 2) (G 3) 4 = some (setR b 0 (T 0 1) 0) := by
      unfold f_X7_now
      rw [setR_congr (b := b) (b' := fun s => bl s || bg s) _ _ _ (fun k _ h => k4 k (by omega))]
      exact open7 (by omega) h7.2.1 (by omega) k2 k3 (T 0 1) 0 50 0 (by omega) (by omega)
    exact ⟨50, _, 50, _, q6, q7, rfl, hs⟩
  · by_cases c5 : x1 = 5
    · subst c5
      have key : ∃ b : Nat → Bool, (∀ g, g < T 0 2 → f_X6_mayHire (I 6) (nI (T 0 2)) (I 10) (F 9) (I 18) (I 19) (I 21) (nI g) = some (bi (b g))) ∧ ∀ g, g < T 0 2 → f_X7_mayHire (G 2) (G 3) (nI g) = some (bi (b g)) := by
        refine ⟨fun g => decide (f_X7_mayHire (G 2) (G 3) (nI g) = some 1), ?_, ?_⟩
        · intro g hg
          obtain ⟨b1, hb1, m6, m7, -⟩ := mayHire_eq hO h6 h7 hr' hg
          show _ = some (bi (decide (f_X7_mayHire (G 2) (G 3) (nI g) = some 1)))
          rw [m7, ← h6.2.2.1, m6]
          rcases hb1 with rfl | rfl <;> rfl
        · intro g hg
          obtain ⟨b1, hb1, m6, m7, -⟩ := mayHire_eq hO h6 h7 hr' hg
          show _ = some (bi (decide (f_X7_mayHire (G 2) (G 3) (nI g) = some 1)))
          rw [m7]
          rcases hb1 with rfl | rfl <;> rfl
      obtain ⟨b, k1, k2⟩ := key
      have q6 : f_X6_now 50 (I 6) (I 7) (I 8) (I 9) (I 10) (F 3) (F 4) (F 5) (F 6) (F 7) (F 8) (F 9) (F 10) (I 18) (I 19) (I 20) (I 21) 5 = some (setR b 0 (T 0 2) 0) := by
        unfold f_X6_now f_X6_guidesToHire
        rw [if_neg (by decide), if_neg (by decide), if_neg (by decide), if_neg (by decide), if_neg (by decide), if_pos rfl]
        have := hire6 (fu := 50) (N := T 0 2) (by omega) k1 (T 0 2) 0 50 0 (by omega) (by omega)
        rw [← h6.2.2.1] at this
        rw [show f_X6_guidesToHire_L4 50 50 (I 6) (I 8) (I 10) (F 9) (I 18) (I 19) (I 21) 0 0 = some (setR b 0 (T 0 2) 0) from this]
        rfl
      have q7 : f_X7_now 50 (G 2) (G 3) 5 = some (setR b 0 (T 0 2) 0) := by
        rw [skip4 (by omega) (by decide)]
        exact hire7 (by omega) h7.2.2.1 k2 (T 0 2) 0 50 0 (by omega) (by omega)
      exact ⟨50, _, 50, _, q6, q7, rfl, hs⟩
    · have q7 : f_X7_now 50 (G 2) (G 3) x1 = f_X7_now_J92 50 (G 2) (G 3) x1 0 := by
        rw [skip4 (by omega) c4, skip5 (by omega) c5]
      by_cases c0 : x1 = 0
      · subst c0
        have q8 := q7.trans (j92_now (k := 0) (by omega))
        by_cases z : T 0 0 = 0
        · rw [if_pos z] at n0
          refine ⟨50, -9, 50, _, ?_, q8, n0.symm, hs⟩
          unfold f_X6_now
          rw [if_pos rfl, h6.1, z, if_pos (by decide)]
        · rw [if_neg z] at n0
          refine ⟨50, I 18, 50, _, ?_, q8, n0.symm, hs⟩
          unfold f_X6_now
          rw [if_pos rfl, h6.1, if_neg (nI_nle (by omega) (by omega))]
      · by_cases c1 : x1 = 1
        · subst c1
          have q8 := q7.trans (j92_now (k := 1) (by omega))
          exact ⟨50, _, 50, _, rfl, q8, n1.symm, hs⟩
        · by_cases c2 : x1 = 2
          · subst c2
            have q8 := q7.trans (j92_now (k := 2) (by omega))
            exact ⟨50, _, 50, _, rfl, q8, n2.symm, hs⟩
          · by_cases c3 : x1 = 3
            · subst c3
              have q8 := q7.trans (j92_now (k := 3) (by omega))
              exact ⟨50, _, 50, _, rfl, q8, n3.symm, hs⟩
            · have q8 := q7.trans (j92_bad (fun q => by
                obtain ⟨k, hk, rfl⟩ : ∃ k : Nat, k < 6 ∧ x1 = nI k := of_in q.1 (by omega)
                rcases (show k = 0 ∨ k = 1 ∨ k = 2 ∨ k = 3 ∨ k = 4 ∨ k = 5 by omega) with rfl | rfl | rfl | rfl | rfl | rfl
                · exact c0 rfl
                · exact c1 rfl
                · exact c2 rfl
                · exact c3 rfl
                · exact c4 rfl
                · exact c5 rfl))
              refine ⟨50, -1, 50, _, ?_, q8, rfl, hs⟩
              unfold f_X6_now
              rw [if_neg c0, if_neg c1, if_neg c2, if_neg c3, if_neg c4, if_neg c5]
