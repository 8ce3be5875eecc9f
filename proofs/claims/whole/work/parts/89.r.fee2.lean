theorem popM : ∀ M, M < 128 → ∀ k, k < 7 → M.testBit k = false → nI (M ||| 2 ^ k) &&& (nI (2 ^ k) ^^^ -1) = nI M ∧ pc7 (M ||| 2 ^ k) = pc7 M + 1 := by decide +kernel
theorem pc7_le : ∀ M, M < 128 → pc7 M ≤ 7 := by decide +kernel
theorem pc7_all : ∀ M, M < 128 → pc7 M = 7 → ∀ k, k < 7 → M.testBit k = true := by decide +kernel
/-- one street of the reference's search may be gone on -/
def GoOn (T : Nat → Nat → Nat) (g c h M x : Nat) : Prop := (T 7 g).testBit x = true ∧ atS T x h ∧ M.testBit (acrS T x h) = false ∧ h ≠ c
/-- by one of the streets from x on -/
def ExD (T : Nat → Nat → Nat) (g c F k h sp M x : Nat) : Prop := ∃ s, x ≤ s ∧ s < T 0 1 ∧ GoOn T g c h M s ∧ LfD T g c F k (acrS T s h) (sp + T 4 s + T 5 g) M
def Cb : Nat → Nat
  | 0 => 0
  | k + 1 => 9 * (2 + Cb k) + 1
theorem downL : ∀ l, l < 7 → nI (l + 1) + (-1) = nI l := by decide +kernel
section FEE
variable {T : Nat → Nat → Nat} {tw : Nat → Int32}
theorem dfs_step (hO : TOk T) (h7 : TwB T tw) {fu n g c F l h s0 M x : Nat} {tr pl sp : Nat → Int32} (hg : g < T 0 2) (hc : c < T 0 0) (hF : F ≤ 999) (hl : l ≤ 6) (hh : h < T 0 0) (ep : pl l = nI h) (es : sp l = nI s0) (hs0 : s0 ≤ 14 * l) (et : tr l + 1 = nI x) (hM : M < 128) (hx : x < T 0 1) : (GoOn T g c h M x → f_X7_isFor_L46 fu (n + 1) tw tr pl sp (nI g) (nI c) (nI F) (nI l) (nI M) 0 = f_X7_isFor_L46 fu n tw (upd (upd tr l (nI x)) (l + 1) (-1)) (upd pl (l + 1) (nI (acrS T x h))) (upd sp (l + 1) (nI (s0 + T 4 x + T 5 g))) (nI g) (nI c) (nI F) (nI (l + 1)) (nI (M ||| 2 ^ acrS T x h)) (if acrS T x h = c ∧ T 6 g * (s0 + T 4 x + T 5 g) = F then 1 else 0)) ∧ (¬ GoOn T g c h M x → f_X7_isFor_L46 fu (n + 1) tw tr pl sp (nI g) (nI c) (nI F) (nI l) (nI M) 0 = f_X7_isFor_L46 fu n tw (upd tr l (nI x)) pl sp (nI g) (nI c) (nI F) (nI l) (nI M) 0) := by
  have o1 := hO.1
  have o2 := hO.2.1
  have o3 := hO.2.2.1
  have os := hO.2.2.2.2.2.2.1 x hx
  have og := hO.2.2.2.2.2.2.2.1 g hg
  have o9 := pw9 hO
  have hac := acrS_lt (c := h) hO hx
  have hfe : T 6 g * (s0 + T 4 x + T 5 g) ≤ 9 * 98 := Nat.mul_le_mul og.2.1 (by omega)
  have q8 : ∀ {α : Type} (A : Option α), xb (nI l) 8 A = A := fun A => xb_nI A (by omega) (by decide)
  have q9 : ∀ {α : Type} (A : Option α), xb (nI (l + 1)) 8 A = A := fun A => xb_nI A (by omega) (by decide)
  have q1 : ∀ {α : Type} (A : Option α), xb (1 : Int32) 64 A = A := fun A => xb_l (by decide)
  have us : ∀ (f : Nat → Int32) (i : Nat) (y : Int32), upd f i y i = y := fun f i y => by unfold upd; rw [if_pos rfl]
  have eb : f_X7_isFor_L46 fu (n + 1) tw tr pl sp (nI g) (nI c) (nI F) (nI l) (nI M) 0 = if T 2 x = h ∨ T 3 x = h then (if (T 7 g).testBit x then (if M.testBit (acrS T x h) then f_X7_isFor_L46 fu n tw (upd tr l (nI x)) pl sp (nI g) (nI c) (nI F) (nI l) (nI M) 0 else (if h = c then f_X7_isFor_L46 fu n tw (upd tr l (nI x)) pl sp (nI g) (nI c) (nI F) (nI l) (nI M) 0 else f_X7_isFor_L46 fu n tw (upd (upd tr l (nI x)) (l + 1) (-1)) (upd pl (l + 1) (nI (acrS T x h))) (upd sp (l + 1) (nI (s0 + T 4 x + T 5 g))) (nI g) (nI c) (nI F) (nI (l + 1)) (nI (M ||| 2 ^ acrS T x h)) (if acrS T x h = c ∧ T 6 g * (s0 + T 4 x + T 5 g) = F then 1 else 0))) else f_X7_isFor_L46 fu n tw (upd tr l (nI x)) pl sp (nI g) (nI c) (nI F) (nI l) (nI M) 0) else f_X7_isFor_L46 fu n tw (upd tr l (nI x)) pl sp (nI g) (nI c) (nI F) (nI l) (nI M) 0 := by
    show f_X7_isFor_L46b fu (f_X7_isFor_L46 fu n) tw tr pl sp (nI g) (nI c) (nI F) (nI l) (nI M) 0 = _
    unfold f_X7_isFor_L46b
    simp only [q8, q1, cl l (show l < 2 ^ 31 by omega), us, et, ep, show ((1 : Int32).toNatClampNeg) = 1 from rfl, h7.2.1, show nI l + 1 = nI (l + 1) from nI_add l 1, q9, cl (l + 1) (show l + 1 < 2 ^ 31 by omega), show nI (l + 1) - 1 = nI l from pk_sub (a := l + 1) (b := 1) (by omega), es]
    rw [if_neg (nI_pos (by omega)), if_pos trivial, eqE (by omega) (by omega), if_neg (by omega), over7 hO h7 hx (by omega), known7 hO h7 hg, length7 hO h7 hx, pace7 hO h7 hg, fee7 hO h7 hg]
    simp only [bnd]
    by_cases c1 : T 2 x = h ∨ T 3 x = h
    · rw [if_pos c1, if_pos c1, show (if T 2 x = h then T 3 x else T 2 x) = acrS T x h from rfl, if_neg (neg9 (by omega)), bit1 (by omega) (by omega), bit0 (by omega) (by omega), eqE (by omega) (by omega), eqE (by omega) (by omega), nI_add, nI_add, pk_mul, eqE (by omega) (by omega), oneShl (by omega), fa_or]
      by_cases c2 : (T 7 g).testBit x = true
      · rw [if_pos c2, if_pos c2]
        by_cases c3 : M.testBit (acrS T x h) = true
        · rw [if_pos c3, if_pos c3]
        · rw [if_neg c3, if_neg c3]
          by_cases c4 : h = c
          · rw [if_pos c4, if_pos c4]
          · rw [if_neg c4, if_neg c4]
            by_cases c5 : acrS T x h = c
            · rw [if_pos c5]
              by_cases c6 : T 6 g * (s0 + T 4 x + T 5 g) = F
              · rw [if_pos c6, if_pos ⟨c5, c6⟩]
              · rw [if_neg c6, if_neg (fun q => c6 q.2)]
            · rw [if_neg c5, if_neg (fun q => c5 q.1)]
      · rw [if_neg c2, if_neg c2]
    · rw [if_neg c1, if_neg c1, if_pos rfl]
  rw [eb]
  constructor
  · rintro ⟨a1, a2, a3, a4⟩
    rw [if_pos (show T 2 x = h ∨ T 3 x = h from a2), if_pos a1, if_neg (by rw [a3]; decide), if_neg a4]
  · intro hno
    by_cases c1 : T 2 x = h ∨ T 3 x = h
    · rw [if_pos c1]
      by_cases c2 : (T 7 g).testBit x = true
      · rw [if_pos c2]
        cases c3 : M.testBit (acrS T x h) with
        | true => rw [if_pos rfl]
        | false =>
          rw [if_neg (by decide)]
          by_cases c4 : h = c
          · rw [if_pos c4]
          · exact absurd ⟨c2, c1, c3, c4⟩ hno
      · rw [if_neg c2]
    · rw [if_neg c1]
theorem dfs_pop (hO : TOk T) (h7 : TwB T tw) {fu n g c F l h M : Nat} {tr pl sp : Nat → Int32} (hl : l ≤ 6) (hh : h < T 0 0) (ep : pl l = nI h) (et : tr l + 1 = nI (T 0 1)) : f_X7_isFor_L46 fu (n + 1) tw tr pl sp (nI g) (nI c) (nI F) (nI l) (nI M) 0 = f_X7_isFor_L46 fu n tw (upd tr l (nI (T 0 1))) pl sp (nI g) (nI c) (nI F) (nI l + (-1)) (nI M &&& (nI (2 ^ h) ^^^ -1)) 0 := by
  have o1 := hO.1
  have q8 : ∀ {α : Type} (A : Option α), xb (nI l) 8 A = A := fun A => xb_nI A (by omega) (by decide)
  have q1 : ∀ {α : Type} (A : Option α), xb (1 : Int32) 64 A = A := fun A => xb_l (by decide)
  have us : ∀ (f : Nat → Int32) (i : Nat) (y : Int32), upd f i y i = y := fun f i y => by unfold upd; rw [if_pos rfl]
  show f_X7_isFor_L46b fu (f_X7_isFor_L46 fu n) tw tr pl sp (nI g) (nI c) (nI F) (nI l) (nI M) 0 = _
  unfold f_X7_isFor_L46b
  simp only [q8, q1, cl l (show l < 2 ^ 31 by omega), us, et, ep, show ((1 : Int32).toNatClampNeg) = 1 from rfl, h7.2.1]
  rw [if_neg (nI_pos (by omega)), if_pos trivial, if_pos trivial, oneShl (by omega)]
theorem dfs_is {fu n g c F l : Nat} {tr pl sp : Nat → Int32} {x6 : Int32} (hl : l < 2 ^ 31) : f_X7_isFor_L46 fu (n + 1) tw tr pl sp (nI g) (nI c) (nI F) (nI l) x6 1 = some (1, tr, pl, sp) := by
  show f_X7_isFor_L46b fu (f_X7_isFor_L46 fu n) tw tr pl sp (nI g) (nI c) (nI F) (nI l) x6 1 = _
  unfold f_X7_isFor_L46b
  rw [if_neg (nI_pos hl), if_neg (by decide), xz_1]
/-- what the search from a place does within D turns -/
def Dfs (T : Nat → Nat → Nat) (tw : Nat → Int32) (fu g c F k D l : Nat) (tr pl sp : Nat → Int32) (h s0 M x : Nat) : Prop := (ExD T g c F k h s0 M x → ∃ a r, a ≤ D ∧ ∀ n, f_X7_isFor_L46 fu (n + a) tw tr pl sp (nI g) (nI c) (nI F) (nI l) (nI M) 0 = some ((1 : Int32), r)) ∧ (¬ ExD T g c F k h s0 M x → ∃ a tr' pl' sp', a ≤ D ∧ (∀ j, j < l → tr' j = tr j ∧ pl' j = pl j ∧ sp' j = sp j) ∧ ∀ n, f_X7_isFor_L46 fu (n + a) tw tr pl sp (nI g) (nI c) (nI F) (nI l) (nI M) 0 = f_X7_isFor_L46 fu n tw tr' pl' sp' (nI g) (nI c) (nI F) (nI l + (-1)) (nI M &&& (nI (2 ^ h) ^^^ -1)) 0)
theorem dfs_inner (hO : TOk T) (h7 : TwB T tw) {fu g c F k D : Nat} (hg : g < T 0 2) (hc : c < T 0 0) (hF : F ≤ 999) {l h M : Nat} (hl : l + k = 6) (hh : h < T 0 0) (hM : M < 128) (hpc : pc7 M = l + 1) (hchild : 0 < k → ∀ (tr pl sp : Nat → Int32) (h' s' M' : Nat), h' < T 0 0 → pl (l + 1) = nI h' → sp (l + 1) = nI s' → s' ≤ 14 * (l + 1) → tr (l + 1) + 1 = nI 0 → M' < 128 → pc7 M' = l + 2 → Dfs T tw fu g c F (k - 1) D (l + 1) tr pl sp h' s' M' 0) : ∀ (d x : Nat) (tr pl sp : Nat → Int32) (s0 : Nat), x + d = T 0 1 → pl l = nI h → sp l = nI s0 → s0 ≤ 14 * l → tr l + 1 = nI x → Dfs T tw fu g c F k (d * (2 + D) + 1) l tr pl sp h s0 M x := by
  have o1 := hO.1
  intro d
  induction d with
  | zero =>
    intro x tr pl sp s0 hx ep es hs et
    have e : x = T 0 1 := by omega
    subst e
    refine ⟨fun ⟨s, a, b, _⟩ => by omega, fun _ => ⟨1, upd tr l (nI (T 0 1)), pl, sp, by omega, fun j hj => ⟨by unfold upd; rw [if_neg (by omega)], rfl, rfl⟩, fun n => dfs_pop hO h7 (by omega) hh ep et⟩⟩
  | succ d ih =>
    intro x tr pl sp s0 hx ep es hs et
    have hxs : x < T 0 1 := by omega
    have os := hO.2.2.2.2.2.2.1 x hxs
    have og := hO.2.2.2.2.2.2.2.1 g hg
    have hac := acrS_lt (c := h) hO hxs
    have us : ∀ (f : Nat → Int32) (i : Nat) (y : Int32), upd f i y i = y := fun f i y => by unfold upd; rw [if_pos rfl]
    have un : ∀ (f : Nat → Int32) (i j : Nat) (y : Int32), j ≠ i → upd f i y j = f j := fun f i j y hj => by unfold upd; rw [if_neg hj]
    have hmul : (d + 1) * (2 + D) = d * (2 + D) + (2 + D) := Nat.succ_mul d (2 + D)
    by_cases go : GoOn T g c h M x
    · have st : ∀ n, _ := fun n => (dfs_step (fu := fu) (n := n) hO h7 hg hc hF (l := l) (by omega) hh ep es hs et hM hxs).1 go
      obtain ⟨a1, a2, a3, a4⟩ := go
      have hk : 0 < k := by
        apply Classical.byContradiction
        intro hk
        have := pc7_all M hM (by omega) (acrS T x h) (by omega)
        rw [this] at a3
        cases a3
      obtain ⟨k, rfl⟩ : ∃ j, k = j + 1 := ⟨k - 1, by omega⟩
      have hp := popM M hM (acrS T x h) (by omega) a3
      have hM' : M ||| 2 ^ acrS T x h < 128 := or_lt7 hM (by omega)
      by_cases win : acrS T x h = c ∧ T 6 g * (s0 + T 4 x + T 5 g) = F
      · refine ⟨fun _ => ⟨2, (upd (upd tr l (nI x)) (l + 1) (-1), upd pl (l + 1) (nI (acrS T x h)), upd sp (l + 1) (nI (s0 + T 4 x + T 5 g))), by omega, fun n => ?_⟩, fun hno => absurd ⟨x, by omega, hxs, ⟨a1, a2, a3, a4⟩, Or.inl win⟩ hno⟩
        rw [show n + 2 = (n + 1) + 1 from rfl, st, if_pos win, dfs_is (by omega)]
      · rw [if_neg win] at st
        have ch := hchild (by omega) (upd (upd tr l (nI x)) (l + 1) (-1)) (upd pl (l + 1) (nI (acrS T x h))) (upd sp (l + 1) (nI (s0 + T 4 x + T 5 g))) (acrS T x h) (s0 + T 4 x + T 5 g) (M ||| 2 ^ acrS T x h) hac (us _ _ _) (us _ _ _) (by omega) (by rw [us]; decide) hM' (by rw [hp.2]; omega)
        rw [show k + 1 - 1 = k from rfl] at ch
        have hiff : LfD T g c F (k + 1) (acrS T x h) (s0 + T 4 x + T 5 g) M ↔ ExD T g c F k (acrS T x h) (s0 + T 4 x + T 5 g) (M ||| 2 ^ acrS T x h) 0 := by
          constructor
          · rintro (q | ⟨q1, s, hs1, q2, q3, q4, q5⟩)
            · exact absurd q win
            · exact ⟨s, by omega, hs1, ⟨q2, q3, q4, q1⟩, q5⟩
          · rintro ⟨s, _, hs1, ⟨q2, q3, q4, q1⟩, q5⟩
            exact Or.inr ⟨q1, s, hs1, q2, q3, q4, q5⟩
        by_cases win2 : ExD T g c F k (acrS T x h) (s0 + T 4 x + T 5 g) (M ||| 2 ^ acrS T x h) 0
        · obtain ⟨a, r, ha, hr⟩ := ch.1 win2
          refine ⟨fun _ => ⟨a + 1, r, by omega, fun n => ?_⟩, fun hno => absurd ⟨x, by omega, hxs, ⟨a1, a2, a3, a4⟩, hiff.mpr win2⟩ hno⟩
          rw [show n + (a + 1) = (n + a) + 1 from rfl, st]
          exact hr n
        · obtain ⟨a, tr1, pl1, sp1, ha, hj, hr⟩ := ch.2 win2
          have hjl := hj l (by omega)
          have rest := ih (x + 1) tr1 pl1 sp1 s0 (by omega) (by rw [hjl.2.1, un _ _ _ _ (by omega)]; exact ep) (by rw [hjl.2.2, un _ _ _ _ (by omega)]; exact es) hs (by rw [hjl.1, un _ _ _ _ (by omega), us]; exact nI_add x 1)
          have chain : ∀ n, f_X7_isFor_L46 fu (n + (a + 1)) tw tr pl sp (nI g) (nI c) (nI F) (nI l) (nI M) 0 = f_X7_isFor_L46 fu n tw tr1 pl1 sp1 (nI g) (nI c) (nI F) (nI l) (nI M) 0 := by
            intro n
            rw [show n + (a + 1) = (n + a) + 1 from rfl, st, hr n, hp.1, downL l (by omega)]
          have hex : ExD T g c F (k + 1) h s0 M x ↔ ExD T g c F (k + 1) h s0 M (x + 1) := by
            constructor
            · rintro ⟨s, q1, q2, q3, q4⟩
              by_cases e : s = x
              · subst e
                exact absurd (hiff.mp q4) win2
              · exact ⟨s, by omega, q2, q3, q4⟩
            · rintro ⟨s, q1, q⟩
              exact ⟨s, by omega, q⟩
          refine ⟨fun hw => ?_, fun hno => ?_⟩
          · obtain ⟨a', r, ha', hr'⟩ := rest.1 (hex.mp hw)
            refine ⟨a' + (a + 1), r, by omega, fun n => ?_⟩
            rw [show n + (a' + (a + 1)) = (n + a') + (a + 1) by omega, chain]
            exact hr' n
          · obtain ⟨a', tr2, pl2, sp2, ha', hj', hr'⟩ := rest.2 (fun q => hno (hex.mpr q))
            refine ⟨a' + (a + 1), tr2, pl2, sp2, by omega, fun j hjl' => ?_, fun n => ?_⟩
            · obtain ⟨u1, u2, u3⟩ := hj' j hjl'
              obtain ⟨w1, w2, w3⟩ := hj j (by omega)
              rw [u1, u2, u3, w1, w2, w3, un _ _ _ _ (by omega), un _ _ _ _ (by omega), un _ _ _ _ (by omega), un _ _ _ _ (by omega)]
              exact ⟨rfl, rfl, rfl⟩
            · rw [show n + (a' + (a + 1)) = (n + a') + (a + 1) by omega, chain]
              exact hr' n
    · have st : ∀ n, _ := fun n => (dfs_step (fu := fu) (n := n) hO h7 hg hc hF (l := l) (by omega) hh ep es hs et hM hxs).2 go
      have rest := ih (x + 1) (upd tr l (nI x)) pl sp s0 (by omega) ep es hs (by rw [us]; exact nI_add x 1)
      have hex : ExD T g c F k h s0 M x ↔ ExD T g c F k h s0 M (x + 1) := by
        constructor
        · rintro ⟨s, q1, q2, q3, q4⟩
          by_cases e : s = x
          · subst e
            exact absurd q3 go
          · exact ⟨s, by omega, q2, q3, q4⟩
        · rintro ⟨s, q1, q⟩
          exact ⟨s, by omega, q⟩
      refine ⟨fun hw => ?_, fun hno => ?_⟩
      · obtain ⟨a', r, ha', hr'⟩ := rest.1 (hex.mp hw)
        refine ⟨a' + 1, r, by omega, fun n => ?_⟩
        rw [show n + (a' + 1) = (n + a') + 1 by omega, st]
        exact hr' n
      · obtain ⟨a', tr2, pl2, sp2, ha', hj', hr'⟩ := rest.2 (fun q => hno (hex.mpr q))
        refine ⟨a' + 1, tr2, pl2, sp2, by omega, fun j hjl' => ?_, fun n => ?_⟩
        · obtain ⟨u1, u2, u3⟩ := hj' j hjl'
          rw [u1, u2, u3, un _ _ _ _ (by omega)]
          exact ⟨rfl, rfl, rfl⟩
        · rw [show n + (a' + 1) = (n + a') + 1 by omega, st]
          exact hr' n
theorem dfs_all (hO : TOk T) (h7 : TwB T tw) {fu g c F : Nat} (hg : g < T 0 2) (hc : c < T 0 0) (hF : F ≤ 999) : ∀ (k l : Nat) (tr pl sp : Nat → Int32) (h s0 M : Nat), l + k = 6 → h < T 0 0 → pl l = nI h → sp l = nI s0 → s0 ≤ 14 * l → tr l + 1 = nI 0 → M < 128 → pc7 M = l + 1 → Dfs T tw fu g c F k (9 * (2 + Cb k) + 1) l tr pl sp h s0 M 0 := by
  have o2 := hO.2.1
  have mono : ∀ {k D D' l tr pl sp h s0 M x}, D ≤ D' → Dfs T tw fu g c F k D l tr pl sp h s0 M x → Dfs T tw fu g c F k D' l tr pl sp h s0 M x := by
    intro k D D' l tr pl sp h s0 M x hD hd
    refine ⟨fun q => ?_, fun q => ?_⟩
    · obtain ⟨a, r, ha, hr⟩ := hd.1 q
      exact ⟨a, r, by omega, hr⟩
    · obtain ⟨a, tr', pl', sp', ha, hr⟩ := hd.2 q
      exact ⟨a, tr', pl', sp', by omega, hr⟩
  intro k
  induction k with
  | zero =>
    intro l tr pl sp h s0 M hl hh ep es hs et hM hpc
    have := dfs_inner (fu := fu) (D := Cb 0) hO h7 hg hc hF (l := l) (h := h) (M := M) hl hh hM hpc (fun hk => absurd hk (by decide)) (T 0 1) 0 tr pl sp s0 (by omega) ep es hs et
    exact mono (by have := Nat.mul_le_mul_right (2 + Cb 0) o2; omega) this
  | succ k ih =>
    intro l tr pl sp h s0 M hl hh ep es hs et hM hpc
    have := dfs_inner (fu := fu) (D := Cb (k + 1)) hO h7 hg hc hF (l := l) (h := h) (M := M) hl hh hM hpc (fun _ tr' pl' sp' h' s' M' q1 q2 q3 q4 q5 q6 q7 => ih (l + 1) tr' pl' sp' h' s' M' (by omega) q1 q2 q3 q4 q5 q6 (by omega)) (T 0 1) 0 tr pl sp s0 (by omega) ep es hs et
    exact mono (by have := Nat.mul_le_mul_right (2 + Cb (k + 1)) o2; omega) this
theorem isFor7 (hO : TOk T) (h7 : TwB T tw) {fu g c F h : Nat} {tr pl sp : Nat → Int32} (hfu : Cb 7 + 2 ≤ fu) (hg : g < T 0 2) (hc : c < T 0 0) (hF : F ≤ 999) (hh : h < T 0 0) : ∃ (b : Bool) (r : (Nat → Int32) × (Nat → Int32) × (Nat → Int32)), f_X7_isFor fu tw tr pl sp (nI g) (nI h) (nI c) (nI F) = some (bi b, r) ∧ (b = true ↔ LfD T g c F 7 h 0 0) := by
  have o1 := hO.1
  have us : ∀ (f : Nat → Int32) (i : Nat) (y : Int32), upd f i y i = y := fun f i y => by unfold upd; rw [if_pos rfl]
  have q0 : ∀ {α : Type} (A : Option α), xb (0 : Int32) 8 A = A := fun A => xb_l (by decide)
  have hb : f_X7_isFor fu tw tr pl sp (nI g) (nI h) (nI c) (nI F) = f_X7_isFor_L46 fu fu tw (upd tr 0 (-1)) (upd pl 0 (nI h)) (upd sp 0 0) (nI g) (nI c) (nI F) (nI 0) (nI (2 ^ h)) (if h = c ∧ F = 0 then 1 else 0) := by
    unfold f_X7_isFor
    rw [q0, q0, q0, show ((0 : Int32).toNatClampNeg) = 0 from rfl, eqE (by omega) (by omega), if0 (by omega), oneShl (by omega)]
    by_cases c1 : h = c
    · rw [if_pos c1]
      by_cases c2 : F = 0
      · rw [if_pos c2, if_pos ⟨c1, c2⟩]
        rfl
      · rw [if_neg c2, if_neg (fun q => c2 q.2)]
        rfl
    · rw [if_neg c1, if_neg (fun q => c1 q.1)]
      rfl
  rw [hb]
  by_cases c1 : h = c ∧ F = 0
  · rw [if_pos c1]
    obtain ⟨f, hf⟩ : ∃ f, fu = f + 1 := ⟨fu - 1, by omega⟩
    refine ⟨true, (upd tr 0 (-1), upd pl 0 (nI h), upd sp 0 0), ?_, fun _ => Or.inl ⟨c1.1, by rw [c1.2]; rfl⟩, fun _ => rfl⟩
    conv => lhs; arg 2; rw [hf]
    exact dfs_is (by omega)
  · rw [if_neg c1]
    have hp := popM 0 (by decide) h (by omega) (Nat.zero_testBit _)
    rw [Nat.zero_or] at hp
    have hM : 2 ^ h < 128 := p2lt (n := 7) (by omega)
    have d := dfs_all (fu := fu) hO h7 hg hc hF 6 0 (upd tr 0 (-1)) (upd pl 0 (nI h)) (upd sp 0 0) h 0 (2 ^ h) (by omega) hh (us _ _ _) (us _ _ _) (by omega) (by rw [us]; decide) hM hp.2
    have hiff : LfD T g c F 7 h 0 0 ↔ ExD T g c F 6 h 0 (2 ^ h) 0 := by
      constructor
      · rintro (⟨q1, q2⟩ | ⟨q1, s, hs1, q2, q3, q4, q5⟩)
        · exact absurd ⟨q1, by omega⟩ c1
        · rw [Nat.zero_or] at q4 q5
          exact ⟨s, by omega, hs1, ⟨q2, q3, q4, q1⟩, q5⟩
      · rintro ⟨s, _, hs1, ⟨q2, q3, q4, q1⟩, q5⟩
        refine Or.inr ⟨q1, s, hs1, q2, q3, ?_⟩
        rw [Nat.zero_or]
        exact ⟨q4, q5⟩
    have hC : 9 * (2 + Cb 6) + 1 = Cb 7 := rfl
    rw [hC] at d
    by_cases w : ExD T g c F 6 h 0 (2 ^ h) 0
    · obtain ⟨a, r, ha, hr⟩ := d.1 w
      obtain ⟨m, hm⟩ : ∃ m, fu = m + a := ⟨fu - a, by omega⟩
      refine ⟨true, r, ?_, fun _ => hiff.mpr w, fun _ => rfl⟩
      conv => lhs; arg 2; rw [hm]
      exact hr m
    · obtain ⟨a, tr', pl', sp', ha, _, hr⟩ := d.2 w
      obtain ⟨m, hm⟩ : ∃ m, fu = m + 1 + a := ⟨fu - a - 1, by omega⟩
      refine ⟨false, (tr', pl', sp'), ?_, fun q => (by cases q), fun q => absurd (hiff.mp q) w⟩
      conv => lhs; arg 2; rw [hm]
      rw [hr (m + 1)]
      show f_X7_isFor_L46b fu (f_X7_isFor_L46 fu m) tw tr' pl' sp' (nI g) (nI c) (nI F) (nI 0 + (-1)) _ 0 = _
      unfold f_X7_isFor_L46b
      rw [if_pos (by decide), xz_0]
      rfl
end FEE
