/-! falseMark -/
/-- only the corner c is told falsely: all that was felt there is o -/
def OnlyF (T : Nat → Nat → Nat) (n : Nat) (w m : Nat → Nat) (c : Nat) : Prop := ∃ o, o ≠ T 1 c ∧ (∃ k, k < n ∧ w k = c) ∧ ∀ k, k < n → (w k = c → m k = o) ∧ (w k ≠ c → m k = T 1 (w k))
theorem feltN {a : Nat → Int32} {n M : Nat} {f : Nat → Int32} (h : ∀ k, k < n → ∃ b, b < M ∧ a k = nI b ∧ f k = nI b) (hM : M < 2 ^ 31) : ∀ k, k < n → (a k).toNatClampNeg < M ∧ a k = nI (a k).toNatClampNeg ∧ f k = nI (a k).toNatClampNeg := by
  intro k hk
  obtain ⟨b, hb, e1, e2⟩ := h k hk
  rw [e1, cl b (by omega)]
  exact ⟨hb, rfl, e2⟩
section FALSEM
variable {T : Nat → Nat → Nat} {nc ns ng nb hd : Int32} {mk ea eb ln pa fe kn hi bl tw : Nat → Int32} {n : Nat} {w m : Nat → Nat} {fm wc : Nat → Int32}
theorem onlyF6 (hO : TOk T) (h6 : TwA T nc ns ng nb hd mk ea eb ln pa fe kn hi bl) (hn : n ≤ 6) (hw : ∀ k, k < n → w k < T 0 0 ∧ wc k = nI (w k)) (hm : ∀ k, k < n → m k < 4 ∧ fm k = nI (m k)) {c fu : Nat} (hc : c < T 0 0) : ∀ (d x q : Nat) (z : Int32), x + d = n → d < q → (∀ k, k < x → w k ≠ c → m k = T 1 (w k)) → ((z = -9 ∧ ∀ k, k < x → w k ≠ c) ∨ ∃ o, o < 4 ∧ z = nI o ∧ o ≠ T 1 c ∧ (∃ k, k < x ∧ w k = c) ∧ ∀ k, k < x → w k = c → m k = o) → ∃ b : Bool, f_X3_isOnlyFalse_L6 fu q (nI n) (nI n) fm wc mk (nI c) z (nI x) = some (bi b) ∧ (b = true ↔ OnlyF T n w m c) := by
  have o1 := hO.1
  intro d
  induction d with
  | zero =>
    intro x q z hx hq h1 h2
    obtain ⟨q, rfl⟩ : ∃ k, q = k + 1 := ⟨q - 1, by omega⟩
    have e : x = n := by omega
    subst e
    have hs : f_X3_isOnlyFalse_L6 fu (q + 1) (nI x) (nI x) fm wc mk (nI c) z (nI x) = if z = -9 then some 0 else some 1 := by
      show f_X3_isOnlyFalse_L6b fu (f_X3_isOnlyFalse_L6 fu q) (nI x) (nI x) fm wc mk (nI c) z (nI x) = _
      unfold f_X3_isOnlyFalse_L6b f_X3_isOnlyFalse_J108
      rw [leE (by omega) (by omega), if_pos (Nat.le_refl x)]
    rw [hs]
    rcases h2 with ⟨rfl, h2⟩ | ⟨o, ho, rfl, ho1, ho2, ho3⟩
    · refine ⟨false, by rw [if_pos rfl]; rfl, fun e => (by cases e), fun ⟨o, _, ⟨k, hk, e⟩, _⟩ => absurd e (h2 k hk)⟩
    · refine ⟨true, by rw [if_neg (neg9 (by omega))]; rfl, fun _ => ⟨o, ho1, ho2, fun k hk => ⟨ho3 k hk, h1 k hk⟩⟩, fun _ => rfl⟩
  | succ d ih =>
    intro x q z hx hq h1 h2
    obtain ⟨q, rfl⟩ : ∃ k, q = k + 1 := ⟨q - 1, by omega⟩
    have hwx := hw x (by omega)
    have hmx := hm x (by omega)
    have hmk := hO.2.2.2.2.2.1 (w x) hwx.1
    have q6 : ∀ {α : Type} (A : Option α), xb (nI x) 6 A = A := fun A => xb_nI A (by omega) (by decide)
    have q7 : ∀ {α : Type} (A : Option α), xb (nI (w x)) 7 A = A := fun A => xb_nI A (by omega) (by decide)
    have hs : f_X3_isOnlyFalse_L6 fu (q + 1) (nI n) (nI n) fm wc mk (nI c) z (nI x) = if w x = c then (if m x = T 1 (w x) then some 0 else (if z = -9 then f_X3_isOnlyFalse_L6 fu q (nI n) (nI n) fm wc mk (nI c) (nI (m x)) (nI (x + 1)) else (if nI (m x) = z then f_X3_isOnlyFalse_L6 fu q (nI n) (nI n) fm wc mk (nI c) (nI (m x)) (nI (x + 1)) else some 0))) else (if m x = T 1 (w x) then f_X3_isOnlyFalse_L6 fu q (nI n) (nI n) fm wc mk (nI c) z (nI (x + 1)) else some 0) := by
      show f_X3_isOnlyFalse_L6b fu (f_X3_isOnlyFalse_L6 fu q) (nI n) (nI n) fm wc mk (nI c) z (nI x) = _
      unfold f_X3_isOnlyFalse_L6b f_X3_isOnlyFalse_J94
      simp only [q6, cl x (show x < 2 ^ 31 by omega), hwx.2, hmx.2, q7, cl (w x) (show w x < 2 ^ 31 by omega), h6.2.2.2.2.2.1 (w x) hwx.1, show nI x + 1 = nI (x + 1) from nI_add x 1]
      rw [if_neg (nI_ge (by omega) (by omega)), if_neg (nI_ge (by omega) (by omega)), eqE (by omega) (by omega), eqE (by omega) (by omega), eqE (by omega) (by omega)]
    rw [hs]
    by_cases e1 : w x = c
    · rw [if_pos e1]
      by_cases e2 : m x = T 1 (w x)
      · rw [if_pos e2]
        refine ⟨false, rfl, fun e => (by cases e), fun ⟨o, ho, _, h⟩ => absurd ((h x (by omega)).1 e1) (fun q => ho (by rw [← q, e2, e1]))⟩
      · rw [if_neg e2]
        rcases h2 with ⟨rfl, h2⟩ | ⟨o, ho, rfl, ho1, ho2, ho3⟩
        · rw [if_pos rfl]
          refine ih (x + 1) q _ (by omega) (by omega) (fun k hk hne => ?_) (Or.inr ⟨m x, hmx.1, rfl, fun q => e2 (by rw [q, e1]), ⟨x, by omega, e1⟩, fun k hk hke => ?_⟩)
          · by_cases e : k = x
            · exact absurd (e ▸ e1) hne
            · exact h1 k (by omega) hne
          · by_cases e : k = x
            · rw [e]
            · exact absurd hke (h2 k (by omega))
        · rw [if_neg (neg9 (by omega)), eqE (by omega) (by omega)]
          by_cases e3 : m x = o
          · rw [if_pos e3]
            refine ih (x + 1) q _ (by omega) (by omega) (fun k hk hne => ?_) (Or.inr ⟨m x, hmx.1, rfl, fun q => e2 (by rw [q, e1]), ⟨x, by omega, e1⟩, fun k hk hke => ?_⟩)
            · by_cases e : k = x
              · exact absurd (e ▸ e1) hne
              · exact h1 k (by omega) hne
            · by_cases e : k = x
              · rw [e]
              · rw [e3]
                exact ho3 k (by omega) hke
          · rw [if_neg e3]
            obtain ⟨k, hk, hkc⟩ := ho2
            refine ⟨false, rfl, fun e => (by cases e), fun ⟨o', _, _, h⟩ => absurd ?_ e3⟩
            rw [(h x (by omega)).1 e1, ← (h k (by omega)).1 hkc, ho3 k hk hkc]
    · rw [if_neg e1]
      by_cases e2 : m x = T 1 (w x)
      · rw [if_pos e2]
        refine ih (x + 1) q _ (by omega) (by omega) (fun k hk hne => ?_) ?_
        · by_cases e : k = x
          · rw [e]; exact e2
          · exact h1 k (by omega) hne
        · rcases h2 with ⟨rfl, h2⟩ | ⟨o, ho, rfl, ho1, ⟨k, hk, hkc⟩, ho3⟩
          · refine Or.inl ⟨rfl, fun k hk => ?_⟩
            by_cases e : k = x
            · rw [e]; exact e1
            · exact h2 k (by omega)
          · refine Or.inr ⟨o, ho, rfl, ho1, ⟨k, by omega, hkc⟩, fun j hj hjc => ?_⟩
            by_cases e : j = x
            · exact absurd (e ▸ hjc) e1
            · exact ho3 j (by omega) hjc
      · rw [if_neg e2]
        exact ⟨false, rfl, fun e => (by cases e), fun ⟨o', _, _, h⟩ => absurd ((h x (by omega)).2 e1) e2⟩
/-- the reference's last look -/
theorem fm124 (hn : n ≤ 6) (hw : ∀ k, k < n → w k < 7 ∧ wc k = nI (w k)) (hm : ∀ k, k < n → m k < 4 ∧ fm k = nI (m k)) {c o fu : Nat} {un : Int32} (hc : c < 7) (ho : o < 4) : ∀ (d x q : Nat), x + d = n → d < q → ∃ b : Bool, f_X7_falseMark_L124 fu q tw (nI n) fm un wc (nI c) (nI o) 1 (nI x) = some (if b then nI (2 ^ c) else 0) ∧ (b = true ↔ ∀ k, x ≤ k → k < n → w k = c → m k = o) := by
  intro d
  induction d with
  | zero =>
    intro x q hx hq
    obtain ⟨q, rfl⟩ : ∃ k, q = k + 1 := ⟨q - 1, by omega⟩
    refine ⟨true, ?_, fun _ k h1 h2 => by omega, fun _ => rfl⟩
    show f_X7_falseMark_L124b fu (f_X7_falseMark_L124 fu q) tw (nI n) fm un wc (nI c) (nI o) 1 (nI x) = _
    unfold f_X7_falseMark_L124b f_X7_falseMark_J171
    rw [leE (by omega) (by omega), if_pos (by omega), if_neg (by decide), if_neg (neg9 (by omega)), oneShl (by omega)]
    rfl
  | succ d ih =>
    intro x q hx hq
    obtain ⟨q, rfl⟩ : ∃ k, q = k + 1 := ⟨q - 1, by omega⟩
    have hwx := hw x (by omega)
    have hmx := hm x (by omega)
    have q6 : ∀ {α : Type} (A : Option α), xb (nI x) 6 A = A := fun A => xb_nI A (by omega) (by decide)
    have hs : f_X7_falseMark_L124 fu (q + 1) tw (nI n) fm un wc (nI c) (nI o) 1 (nI x) = if w x = c then (if m x = o then f_X7_falseMark_L124 fu q tw (nI n) fm un wc (nI c) (nI o) 1 (nI (x + 1)) else f_X7_falseMark_L124 fu q tw (nI n) fm un wc (nI c) (nI o) 0 (nI (x + 1))) else f_X7_falseMark_L124 fu q tw (nI n) fm un wc (nI c) (nI o) 1 (nI (x + 1)) := by
      show f_X7_falseMark_L124b fu (f_X7_falseMark_L124 fu q) tw (nI n) fm un wc (nI c) (nI o) 1 (nI x) = _
      unfold f_X7_falseMark_L124b
      simp only [q6, cl x (show x < 2 ^ 31 by omega), hwx.2, hmx.2, show nI x + 1 = nI (x + 1) from nI_add x 1]
      rw [if_neg (nI_ge (by omega) (by omega)), if_neg (by decide), eqE (by omega) (by omega), eqE (by omega) (by omega)]
    rw [hs]
    obtain ⟨b, hb1, hb2⟩ := ih (x + 1) q (by omega) (by omega)
    have hz : f_X7_falseMark_L124 fu q tw (nI n) fm un wc (nI c) (nI o) 0 (nI (x + 1)) = some 0 := by
      obtain ⟨q, rfl⟩ : ∃ k, q = k + 1 := ⟨q - 1, by omega⟩
      show f_X7_falseMark_L124b fu (f_X7_falseMark_L124 fu q) tw (nI n) fm un wc (nI c) (nI o) 0 (nI (x + 1)) = _
      unfold f_X7_falseMark_L124b f_X7_falseMark_J171
      simp only [if_true]
      split <;> rfl
    by_cases e1 : w x = c
    · rw [if_pos e1]
      by_cases e2 : m x = o
      · rw [if_pos e2]
        refine ⟨b, hb1, hb2.trans ⟨fun h k h1 h2 h3 => ?_, fun h k h1 h2 => h k (by omega) h2⟩⟩
        by_cases e : k = x
        · rw [e]; exact e2
        · exact h k (by omega) h2 h3
      · rw [if_neg e2, hz]
        exact ⟨false, rfl, fun e => (by cases e), fun h => absurd (h x (by omega) (by omega) e1) e2⟩
    · rw [if_neg e1]
      refine ⟨b, hb1, hb2.trans ⟨fun h k h1 h2 h3 => ?_, fun h k h1 h2 => h k (by omega) h2⟩⟩
      by_cases e : k = x
      · exact absurd (e ▸ h3) e1
      · exact h k (by omega) h2 h3
theorem fm124z {fu q : Nat} {un x1 x2 x4 : Int32} {v : Int32} : f_X7_falseMark_L124 fu (q + 1) tw v fm un wc x1 x2 0 x4 = some 0 := by
  show f_X7_falseMark_L124b fu (f_X7_falseMark_L124 fu q) tw v fm un wc x1 x2 0 x4 = _
  unfold f_X7_falseMark_L124b f_X7_falseMark_J171
  simp only [if_true]
  split <;> rfl
theorem fm124n (hn : n ≤ 6) (hw : ∀ k, k < n → w k < 7 ∧ wc k = nI (w k)) {fu : Nat} {un x2 : Int32} : ∀ (d x q : Nat), x + d = n → d < q → f_X7_falseMark_L124 fu q tw (nI n) fm un wc (-9) x2 1 (nI x) = some 0 := by
  intro d
  induction d with
  | zero =>
    intro x q hx hq
    obtain ⟨q, rfl⟩ : ∃ k, q = k + 1 := ⟨q - 1, by omega⟩
    show f_X7_falseMark_L124b fu (f_X7_falseMark_L124 fu q) tw (nI n) fm un wc (-9) x2 1 (nI x) = _
    unfold f_X7_falseMark_L124b f_X7_falseMark_J171
    rw [leE (by omega) (by omega), if_pos (by omega), if_neg (by decide), if_pos rfl]
  | succ d ih =>
    intro x q hx hq
    obtain ⟨q, rfl⟩ : ∃ k, q = k + 1 := ⟨q - 1, by omega⟩
    have hwx := hw x (by omega)
    show f_X7_falseMark_L124b fu (f_X7_falseMark_L124 fu q) tw (nI n) fm un wc (-9) x2 1 (nI x) = _
    unfold f_X7_falseMark_L124b
    rw [if_neg (nI_ge (by omega) (by omega)), if_neg (by decide), xb_nI _ (by omega) (by decide), cl x (by omega), hwx.2, if_neg (neg9 (by omega)), show nI x + 1 = nI (x + 1) from nI_add x 1]
    exact ih (x + 1) q (by omega) (by omega)
theorem fm33 (hO : TOk T) (h7 : TwB T tw) (hn : n ≤ 6) (hw : ∀ k, k < n → w k < T 0 0 ∧ wc k = nI (w k)) (hm : ∀ k, k < n → m k < 4 ∧ fm k = nI (m k)) {fu : Nat} {un : Int32} (hf : 10 ≤ fu) : ∀ (d x q : Nat) (z1 z2 : Int32), x + d = n → d < q → ((z1 = -9 ∧ ∀ k, k < x → m k = T 1 (w k)) ∨ ∃ c o, c < T 0 0 ∧ o < 4 ∧ z1 = nI c ∧ z2 = nI o ∧ o ≠ T 1 c ∧ (∃ k, k < x ∧ w k = c ∧ m k = o) ∧ ∀ k, k < x → m k ≠ T 1 (w k) → w k = c ∧ m k = o) → ∃ v : Int32, f_X7_falseMark_L33 fu q tw (nI n) fm un wc z1 z2 1 (nI x) = some v ∧ ((∃ c, c < T 0 0 ∧ OnlyF T n w m c ∧ v = nI (2 ^ c)) ∨ ((∀ c, c < T 0 0 → ¬ OnlyF T n w m c) ∧ v = 0)) := by
  have o1 := hO.1
  have hw7 : ∀ k, k < n → w k < 7 ∧ wc k = nI (w k) := fun k hk => ⟨by have := (hw k hk).1; omega, (hw k hk).2⟩
  intro d
  induction d with
  | zero =>
    intro x q z1 z2 hx hq h2
    obtain ⟨q, rfl⟩ : ∃ k, q = k + 1 := ⟨q - 1, by omega⟩
    have e : x = n := by omega
    subst e
    have hs : f_X7_falseMark_L33 fu (q + 1) tw (nI x) fm un wc z1 z2 1 (nI x) = f_X7_falseMark_L124 fu fu tw (nI x) fm un wc z1 z2 1 0 := by
      show f_X7_falseMark_L33b fu (f_X7_falseMark_L33 fu q) tw (nI x) fm un wc z1 z2 1 (nI x) = _
      unfold f_X7_falseMark_L33b
      rw [leE (by omega) (by omega), if_pos (Nat.le_refl x)]
    rw [hs]
    rcases h2 with ⟨rfl, h2⟩ | ⟨c, o, hc, ho, rfl, rfl, ho1, ⟨k, hk, hkc, hko⟩, h3⟩
    · refine ⟨0, fm124n hn hw7 x 0 fu (by omega) (by omega), Or.inr ⟨fun c hc ⟨o, ho, ⟨k, hk, e⟩, h⟩ => ?_, rfl⟩⟩
      have := (h k hk).1 e
      rw [h2 k hk, e] at this
      exact ho this.symm
    · obtain ⟨b, hb1, hb2⟩ := fm124 (tw := tw) (fu := fu) (un := un) hn hw7 hm (c := c) (o := o) (by omega) ho x 0 fu (by omega) (by omega)
      refine ⟨_, hb1, ?_⟩
      cases b
      · refine Or.inr ⟨fun c' hc' ⟨o', ho', ⟨k', hk', e'⟩, h⟩ => ?_, rfl⟩
        have hcc : c = c' := by
          by_cases e : w k = c'
          · rw [← e, hkc]
          · have := (h k hk).2 e
            rw [hko, hkc] at this
            exact absurd this ho1
        subst hcc
        refine absurd (hb2.mpr (fun j _ hj hjc => ?_)) (by decide)
        rw [(h j hj).1 hjc, ← (h k hk).1 hkc, hko]
      · have ha := hb2.mp rfl
        refine Or.inl ⟨c, hc, ⟨o, ho1, ⟨k, hk, hkc⟩, fun j hj => ⟨fun e => ha j (by omega) hj e, fun e => ?_⟩⟩, rfl⟩
        apply Classical.byContradiction
        intro hne
        exact e (h3 j hj hne).1
  | succ d ih =>
    intro x q z1 z2 hx hq h2
    obtain ⟨q, rfl⟩ : ∃ k, q = k + 1 := ⟨q - 1, by omega⟩
    have hwx := hw x (by omega)
    have hmx := hm x (by omega)
    have hmk := hO.2.2.2.2.2.1 (w x) hwx.1
    have q6 : ∀ {α : Type} (A : Option α), xb (nI x) 6 A = A := fun A => xb_nI A (by omega) (by decide)
    have q7 : ∀ {α : Type} (A : Option α), xb (nI (6 + w x)) 64 A = A := fun A => xb_nI A (by omega) (by decide)
    have hs : f_X7_falseMark_L33 fu (q + 1) tw (nI n) fm un wc z1 z2 1 (nI x) = if m x = T 1 (w x) then f_X7_falseMark_L33 fu q tw (nI n) fm un wc z1 z2 1 (nI (x + 1)) else (if z1 = -9 then f_X7_falseMark_L33 fu q tw (nI n) fm un wc (nI (w x)) (nI (m x)) 1 (nI (x + 1)) else (if z1 = nI (w x) then (if z2 = nI (m x) then f_X7_falseMark_L33 fu q tw (nI n) fm un wc (nI (w x)) (nI (m x)) 1 (nI (x + 1)) else f_X7_falseMark_L33 fu q tw (nI n) fm un wc (nI (w x)) (nI (m x)) 0 (nI (x + 1))) else f_X7_falseMark_L33 fu q tw (nI n) fm un wc (nI (w x)) (nI (m x)) 0 (nI (x + 1)))) := by
      show f_X7_falseMark_L33b fu (f_X7_falseMark_L33 fu q) tw (nI n) fm un wc z1 z2 1 (nI x) = _
      unfold f_X7_falseMark_L33b f_X7_falseMark_J103
      simp only [q6, cl x (show x < 2 ^ 31 by omega), hwx.2, hmx.2, show (6 : Int32) + nI (w x) = nI (6 + w x) from nI_add 6 (w x), q7, cl (6 + w x) (show 6 + w x < 2 ^ 31 by omega), h7.2.2.2.2.2.1 (w x) hwx.1, show nI x + 1 = nI (x + 1) from nI_add x 1]
      rw [if_neg (nI_ge (by omega) (by omega)), if_neg (by decide), eqE (by omega) (by omega)]
    rw [hs]
    have hz : f_X7_falseMark_L33 fu q tw (nI n) fm un wc (nI (w x)) (nI (m x)) 0 (nI (x + 1)) = some 0 := by
      obtain ⟨q, rfl⟩ : ∃ k, q = k + 1 := ⟨q - 1, by omega⟩
      obtain ⟨f', hf'⟩ : ∃ k, fu = k + 1 := ⟨fu - 1, by omega⟩
      show f_X7_falseMark_L33b fu (f_X7_falseMark_L33 fu q) tw (nI n) fm un wc (nI (w x)) (nI (m x)) 0 (nI (x + 1)) = _
      unfold f_X7_falseMark_L33b
      simp only [if_true]
      have : f_X7_falseMark_L124 fu fu tw (nI n) fm un wc (nI (w x)) (nI (m x)) 0 0 = some 0 := by
        rw [hf']
        exact fm124z
      rw [this]
      split <;> rfl
    by_cases e1 : m x = T 1 (w x)
    · rw [if_pos e1]
      refine ih (x + 1) q z1 z2 (by omega) (by omega) ?_
      rcases h2 with ⟨rfl, h2⟩ | ⟨c, o, hc, ho, rfl, rfl, ho1, ⟨k, hk, hkc, hko⟩, h3⟩
      · refine Or.inl ⟨rfl, fun k hk => ?_⟩
        by_cases e : k = x
        · rw [e]; exact e1
        · exact h2 k (by omega)
      · refine Or.inr ⟨c, o, hc, ho, rfl, rfl, ho1, ⟨k, by omega, hkc, hko⟩, fun j hj hne => ?_⟩
        by_cases e : j = x
        · exact absurd (by rw [e]; exact e1) hne
        · exact h3 j (by omega) hne
    · rw [if_neg e1]
      rcases h2 with ⟨rfl, h2⟩ | ⟨c, o, hc, ho, rfl, rfl, ho1, ⟨k, hk, hkc, hko⟩, h3⟩
      · rw [if_pos rfl]
        refine ih (x + 1) q _ _ (by omega) (by omega) (Or.inr ⟨w x, m x, hwx.1, hmx.1, rfl, rfl, e1, ⟨x, by omega, rfl, rfl⟩, fun j hj hne => ?_⟩)
        by_cases e : j = x
        · rw [e]; exact ⟨rfl, rfl⟩
        · exact absurd (h2 j (by omega)) hne
      · rw [if_neg (neg9 (by omega)), eqE (by omega) (by omega), eqE (by omega) (by omega)]
        by_cases e2 : c = w x
        · rw [if_pos e2]
          by_cases e3 : o = m x
          · rw [if_pos e3]
            refine ih (x + 1) q _ _ (by omega) (by omega) (Or.inr ⟨w x, m x, hwx.1, hmx.1, rfl, rfl, e1, ⟨x, by omega, rfl, rfl⟩, fun j hj hne => ?_⟩)
            by_cases e : j = x
            · rw [e]; exact ⟨rfl, rfl⟩
            · have := h3 j (by omega) hne
              rw [← e2, ← e3]
              exact this
          · rw [if_neg e3, hz]
            refine ⟨0, rfl, Or.inr ⟨fun c' hc' ⟨o', ho', _, h⟩ => ?_, rfl⟩⟩
            by_cases e : w x = c'
            · have a1 := (h x (by omega)).1 e
              have a2 := (h k (by omega)).1 (by rw [hkc, e2, e])
              exact e3 (by rw [← hko, a2, a1])
            · exact e1 ((h x (by omega)).2 e)
        · rw [if_neg e2, hz]
          refine ⟨0, rfl, Or.inr ⟨fun c' hc' ⟨o', ho', _, h⟩ => ?_, rfl⟩⟩
          by_cases e : w x = c'
          · have a2 := (h k (by omega)).2 (by rw [hkc, ← e]; exact e2)
            rw [hko, hkc] at a2
            exact ho1 a2
          · exact e1 ((h x (by omega)).2 e)
end FALSEM
theorem setF_none {b : Nat → Bool} : ∀ (d x : Nat) (acc : Int32), (∀ k, x ≤ k → k < x + d → b k = false) → itF (setF b) d x acc = acc := by
  intro d
  induction d with
  | zero => intro x acc h; rfl
  | succ d ih =>
    intro x acc h
    show itF (setF b) d (x + 1) (setF b x acc) = acc
    unfold setF
    rw [h x (by omega) (by omega)]
    exact ih (x + 1) acc (fun k h1 h2 => h k (by omega) (by omega))
theorem setF_one {b : Nat → Bool} {c : Nat} (hb : b c = true) : ∀ (d x : Nat) (acc : Int32), x ≤ c → c < x + d → (∀ k, x ≤ k → k < x + d → k ≠ c → b k = false) → itF (setF b) d x acc = acc ||| ((1 : Int32) <<< (nI c &&& 31)) := by
  intro d
  induction d with
  | zero => intro x acc h1 h2 h; omega
  | succ d ih =>
    intro x acc h1 h2 h
    show itF (setF b) d (x + 1) (setF b x acc) = _
    by_cases e : x = c
    · rw [setF_none d (x + 1) _ (fun k h3 h4 => h k (by omega) (by omega) (by omega))]
      unfold setF
      rw [e, hb]
      rfl
    · rw [ih (x + 1) _ (by omega) (by omega) (fun k h3 h4 => h k (by omega) (by omega))]
      unfold setF
      rw [h x (by omega) (by omega) e]
      rfl
theorem st_falseMark : St_falseMark Sim := by
  intro I F as J G tr h
  have hs := h
  obtain ⟨T, hO, h6, h7, ha, r1, r2, r3, r4, ⟨n, hn, e6, e7, ht⟩, ⟨u, hu, u6, u7, hw⟩, r6⟩ := h
  have o1 := hO.1
  have hm' := feltN ht (by decide)
  have hw' := feltN hw (by omega)
  by_cases e : n = u
  · subst e
    have a1 : ∀ k, k < n → (F 27 k).toNatClampNeg < T 0 0 ∧ F 27 k = nI (F 27 k).toNatClampNeg := fun k hk => ⟨(hw' k hk).1, (hw' k hk).2.1⟩
    have a2 : ∀ k, k < n → (F 26 k).toNatClampNeg < 4 ∧ F 26 k = nI (F 26 k).toNatClampNeg := fun k hk => ⟨(hm' k hk).1, (hm' k hk).2.1⟩
    have a3 : ∀ k, k < n → (F 27 k).toNatClampNeg < T 0 0 ∧ G 13 k = nI (F 27 k).toNatClampNeg := fun k hk => ⟨(hw' k hk).1, (hw' k hk).2.2⟩
    have a4 : ∀ k, k < n → (F 26 k).toNatClampNeg < 4 ∧ G 12 k = nI (F 26 k).toNatClampNeg := fun k hk => ⟨(hm' k hk).1, (hm' k hk).2.2⟩
    have hb : ∀ c, c < T 0 0 → ∃ b : Bool, f_X3_isOnlyFalse 50 (nI n) (nI n) (F 26) (F 27) (F 2) (nI c) = some (bi b) ∧ (b = true ↔ OnlyF T n (fun k => (F 27 k).toNatClampNeg) (fun k => (F 26 k).toNatClampNeg) c) := fun c hc => onlyF6 hO h6 hn a1 a2 hc n 0 50 (-9) (by omega) (by omega) (fun k hk => by omega) (Or.inl ⟨rfl, fun k hk => by omega⟩)
    have hdec : ∃ b : Nat → Bool, ∀ c, c < T 0 0 → f_X3_isOnlyFalse 50 (nI n) (nI n) (F 26) (F 27) (F 2) (nI c) = some (bi (b c)) ∧ (b c = true ↔ OnlyF T n (fun k => (F 27 k).toNatClampNeg) (fun k => (F 26 k).toNatClampNeg) c) := by
      refine ⟨fun c => if hc : c < T 0 0 then Classical.choose (hb c hc) else false, fun c hc => ?_⟩
      simp only [hc, dif_pos]
      exact Classical.choose_spec (hb c hc)
    obtain ⟨b, hb⟩ := hdec
    have q6 : f_X6_falseMark 50 (I 6) (F 2) (I 26) (I 27) (F 26) (F 27) = some (itF (setF b) (T 0 0) 0 0) := by
      unfold f_X6_falseMark
      rw [e6, u6, if_pos rfl]
      refine (fold_loop (fun q m x => f_X6_falseMark_L23 50 q (I 6) (F 2) (nI n) (nI n) (F 26) (F 27) m x) (fun m => some m) (setF b) (fun _ _ => True) (T 0 0) ?_ ?_ (T 0 0) 0 50 0 (by omega) (by omega) trivial).1
      · intro q x acc hx _
        refine ⟨?_, trivial⟩
        show f_X6_falseMark_L23b 50 (f_X6_falseMark_L23 50 q) (I 6) (F 2) (nI n) (nI n) (F 26) (F 27) acc (nI x) = _
        unfold f_X6_falseMark_L23b
        rw [if_neg (by rw [h6.1]; exact nI_ge (by omega) (by omega)), (hb x hx).1, show nI x + 1 = nI (x + 1) from nI_add x 1]
        simp only [bnd, bi0]
        unfold setF
        cases b x <;> rfl
      · intro q acc _
        show f_X6_falseMark_L23b 50 (f_X6_falseMark_L23 50 q) (I 6) (F 2) (nI n) (nI n) (F 26) (F 27) acc (nI (T 0 0)) = _
        unfold f_X6_falseMark_L23b
        rw [if_pos (by rw [h6.1]; exact nI_le (Nat.le_refl _) (by omega))]
    by_cases z : n = 0
    · have q7 : f_X7_falseMark 50 (G 2) (J 7) (G 12) (J 8) (G 13) = some 0 := by
        unfold f_X7_falseMark
        rw [e7, u7, if_pos rfl, z, if_pos (by decide)]
        show f_X7_falseMark_L33b 50 (f_X7_falseMark_L33 50 49) (G 2) (nI 0) (G 12) (nI 0) (G 13) (-9) (-9) 0 0 = _
        unfold f_X7_falseMark_L33b
        rw [if_pos (by decide)]
        exact fm124z (q := 49)
      refine ⟨50, _, 50, _, q6, q7, ?_, hs⟩
      refine setF_none _ _ _ (fun k _ hk => ?_)
      cases hbk : b k with
      | false => rfl
      | true =>
        obtain ⟨o, _, ⟨j, hj, _⟩, _⟩ := (hb k (by omega)).2.mp hbk
        omega
    · obtain ⟨v, hv, hv2⟩ := fm33 (fu := 50) (un := nI n) hO h7 hn a3 a4 (by decide) n 0 50 (-9) (-9) (by omega) (by omega) (Or.inl ⟨rfl, fun k hk => by omega⟩)
      have q7 : f_X7_falseMark 50 (G 2) (J 7) (G 12) (J 8) (G 13) = some v := by
        unfold f_X7_falseMark
        rw [e7, u7, if_pos rfl, if_neg (by rw [show (0 : Int32) = nI 0 from rfl]; exact nI_nle (by omega) (by omega))]
        exact hv
      refine ⟨50, _, 50, _, q6, q7, ?_, hs⟩
      rcases hv2 with ⟨c, hc, hoc, rfl⟩ | ⟨hno, rfl⟩
      · rw [setF_one (c := c) ((hb c hc).2.mpr hoc) _ _ _ (by omega) (by omega), oneShl (by omega)]
        · rw [show (0 : Int32) = nI 0 from rfl, fa_or, Nat.zero_or]
        · intro k _ hk hkc
          cases hbk : b k with
          | false => rfl
          | true =>
            obtain ⟨o, ho, ⟨j, hj, ej⟩, hall⟩ := (hb k (by omega)).2.mp hbk
            obtain ⟨o', ho', _, hall'⟩ := hoc
            have x1 := (hall j hj).1 ej
            have x2 := (hall' j hj).2 (fun q => hkc (by rw [← ej]; exact q))
            rw [x2] at x1
            exact absurd (by rw [← x1]; exact congrArg (T 1) ej) ho
      · refine setF_none _ _ _ (fun k _ hk => ?_)
        cases hbk : b k with
        | false => rfl
        | true => exact absurd ((hb k (by omega)).2.mp hbk) (hno k (by omega))
  · have q6 : f_X6_falseMark 50 (I 6) (F 2) (I 26) (I 27) (F 26) (F 27) = some 0 := by
      unfold f_X6_falseMark
      rw [e6, u6, eqE (by omega) (by omega), if_neg e]
    have q7 : f_X7_falseMark 50 (G 2) (J 7) (G 12) (J 8) (G 13) = some 0 := by
      unfold f_X7_falseMark
      rw [e7, u7, eqE (by omega) (by omega), if_neg e]
      show f_X7_falseMark_L33b 50 (f_X7_falseMark_L33 50 49) (G 2) (nI n) (G 12) (nI u) (G 13) (-9) (-9) 0 0 = _
      unfold f_X7_falseMark_L33b
      rw [if_pos (show (0 : Int32) = 0 from rfl), show f_X7_falseMark_L124 50 50 (G 2) (nI n) (G 12) (nI u) (G 13) (-9) (-9) 0 0 = some 0 from fm124z (q := 49)]
      split <;> rfl
    exact ⟨50, _, 50, _, q6, q7, rfl, hs⟩
