/-! a day: what is worth most, as the class seeks it -/
def Bt (w s w' s' : Nat) : Prop := w' < w ∨ (w' = w ∧ s ≤ s')
def BestOf (S : Nat → Nat → Prop) (w s w' s' : Nat) : Prop := ((w' = w ∧ s' = s) ∨ S w' s') ∧ Bt w' s' w s ∧ ∀ x y, S x y → Bt w' s' x y
theorem best_nil {S : Nat → Nat → Prop} (h : ∀ x y, ¬ S x y) (w s : Nat) : BestOf S w s w s := ⟨.inl ⟨rfl, rfl⟩, .inr ⟨rfl, Nat.le_refl _⟩, fun x y q => absurd q (h x y)⟩
theorem best_congr {S S' : Nat → Nat → Prop} {w s w' s' : Nat} (h : ∀ x y, S x y ↔ S' x y) (q : BestOf S w s w' s') : BestOf S' w s w' s' := ⟨q.1.imp id (h _ _).mp, q.2.1, fun x y r => q.2.2 x y ((h x y).mpr r)⟩
theorem best_trans {S1 S2 : Nat → Nat → Prop} {w s w1 s1 w2 s2 : Nat} (h1 : BestOf S1 w s w1 s1) (h2 : BestOf S2 w1 s1 w2 s2) : BestOf (fun x y => S1 x y ∨ S2 x y) w s w2 s2 := by
  have key : ∀ x y, Bt w1 s1 x y → Bt w2 s2 x y := by
    intro x y h
    have q := h2.2.1
    unfold Bt at *
    omega
  refine ⟨?_, key _ _ h1.2.1, fun x y r => ?_⟩
  · rcases h2.1 with ⟨e1, e2⟩ | e
    · rcases h1.1 with ⟨e3, e4⟩ | e
      · exact .inl ⟨e1.trans e3, e2.trans e4⟩
      · rw [← e1, ← e2] at e
        exact .inr (.inl e)
    · exact .inr (.inr e)
  · rcases r with r | r
    · exact key _ _ (h1.2.2 x y r)
    · exact h2.2.2 x y r
theorem best_yes {w s x y : Nat} (h : w < x ∨ (x = w ∧ y < s)) : BestOf (fun a b => a = x ∧ b = y) w s x y := by
  refine ⟨.inr ⟨rfl, rfl⟩, ?_, fun a b q => ?_⟩
  · unfold Bt
    omega
  · unfold Bt
    omega
theorem best_no {w s x y : Nat} (h : ¬ (w < x ∨ (x = w ∧ y < s))) : BestOf (fun a b => a = x ∧ b = y) w s w s := by
  refine ⟨.inl ⟨rfl, rfl⟩, ?_, fun a b q => ?_⟩
  · unfold Bt
    omega
  · unfold Bt
    omega
theorem best_unique {S : Nat → Nat → Prop} {w s w1 s1 w2 s2 : Nat} (h1 : BestOf S w s w1 s1) (h2 : BestOf S w s w2 s2) : w1 = w2 ∧ s1 = s2 := by
  have a : Bt w2 s2 w1 s1 := by
    rcases h1.1 with ⟨e1, e2⟩ | e
    · rw [e1, e2]
      exact h2.2.1
    · exact h2.2.2 _ _ e
  have b : Bt w1 s1 w2 s2 := by
    rcases h2.1 with ⟨e1, e2⟩ | e
    · rw [e1, e2]
      exact h1.2.1
    · exact h1.2.2 _ _ e
  unfold Bt at a b
  omega
def tk (D : Nat → Nat → Nat) (a b : Nat → Nat) (here x : Nat) : Nat := D here (a x) + D (a x) (b x)
/-- what a day may come to from here on -/
def Rs (D : Nat → Nat → Nat) (a b wt : Nat → Nat) (sz : Nat) : Nat → Nat → Nat → Nat → Nat → Nat → Nat → Prop
  | 0, _, _, dn, wh, w', d' => w' = wh ∧ d' = dn
  | k + 1, here, left, dn, wh, w', d' => (w' = wh ∧ d' = dn) ∨ ∃ x, x < sz ∧ dn.testBit x = false ∧ tk D a b here x ≤ left ∧ Rs D a b wt sz k (b x) (left - tk D a b here x) (dn ||| 2 ^ x) (wh + wt x) w' d'
section DAYS
variable {D : Nat → Nat → Nat} {a b wt : Nat → Nat} {sz fu : Nat} {A fr to wo : Nat → Int32}
theorem tryb6 {bw bs dn wh : Nat} {v x1 x2 x5 : Int32} {self : Int32 → (Nat → Int32) → (Nat → Int32) → (Nat → Int32) → (Nat → Int32) → Int32 → Int32 → Int32 → Int32 → Int32 → Int32 → Int32 → Option R_X5_tryOn} (h1 : bw ≤ 400) (h2 : bs < 16) (h3 : wh ≤ 400) (h4 : dn < 16) : ∃ w1 s1, f_X5_tryOnb fu self v fr to wo A (nI bw) (nI bs) x1 x2 (nI dn) (nI wh) x5 = f_X5_tryOn_J37 fu self v fr to wo A (nI w1) (nI s1) x1 x2 (nI dn) (nI wh) x5 ∧ w1 ≤ 400 ∧ s1 < 16 ∧ BestOf (fun x y => x = wh ∧ y = dn) bw bs w1 s1 := by
  unfold f_X5_tryOnb f_X5_tryOn_J26
  rw [ltE (by omega) (by omega), eqE (by omega) (by omega), leE (by omega) (by omega)]
  by_cases c1 : bw < wh
  · rw [if_pos c1]
    exact ⟨wh, dn, rfl, h3, h4, best_yes (.inl c1)⟩
  · rw [if_neg c1]
    by_cases c2 : wh = bw
    · rw [if_pos c2]
      by_cases c3 : bs ≤ dn
      · rw [if_pos c3]
        exact ⟨bw, bs, rfl, h1, h2, best_no (by omega)⟩
      · rw [if_neg c3]
        exact ⟨wh, dn, rfl, h3, h4, best_yes (by omega)⟩
    · rw [if_neg c2]
      exact ⟨bw, bs, rfl, h1, h2, best_no (by omega)⟩
theorem try6 (hR : Rp 10000 A D) (hsz : sz ≤ 4) (hw : ∀ x, x < sz → a x < 7 ∧ b x < 7 ∧ wt x ≤ 99 ∧ fr x = nI (a x) ∧ to x = nI (b x) ∧ wo x = nI (wt x)) (hf : 5 ≤ fu) : ∀ (k dp n here left dn wh bw bs : Nat), dp + k = 4 → k < n → here < 7 → left ≤ 99 → dn < 16 → wh ≤ 99 * dp → bw ≤ 400 → bs < 16 → ∃ bw' bs', f_X5_tryOn fu n (nI sz) fr to wo A (nI bw) (nI bs) (nI here) (nI left) (nI dn) (nI wh) (nI dp) = some (nI bw', nI bs') ∧ bw' ≤ 400 ∧ bs' < 16 ∧ BestOf (Rs D a b wt sz k here left dn wh) bw bs bw' bs' := by
  intro k
  induction k with
  | zero =>
    intro dp n here left dn wh bw bs hk hn hh hl hd hwo hbw hbs
    obtain ⟨n, rfl⟩ : ∃ j, n = j + 1 := ⟨n - 1, by omega⟩
    obtain ⟨w1, s1, e1, b1, b2, b3⟩ := tryb6 (fu := fu) (fr := fr) (to := to) (wo := wo) (A := A) (v := nI sz) (x1 := nI here) (x2 := nI left) (x5 := nI dp) (self := f_X5_tryOn fu n) hbw hbs (show wh ≤ 400 by omega) hd
    refine ⟨w1, s1, ?_, b1, b2, best_congr (fun X Y => Iff.rfl) b3⟩
    refine Eq.trans (show _ = f_X5_tryOnb fu (f_X5_tryOn fu n) (nI sz) fr to wo A (nI bw) (nI bs) (nI here) (nI left) (nI dn) (nI wh) (nI dp) from rfl) (e1.trans ?_)
    unfold f_X5_tryOn_J37
    rw [show (4 : Int32) = nI 4 from rfl, if_neg (nI_nlt (by omega) (by omega))]
  | succ k ih =>
    intro dp n here left dn wh bw bs hk hn hh hl hd hwo hbw hbs
    obtain ⟨n, rfl⟩ : ∃ j, n = j + 1 := ⟨n - 1, by omega⟩
    obtain ⟨w1, s1, e1, b1, b2, b3⟩ := tryb6 (fu := fu) (fr := fr) (to := to) (wo := wo) (A := A) (v := nI sz) (x1 := nI here) (x2 := nI left) (x5 := nI dp) (self := f_X5_tryOn fu n) hbw hbs (show wh ≤ 400 by omega) hd
    obtain ⟨s, e, w2, s2, es, c1, c2, c3⟩ := rel_loop (σ := Int32 × Int32) (fun q s x => f_X5_tryOn_L47 fu (f_X5_tryOn fu n) q (nI sz) fr to wo A s.1 s.2 (nI here) (nI left) (nI dn) (nI wh) (nI dp) x) (fun s => some s) (fun x s => ∃ w2 s2, s = (nI w2, nI s2) ∧ w2 ≤ 400 ∧ s2 < 16 ∧ BestOf (fun w' d' => (w' = wh ∧ d' = dn) ∨ ∃ i, i < x ∧ dn.testBit i = false ∧ tk D a b here i ≤ left ∧ Rs D a b wt sz k (b i) (left - tk D a b here i) (dn ||| 2 ^ i) (wh + wt i) w' d') bw bs w2 s2) sz (by
      intro q x s hx hI
      obtain ⟨w2, s2, rfl, c1, c2, c3⟩ := hI
      obtain ⟨ha, hb, hwt, f1, f2, f3⟩ := hw x hx
      have ra := hR here (a x) hh ha
      have rb := hR (a x) (b x) ha hb
      have q4 : ∀ {α : Type} (X : Option α), xb (nI x) 4 X = X := fun X => xb_nI X (by omega) (by decide)
      have qa : ∀ {α : Type} (X : Option α), xb (nI (here * 7 + a x)) 49 X = X := fun X => xb_nI X (by omega) (by decide)
      have qb : ∀ {α : Type} (X : Option α), xb (nI (a x * 7 + b x)) 49 X = X := fun X => xb_nI X (by omega) (by decide)
      have htk : D here (a x) + D (a x) (b x) = tk D a b here x := rfl
      have htk2 : tk D a b here x ≤ 20000 := by
        rw [← htk]
        omega
      have skip : (dn.testBit x = true ∨ left < tk D a b here x) → BestOf (fun w' d' => (w' = wh ∧ d' = dn) ∨ ∃ i, i < x + 1 ∧ dn.testBit i = false ∧ tk D a b here i ≤ left ∧ Rs D a b wt sz k (b i) (left - tk D a b here i) (dn ||| 2 ^ i) (wh + wt i) w' d') bw bs w2 s2 := by
        intro hs
        refine best_congr (fun X Y => ⟨?_, ?_⟩) c3
        · rintro (r | ⟨i, r1, r2⟩)
          · exact .inl r
          · exact .inr ⟨i, by omega, r2⟩
        · rintro (r | ⟨i, r1, r2, r3, r4⟩)
          · exact .inl r
          · by_cases ei : i = x
            · subst ei
              rcases hs with hs | hs
              · rw [hs] at r2
                cases r2
              · omega
            · exact .inr ⟨i, by omega, r2, r3, r4⟩
      show ∃ s', f_X5_tryOn_L47b fu (f_X5_tryOn fu n) (f_X5_tryOn_L47 fu (f_X5_tryOn fu n) q) (nI sz) fr to wo A (nI w2) (nI s2) (nI here) (nI left) (nI dn) (nI wh) (nI dp) (nI x) = _ ∧ _
      unfold f_X5_tryOn_L47b
      rw [if_neg (nI_ge (by omega) (by omega)), bit1 (by omega) (by omega), cl x (by omega), f1, f2, f3, n7, n7, show nI x + 1 = nI (x + 1) from nI_add x 1]
      simp only [q4, qa, qb, cl (here * 7 + a x) (show here * 7 + a x < 2 ^ 31 by omega), cl (a x * 7 + b x) (show a x * 7 + b x < 2 ^ 31 by omega), ra.1, rb.1, nI_add, htk]
      rw [ltE (by omega) (by omega)]
      by_cases c : dn.testBit x = true
      · rw [if_pos c]
        exact ⟨(nI w2, nI s2), rfl, w2, s2, rfl, c1, c2, skip (.inl c)⟩
      · rw [if_neg c]
        by_cases t : left < tk D a b here x
        · rw [if_pos t]
          exact ⟨(nI w2, nI s2), rfl, w2, s2, rfl, c1, c2, skip (.inr t)⟩
        · rw [if_neg t]
          have hd16 : dn ||| 2 ^ x < 16 := Nat.or_lt_two_pow (n := 4) hd (Nat.pow_lt_pow_right (by decide) (by omega))
          obtain ⟨w3, s3, g1, g2, g3, g4⟩ := ih (dp + 1) n (b x) (left - tk D a b here x) (dn ||| 2 ^ x) (wh + wt x) w2 s2 (by omega) (by omega) hb (by omega) hd16 (by omega) c1 c2
          rw [pk_sub (by omega), oneShl (by omega), fa_or, show nI dp + 1 = nI (dp + 1) from nI_add dp 1, g1, bnd]
          refine ⟨(nI w3, nI s3), rfl, w3, s3, rfl, g2, g3, best_congr (fun X Y => ⟨?_, ?_⟩) (best_trans c3 g4)⟩
          · rintro ((r | ⟨i, r1, r2⟩) | r)
            · exact .inl r
            · exact .inr ⟨i, by omega, r2⟩
            · exact .inr ⟨x, by omega, by simpa using c, by omega, r⟩
          · rintro (r | ⟨i, r1, r2, r3, r4⟩)
            · exact .inl (.inl r)
            · by_cases ei : i = x
              · subst ei
                exact .inr r4
              · exact .inl (.inr ⟨i, by omega, r2, r3, r4⟩)) (by
      intro q s hI
      show f_X5_tryOn_L47b fu (f_X5_tryOn fu n) (f_X5_tryOn_L47 fu (f_X5_tryOn fu n) q) (nI sz) fr to wo A s.1 s.2 (nI here) (nI left) (nI dn) (nI wh) (nI dp) (nI sz) = _
      unfold f_X5_tryOn_L47b
      rw [if_pos (nI_le (Nat.le_refl _) (by omega))]) sz 0 fu (nI w1, nI s1) (by omega) (by omega) ⟨w1, s1, rfl, b1, b2, best_congr (fun X Y => ⟨fun r => .inl r, fun r => by
        rcases r with r | ⟨i, r1, _⟩
        · exact r
        · omega⟩) b3⟩
    refine ⟨w2, s2, ?_, c1, c2, best_congr (fun X Y => Iff.rfl) c3⟩
    refine Eq.trans (show _ = f_X5_tryOnb fu (f_X5_tryOn fu n) (nI sz) fr to wo A (nI bw) (nI bs) (nI here) (nI left) (nI dn) (nI wh) (nI dp) from rfl) (e1.trans ?_)
    unfold f_X5_tryOn_J37
    rw [show (4 : Int32) = nI 4 from rfl, if_pos (nI_lt (by omega) (by decide))]
    exact e.trans (by rw [es])
end DAYS
