/-! byBells -/
def BInv (A B : Nat → Int32) : Prop := ∀ j, j < 501 → ∃ m, m < 128 ∧ A j = nI m ∧ B j = nI m
theorem shl01 {c : Bool} {b : Nat} (hb : b < 31) : (if c then (1 : Int32) else 0) <<< (nI b &&& 31) = nI (if c then 2 ^ b else 0) := by
  cases c
  · have hs : ∀ n, n < 32 → ((nI n &&& 31).toBitVec.smod 32).toNat = n := by decide +kernel
    have := pk_shlN (n := 0) (nI b &&& 31) b (hs b (by omega)) (by omega)
    rw [Nat.zero_mul] at this
    exact this
  · exact oneShl hb
/-- what comes along a street -/
def alongE (T : Nat → Nat → Nat) (s m : Nat) : Nat := (if m.testBit (T 2 s) then 2 ^ T 3 s else 0) ||| (if m.testBit (T 3 s) then 2 ^ T 2 s else 0)
section BELLS
variable {T : Nat → Nat → Nat} {nc ns ng nb hd : Int32} {mk ea eb ln pa fe kn hi bl tw : Nat → Int32}
theorem alongE_lt (hO : TOk T) {s m : Nat} (hs : s < T 0 1) : alongE T s m < 128 := by
  have h := hO.2.2.2.2.2.2.1 s hs
  have o1 := hO.1
  have p1 : 2 ^ T 2 s < 2 ^ 7 := p2lt (by omega)
  have p2 : 2 ^ T 3 s < 2 ^ 7 := p2lt (by omega)
  unfold alongE
  exact Nat.or_lt_two_pow (n := 7) (by split <;> omega) (by split <;> omega)
theorem BInv.put {A B : Nat → Int32} (h : BInv A B) {j v : Nat} (hv : v < 128) : BInv (upd A j (nI v)) (upd B j (nI v)) := by
  intro i hi
  unfold upd
  by_cases e : i = j
  · exact ⟨v, hv, by rw [if_pos e], by rw [if_pos e]⟩
  · rw [if_neg e, if_neg e]
    exact h i hi
theorem BInv.far {A B : Nat → Int32} (h : BInv A B) {j : Nat} {v : Int32} (hj : 501 ≤ j) : BInv A (upd B j v) := by
  intro i hi
  unfold upd
  rw [if_neg (by omega)]
  exact h i hi
theorem walk_step (hO : TOk T) (h6 : TwA T nc ns ng nb hd mk ea eb ln pa fe kn hi bl) (h7 : TwB T tw) {fu mi t th x p q : Nat} {x3 : Int32} {k67 : (Nat → Int32) → (Nat → Int32) → Int32 → Int32 → Int32 → Option R_X7_byBells} (hf : 50 ≤ fu) (hmi : mi ≤ 9999) (ht : t ≤ 500) (hth : th ≤ 9) (hthin : ∀ L, L ≤ 9 → (L ≤ th ↔ thinR T (mi + t) 0 L = true)) (hx : x < T 0 1) {A B : Nat → Int32} (hI : BInv A B) : ∃ A' B', f_X0_walkOn_L3 fu (p + 1) A ns ea eb ln (nI t) (nI th) (nI x) = f_X0_walkOn_L3 fu p A' ns ea eb ln (nI t) (nI th) (nI (x + 1)) ∧ f_X7_byBells_L115 fu k67 (q + 1) tw B (nI mi) x3 (nI t) (nI x) = f_X7_byBells_L115 fu k67 q tw B' (nI mi) x3 (nI t) (nI (x + 1)) ∧ BInv A' B' := by
  have o1 := hO.1
  have o2 := hO.2.1
  have h := hO.2.2.2.2.2.2.1 x hx
  have s6 := h6.2.2.2.2.2.2.1 x hx
  have s7 := h7.2.2.2.2.2.2.1 x hx
  obtain ⟨m, hm, ea6, eb7⟩ := hI t (by omega)
  have q9 : ∀ {α : Type} (X : Option α), xb (nI x) 9 X = X := fun X => xb_nI X (by omega) (by decide)
  have qt : ∀ {α : Type} (X : Option α), xb (nI t) 501 X = X := fun X => xb_nI X (by omega) (by decide)
  have qt7 : ∀ {α : Type} (X : Option α), xb (nI t) 512 X = X := fun X => xb_nI X (by omega) (by decide)
  have ql7 : ∀ {α : Type} (X : Option α), xb (nI (t + T 4 x)) 512 X = X := fun X => xb_nI X (by omega) (by decide)
  have q1 : ∀ {α : Type} (X : Option α), xb (1 : Int32) 64 X = X := fun X => xb_l (by decide)
  have r6 : f_X0_walkOn_L3 fu (p + 1) A ns ea eb ln (nI t) (nI th) (nI x) = f_X0_walkOn_L3b fu (f_X0_walkOn_L3 fu p) A ns ea eb ln (nI t) (nI th) (nI x) := rfl
  have r7 : f_X7_byBells_L115 fu k67 (q + 1) tw B (nI mi) x3 (nI t) (nI x) = if thinR T (mi + t) 0 (T 4 x) then f_X7_byBells_L115 fu k67 q tw (upd B (t + T 4 x) ((B (t + T 4 x)) ||| nI (alongE T x m))) (nI mi) x3 (nI t) (nI (x + 1)) else f_X7_byBells_L115 fu k67 q tw B (nI mi) x3 (nI t) (nI (x + 1)) := by
    show f_X7_byBells_L115b fu k67 (f_X7_byBells_L115 fu k67 q) tw B (nI mi) x3 (nI t) (nI x) = _
    unfold f_X7_byBells_L115b
    rw [q1, show ((1 : Int32).toNatClampNeg) = 1 from rfl, h7.2.1, if_neg (nI_ge (by omega) (by omega)), length7 hO h7 hx, show (13 : Int32) + 3 * nI x = nI (13 + 3 * x) from by rw [show (3 : Int32) = nI 3 from rfl, pk_mul, show (13 : Int32) = nI 13 from rfl, nI_add], show nI (13 + 3 * x) + 1 = nI (14 + 3 * x) from by rw [show (1 : Int32) = nI 1 from rfl, nI_add]; congr 1; omega, xb_nI _ (by omega) (by decide), xb_nI _ (by omega) (by decide), cl (13 + 3 * x) (by omega), cl (14 + 3 * x) (by omega), s7.1, s7.2.1, show nI x + 1 = nI (x + 1) from nI_add x 1]
    simp only [bnd, nI_add]
    rw [isThin7 hO h7 (by omega) (by omega)]
    simp only [bnd, bi0, ql7, qt7, cl t (show t < 2 ^ 31 by omega), cl (t + T 4 x) (show t + T 4 x < 2 ^ 31 by omega), eb7]
    rw [bitE (by omega) (by omega), bitE (by omega) (by omega), shl01 (by omega), shl01 (by omega), fa_or]
    rfl
  rw [r6, r7]
  unfold f_X0_walkOn_L3b f_X0_walkOn_J84
  rw [if_neg (by rw [h6.2.1]; exact nI_ge (by omega) (by omega))]
  simp only [q9, qt, cl x (show x < 2 ^ 31 by omega), cl t (show t < 2 ^ 31 by omega), s6.1, s6.2.1, s6.2.2, nI_add, cl (t + T 4 x) (show t + T 4 x < 2 ^ 31 by omega), ea6, show nI x + 1 = nI (x + 1) from nI_add x 1]
  rw [ltE (by omega) (by omega), show (500 : Int32) = nI 500 from rfl, leE (by omega) (by omega)]
  by_cases c1 : T 4 x ≤ th
  · rw [if_neg (by omega), if_pos ((hthin (T 4 x) (by omega)).mp c1)]
    by_cases c2 : t + T 4 x ≤ 500
    · rw [if_pos c2, bit1 (by omega) (by omega)]
      obtain ⟨v, hv, v6, v7⟩ := hI (t + T 4 x) (by omega)
      have ql : ∀ {α : Type} (X : Option α), xb (nI (t + T 4 x)) 501 X = X := fun X => xb_nI X (by omega) (by decide)
      have un : ∀ y : Int32, upd A (t + T 4 x) y t = nI m := fun y => by unfold upd; rw [if_neg (by omega)]; exact ea6
      have us : ∀ y : Int32, upd A (t + T 4 x) y (t + T 4 x) = y := fun y => by unfold upd; rw [if_pos rfl]
      have uu : ∀ y z : Int32, upd (upd A (t + T 4 x) y) (t + T 4 x) z = upd A (t + T 4 x) z := fun y z => by
        funext j
        unfold upd
        split <;> rfl
      have hb2 : ∀ {α : Type} (X Y : α), (if nI m >>> (nI (T 3 x) &&& 31) &&& 1 = 1 then X else Y) = if m.testBit (T 3 x) then X else Y := fun X Y => bit1 (by omega) (by omega) X Y
      simp only [ql, un, us, uu, ea6, hb2]
      rw [oneShl (by omega), oneShl (by omega), v6, v7, fa_or, fa_or, fa_or, fa_or]
      have hl := alongE_lt (m := m) hO hx
      have hne : alongE T x m = (if m.testBit (T 2 x) then 2 ^ T 3 x else 0) ||| (if m.testBit (T 3 x) then 2 ^ T 2 x else 0) := rfl
      refine ⟨upd A (t + T 4 x) (nI (v ||| alongE T x m)), _, ?_, rfl, hI.put (Nat.or_lt_two_pow (n := 7) hv hl)⟩
      rw [hne]
      cases m.testBit (T 2 x) <;> cases m.testBit (T 3 x)
      · simp only [if_false, Bool.false_eq_true, Nat.or_zero]
        rw [show upd A (t + T 4 x) (nI v) = A from by funext j; unfold upd; split <;> simp_all]
      · simp only [if_true, if_false, Bool.false_eq_true, Nat.zero_or]
      · simp only [if_true, if_false, Bool.false_eq_true, Nat.or_zero]
      · simp only [if_true, Nat.or_assoc]
    · rw [if_neg c2]
      exact ⟨_, _, rfl, rfl, hI.far (by omega)⟩
  · rw [if_pos (by omega), if_neg (fun e => c1 ((hthin (T 4 x) (by omega)).mpr e))]
    exact ⟨_, _, rfl, rfl, hI⟩
theorem walk_all (hO : TOk T) (h6 : TwA T nc ns ng nb hd mk ea eb ln pa fe kn hi bl) (h7 : TwB T tw) {fu mi t th : Nat} {x3 : Int32} {k67 : (Nat → Int32) → (Nat → Int32) → Int32 → Int32 → Int32 → Option R_X7_byBells} (hf : 50 ≤ fu) (hmi : mi ≤ 9999) (ht : t ≤ 500) (hth : th ≤ 9) (hthin : ∀ L, L ≤ 9 → (L ≤ th ↔ thinR T (mi + t) 0 L = true)) : ∀ (d x p : Nat) (A B : Nat → Int32), x + d = T 0 1 → d < p → BInv A B → ∃ A' B', f_X0_walkOn_L3 fu p A ns ea eb ln (nI t) (nI th) (nI x) = some A' ∧ f_X7_byBells_L115 fu k67 p tw B (nI mi) x3 (nI t) (nI x) = k67 tw B' (nI mi) x3 (nI (t + 1)) ∧ BInv A' B' := by
  have o2 := hO.2.1
  have q1 : ∀ {α : Type} (X : Option α), xb (1 : Int32) 64 X = X := fun X => xb_l (by decide)
  intro d
  induction d with
  | zero =>
    intro x p A B hx hp hI
    obtain ⟨p, rfl⟩ : ∃ k, p = k + 1 := ⟨p - 1, by omega⟩
    refine ⟨A, B, ?_, ?_, hI⟩
    · show f_X0_walkOn_L3b fu (f_X0_walkOn_L3 fu p) A ns ea eb ln (nI t) (nI th) (nI x) = _
      unfold f_X0_walkOn_L3b
      rw [if_pos (by rw [h6.2.1]; exact nI_le (by omega) (by omega))]
    · show f_X7_byBells_L115b fu k67 (f_X7_byBells_L115 fu k67 p) tw B (nI mi) x3 (nI t) (nI x) = _
      unfold f_X7_byBells_L115b
      rw [q1, show ((1 : Int32).toNatClampNeg) = 1 from rfl, h7.2.1, if_pos (nI_le (by omega) (by omega)), show nI t + 1 = nI (t + 1) from nI_add t 1]
  | succ d ih =>
    intro x p A B hx hp hI
    obtain ⟨p, rfl⟩ : ∃ k, p = k + 1 := ⟨p - 1, by omega⟩
    obtain ⟨A1, B1, e1, e2, hI1⟩ := walk_step (p := p) (q := p) (k67 := k67) (x3 := x3) hO h6 h7 hf hmi ht hth hthin (x := x) (by omega) hI
    rw [e1, e2]
    exact ih (x + 1) p A1 B1 (by omega) (by omega) hI1
theorem bells_main (hO : TOk T) (h6 : TwA T nc ns ng nb hd mk ea eb ln pa fe kn hi bl) (h7 : TwB T tw) {fu mi c : Nat} (hf : 50 ≤ fu) (hmi : mi ≤ 9999) (hc : c < 31) : ∀ (d t p : Nat) (A B : Nat → Int32), t + d = 501 → d < p → BInv A B → ∃ v A' B', f_X0_minutesAlone_L37 fu p A ns nb ea eb ln bl (nI mi) (nI c) (nI t) = some (v, A') ∧ f_X7_byBells_L67 fu p tw B (nI mi) (nI c) (nI t) = some (v, B') := by
  have o2 := hO.2.1
  intro d
  induction d with
  | zero =>
    intro t p A B hx hp hI
    obtain ⟨p, rfl⟩ : ∃ k, p = k + 1 := ⟨p - 1, by omega⟩
    have e : t = 501 := by omega
    subst e
    refine ⟨-9, A, B, ?_, ?_⟩
    · show f_X0_minutesAlone_L37b fu (f_X0_minutesAlone_L37 fu p) A ns nb ea eb ln bl (nI mi) (nI c) (nI 501) = _
      unfold f_X0_minutesAlone_L37b
      rw [if_pos (by decide)]
    · show f_X7_byBells_L67b fu (f_X7_byBells_L67 fu p) tw B (nI mi) (nI c) (nI 501) = _
      unfold f_X7_byBells_L67b
      rw [if_pos (by decide)]
  | succ d ih =>
    intro t p A B hx hp hI
    obtain ⟨p, rfl⟩ : ∃ k, p = k + 1 := ⟨p - 1, by omega⟩
    obtain ⟨m, hm, e6, e7⟩ := hI t (by omega)
    have qt : ∀ {α : Type} (X : Option α), xb (nI t) 501 X = X := fun X => xb_nI X (by omega) (by decide)
    have qt7 : ∀ {α : Type} (X : Option α), xb (nI t) 512 X = X := fun X => xb_nI X (by omega) (by decide)
    have qs7 : ∀ {α : Type} (X : Option α), xb (nI (t + 1)) 512 X = X := fun X => xb_nI X (by omega) (by decide)
    obtain ⟨th, hth, eth, hthin⟩ := thinFrom6 (m := mi + t) (fu := fu) hO h6 (by omega) (by omega)
    have s7 : f_X7_byBells_L67 fu (p + 1) tw B (nI mi) (nI c) (nI t) = if m.testBit c then some (nI t, B) else f_X7_byBells_L115 fu (f_X7_byBells_L67 fu p) fu tw (upd B (t + 1) (B (t + 1) ||| nI m)) (nI mi) (nI c) (nI t) 0 := by
      show f_X7_byBells_L67b fu (f_X7_byBells_L67 fu p) tw B (nI mi) (nI c) (nI t) = _
      unfold f_X7_byBells_L67b
      simp only [qt7, show nI t + 1 = nI (t + 1) from nI_add t 1, qs7, cl t (show t < 2 ^ 31 by omega), cl (t + 1) (show t + 1 < 2 ^ 31 by omega), e7]
      rw [if_neg (by rw [show (501 : Int32) = nI 501 from rfl]; exact nI_ge (by omega) (by omega)), bit1 (by omega) hc]
    have s6 : f_X0_minutesAlone_L37 fu (p + 1) A ns nb ea eb ln bl (nI mi) (nI c) (nI t) = if m.testBit c then some (nI t, A) else (if 500 ≤ t then (f_X0_walkOn fu A ns ea eb ln (nI t) (nI th)).bind (fun r2 => f_X0_minutesAlone_L37 fu p r2 ns nb ea eb ln bl (nI mi) (nI c) (nI (t + 1))) else (f_X0_walkOn fu (upd A (t + 1) (A (t + 1) ||| nI m)) ns ea eb ln (nI t) (nI th)).bind (fun r2 => f_X0_minutesAlone_L37 fu p r2 ns nb ea eb ln bl (nI mi) (nI c) (nI (t + 1)))) := by
      show f_X0_minutesAlone_L37b fu (f_X0_minutesAlone_L37 fu p) A ns nb ea eb ln bl (nI mi) (nI c) (nI t) = _
      unfold f_X0_minutesAlone_L37b f_X0_minutesAlone_J91
      simp only [qt, show nI t + 1 = nI (t + 1) from nI_add t 1, cl t (show t < 2 ^ 31 by omega), cl (t + 1) (show t + 1 < 2 ^ 31 by omega), e6, nI_add, eth, bnd]
      rw [if_neg (by rw [show (500 : Int32) = nI 500 from rfl]; exact nI_nlt (by omega) (by omega)), bit1 (by omega) hc, show (500 : Int32) = nI 500 from rfl, leE (by decide) (by omega)]
      by_cases c1 : m.testBit c = true
      · rw [if_pos c1, if_pos c1]
      · rw [if_neg c1, if_neg c1]
        by_cases c2 : 500 ≤ t
        · rw [if_pos c2, if_pos c2]
        · rw [if_neg c2, if_neg c2, xb_nI _ (by omega) (by decide), xb_nI _ (by omega) (by decide)]
    rw [s6, s7]
    by_cases c1 : m.testBit c = true
    · rw [if_pos c1, if_pos c1]
      exact ⟨_, _, _, rfl, rfl⟩
    · rw [if_neg c1, if_neg c1]
      have hA : ∃ A1, BInv A1 (upd B (t + 1) (B (t + 1) ||| nI m)) ∧ (if 500 ≤ t then (f_X0_walkOn fu A ns ea eb ln (nI t) (nI th)).bind (fun r2 => f_X0_minutesAlone_L37 fu p r2 ns nb ea eb ln bl (nI mi) (nI c) (nI (t + 1))) else (f_X0_walkOn fu (upd A (t + 1) (A (t + 1) ||| nI m)) ns ea eb ln (nI t) (nI th)).bind (fun r2 => f_X0_minutesAlone_L37 fu p r2 ns nb ea eb ln bl (nI mi) (nI c) (nI (t + 1)))) = (f_X0_walkOn fu A1 ns ea eb ln (nI t) (nI th)).bind (fun r2 => f_X0_minutesAlone_L37 fu p r2 ns nb ea eb ln bl (nI mi) (nI c) (nI (t + 1))) := by
        by_cases c2 : 500 ≤ t
        · exact ⟨A, hI.far (by omega), if_pos c2⟩
        · refine ⟨upd A (t + 1) (A (t + 1) ||| nI m), ?_, if_neg c2⟩
          obtain ⟨v, hv, v6, v7⟩ := hI (t + 1) (by omega)
          rw [v6, v7, fa_or]
          exact hI.put (Nat.or_lt_two_pow (n := 7) hv hm)
      obtain ⟨A1, hI1, hA1⟩ := hA
      obtain ⟨A2, B2, e1, e2, hI2⟩ := walk_all (x3 := nI c) (k67 := f_X7_byBells_L67 fu p) hO h6 h7 hf hmi (t := t) (by omega) hth hthin (T 0 1) 0 fu A1 _ (by omega) (by omega) hI1
      rw [hA1, show f_X0_walkOn fu A1 ns ea eb ln (nI t) (nI th) = some A2 from e1, show f_X7_byBells_L115 fu (f_X7_byBells_L67 fu p) fu tw (upd B (t + 1) (B (t + 1) ||| nI m)) (nI mi) (nI c) (nI t) 0 = _ from e2, bnd]
      exact ih (t + 1) p A2 B2 (by omega) (by omega) hI2
theorem bells0_6 (A : Nat → Int32) (x2 x3 x4 : Int32) {fu : Nat} (hf : 600 ≤ fu) : ∃ A', (∀ j, j < 501 → A' j = 0) ∧ f_X0_minutesAlone fu A ns nb ea eb ln bl x2 x3 x4 = f_X0_minutesAlone_L37 fu fu (upd A' 0 ((1 : Int32) <<< (x2 &&& 31))) ns nb ea eb ln bl x3 x4 0 := by
  have h := fold_loop (fun q (A : Nat → Int32) x => f_X0_minutesAlone_L3 fu q A ns nb ea eb ln bl x2 x3 x4 x) (fun A => f_X0_minutesAlone_L37 fu fu (upd A 0 ((1 : Int32) <<< (x2 &&& 31))) ns nb ea eb ln bl x3 x4 0) (fun x A => upd A x 0) (fun x A => ∀ j, j < x → A j = 0) 501 (by
    intro q x A hx hP
    refine ⟨?_, fun j hj => ?_⟩
    · show f_X0_minutesAlone_L3b fu (f_X0_minutesAlone_L3 fu q) A ns nb ea eb ln bl x2 x3 x4 (nI x) = _
      unfold f_X0_minutesAlone_L3b
      rw [if_neg (by rw [show (500 : Int32) = nI 500 from rfl]; exact nI_nlt (by omega) (by omega)), xb_nI _ hx (by decide), cl x (by omega), show nI x + 1 = nI (x + 1) from nI_add x 1]
    · unfold upd
      by_cases e : j = x
      · rw [if_pos e]
      · rw [if_neg e]
        exact hP j (by omega)) (by
    intro q A hP
    show f_X0_minutesAlone_L3b fu (f_X0_minutesAlone_L3 fu q) A ns nb ea eb ln bl x2 x3 x4 (nI 501) = _
    unfold f_X0_minutesAlone_L3b
    rw [if_pos (by decide), xb_l (by decide)]
    rfl) 501 0 fu A (by omega) (by omega) (fun j hj => by omega)
  exact ⟨_, h.2, h.1⟩
theorem bells0_7 (B : Nat → Int32) (x1 x2 x3 : Int32) {fu : Nat} (hf : 600 ≤ fu) : ∃ B', (∀ j, j < 512 → B' j = 0) ∧ f_X7_byBells_L33 fu fu tw B x1 x2 x3 0 = f_X7_byBells_L67 fu fu tw (upd B' 0 ((1 : Int32) <<< (x1 &&& 31))) x2 x3 0 := by
  have h := fold_loop (fun q (A : Nat → Int32) x => f_X7_byBells_L33 fu q tw A x1 x2 x3 x) (fun A => f_X7_byBells_L67 fu fu tw (upd A 0 ((1 : Int32) <<< (x1 &&& 31))) x2 x3 0) (fun x A => upd A x 0) (fun x A => ∀ j, j < x → A j = 0) 512 (by
    intro q x A hx hP
    refine ⟨?_, fun j hj => ?_⟩
    · show f_X7_byBells_L33b fu (f_X7_byBells_L33 fu q) tw A x1 x2 x3 (nI x) = _
      unfold f_X7_byBells_L33b
      rw [if_neg (by rw [show (512 : Int32) = nI 512 from rfl]; exact nI_ge (by omega) (by omega)), xb_nI _ hx (by decide), cl x (by omega), show nI x + 1 = nI (x + 1) from nI_add x 1]
    · unfold upd
      by_cases e : j = x
      · rw [if_pos e]
      · rw [if_neg e]
        exact hP j (by omega)) (by
    intro q A hP
    show f_X7_byBells_L33b fu (f_X7_byBells_L33 fu q) tw A x1 x2 x3 (nI 512) = _
    unfold f_X7_byBells_L33b
    rw [if_pos (by decide), xb_l (by decide)]
    rfl) 512 0 fu B (by omega) (by omega) (fun j hj => by omega)
  exact ⟨_, h.2, h.1⟩
end BELLS
theorem st_byBells : St_byBells Sim := by
  intro I F as J G tr x1 x2 x3 h
  obtain ⟨T, hO, h6, h7, ha, r⟩ := h
  have o1 := hO.1
  have q6 : f_X6_byBells 600 (I 6) (I 7) (I 9) (F 3) (F 4) (F 5) (F 10) (F 25) x1 x2 x3 = if (0 ≤ x1.toInt ∧ x1.toInt < T 0 0) ∧ (0 ≤ x3.toInt ∧ x3.toInt < T 0 0) ∧ 0 ≤ x2.toInt ∧ x2.toInt ≤ 9999 then (f_X0_minutesAlone 600 (F 25) (I 7) (I 9) (F 3) (F 4) (F 5) (F 10) x1 x2 x3).bind (fun r7 => some (r7.1, r7.2)) else some (-1, F 25) := by
    unfold f_X6_byBells
    rw [show f_X4_hasCorner (I 6) x1 = some (if 0 ≤ x1.toInt ∧ x1.toInt < T 0 0 then 1 else 0) from by rw [h6.1]; exact hasC6 (by omega) _, show f_X4_hasCorner (I 6) x3 = some (if 0 ≤ x3.toInt ∧ x3.toInt < T 0 0 then 1 else 0) from by rw [h6.1]; exact hasC6 (by omega) _, rng6 x2 9999 9999 rfl]
    simp only [bnd, b01i]
    by_cases c1 : 0 ≤ x1.toInt ∧ x1.toInt < T 0 0
    · rw [if_pos c1]
      by_cases c2 : 0 ≤ x3.toInt ∧ x3.toInt < T 0 0
      · rw [if_pos c2]
        by_cases c3 : 0 ≤ x2.toInt ∧ x2.toInt ≤ 9999
        · rw [if_pos c3]
          exact (if_pos ⟨c1, c2, c3⟩).symm
        · rw [if_neg c3]
          exact (if_neg (fun q => c3 q.2.2)).symm
      · rw [if_neg c2]
        exact (if_neg (fun q => c2 q.2.1)).symm
    · rw [if_neg c1]
      exact (if_neg (fun q => c1 q.1)).symm
  have q7 : f_X7_byBells 600 (G 2) (G 11) x1 x2 x3 = if (0 ≤ x1.toInt ∧ x1.toInt < T 0 0) ∧ (0 ≤ x3.toInt ∧ x3.toInt < T 0 0) ∧ 0 ≤ x2.toInt ∧ x2.toInt ≤ 9999 then f_X7_byBells_L33 600 600 (G 2) (G 11) x1 x2 x3 0 else some (-1, G 11) := by
    unfold f_X7_byBells
    rw [isC7 h7.1 (by omega), isC7 h7.1 (by omega), in7n x2 0 9999 0 9999 rfl rfl]
    simp only [bnd, b01i]
    by_cases c1 : 0 ≤ x1.toInt ∧ x1.toInt < T 0 0
    · rw [if_pos c1]
      by_cases c3 : 0 ≤ x2.toInt ∧ x2.toInt ≤ 9999
      · rw [if_pos c3]
        by_cases c2 : 0 ≤ x3.toInt ∧ x3.toInt < T 0 0
        · rw [if_pos c2]
          exact (if_pos ⟨c1, c2, c3⟩).symm
        · rw [if_neg c2]
          exact (if_neg (fun q => c2 q.2.1)).symm
      · rw [if_neg c3]
        exact (if_neg (fun q => c3 q.2.2)).symm
    · rw [if_neg c1]
      exact (if_neg (fun q => c1 q.1)).symm
  by_cases c : (0 ≤ x1.toInt ∧ x1.toInt < T 0 0) ∧ (0 ≤ x3.toInt ∧ x3.toInt < T 0 0) ∧ 0 ≤ x2.toInt ∧ x2.toInt ≤ 9999
  · rw [if_pos c] at q6 q7
    obtain ⟨c1, c2, c3⟩ := c
    obtain ⟨a, hka, rfl⟩ := of_in c1.1 c1.2
    obtain ⟨b, hkb, rfl⟩ := of_in c2.1 c2.2
    obtain ⟨mi, hmi, rfl⟩ : ∃ v : Nat, v < 10000 ∧ x2 = nI v := of_in c3.1 (by omega)
    obtain ⟨A', hA, eA⟩ := bells0_6 (ns := I 7) (nb := I 9) (ea := F 3) (eb := F 4) (ln := F 5) (bl := F 10) (F 25) (nI a) (nI mi) (nI b) (fu := 600) (by decide)
    obtain ⟨B', hB, eB⟩ := bells0_7 (tw := G 2) (G 11) (nI a) (nI mi) (nI b) (fu := 600) (by decide)
    rw [eA] at q6
    rw [eB] at q7
    have p2 : 2 ^ a < 2 ^ 7 := p2lt (by omega)
    rw [oneShl (by omega)] at q6 q7
    have hI : BInv (upd A' 0 (nI (2 ^ a))) (upd B' 0 (nI (2 ^ a))) := by
      refine BInv.put (fun j hj => ⟨0, by decide, hA j hj, hB j (by omega)⟩) (by omega)
    obtain ⟨v, A2, B2, e1, e2⟩ := bells_main (fu := 600) (c := b) hO h6 h7 (by decide) (mi := mi) (by omega) (by omega) 501 0 600 _ _ (by decide) (by decide) hI
    have q6' := q6.trans (by rw [show f_X0_minutesAlone_L37 600 600 (upd A' 0 (nI (2 ^ a))) (I 7) (I 9) (F 3) (F 4) (F 5) (F 10) (nI mi) (nI b) 0 = _ from e1, bnd])
    have q7' := q7.trans e2
    exact ⟨600, _, 600, _, q6', q7', rfl, T, hO, h6, h7, ha, r⟩
  · rw [if_neg c] at q6 q7
    exact ⟨600, _, 600, _, q6, q7, rfl, T, hO, h6, h7, ha, r⟩
