/-! walks, and how they are made short -/
def Wk (E : Nat → Nat → Nat → Nat → Prop) : Nat → Nat → Nat → Nat → Nat → Prop
  | 0, u, v, f, t => u = v ∧ f = 0 ∧ t = 0
  | k + 1, u, v, f, t => ∃ m f1 t1 f2 t2, Wk E k u m f1 t1 ∧ E m v f2 t2 ∧ f = f1 + f2 ∧ t = t1 + t2
theorem wk_add {E : Nat → Nat → Nat → Nat → Prop} : ∀ {b a u m v f1 t1 f2 t2 : Nat}, Wk E a u m f1 t1 → Wk E b m v f2 t2 → Wk E (a + b) u v (f1 + f2) (t1 + t2) := by
  intro b
  induction b with
  | zero =>
    intro a u m v f1 t1 f2 t2 h1 h2
    obtain ⟨rfl, rfl, rfl⟩ := h2
    exact h1
  | succ b ih =>
    intro a u m v f1 t1 f2 t2 h1 h2
    obtain ⟨q, f3, t3, f4, t4, h3, h4, rfl, rfl⟩ := h2
    exact ⟨q, f1 + f3, t1 + t3, f4, t4, ih h1 h3, h4, by omega, by omega⟩
theorem wk_one {E : Nat → Nat → Nat → Nat → Prop} {u v f t : Nat} (h : E u v f t) : Wk E 1 u v f t := ⟨u, 0, 0, f, t, ⟨rfl, rfl, rfl⟩, h, by omega, by omega⟩
theorem wk_sym {E : Nat → Nat → Nat → Nat → Prop} (hE : ∀ u v f t, E u v f t → E v u f t) : ∀ {k u v f t : Nat}, Wk E k u v f t → Wk E k v u f t := by
  intro k
  induction k with
  | zero =>
    intro u v f t h
    exact ⟨h.1.symm, h.2.1, h.2.2⟩
  | succ k ih =>
    intro u v f t h
    obtain ⟨m, f1, t1, f2, t2, h1, h2, rfl, rfl⟩ := h
    have := wk_add (wk_one (hE _ _ _ _ h2)) (ih h1)
    rw [Nat.add_comm 1 k, Nat.add_comm f2, Nat.add_comm t2] at this
    exact this
theorem wk_seq {E : Nat → Nat → Nat → Nat → Prop} : ∀ {k u v f t : Nat}, Wk E k u v f t → ∃ p F G : Nat → Nat, p 0 = u ∧ F 0 = 0 ∧ G 0 = 0 ∧ p k = v ∧ F k = f ∧ G k = t ∧ ∀ i, i < k → ∃ a b, E (p i) (p (i + 1)) a b ∧ F (i + 1) = F i + a ∧ G (i + 1) = G i + b := by
  intro k
  induction k with
  | zero =>
    intro u v f t h
    obtain ⟨rfl, rfl, rfl⟩ := h
    exact ⟨fun _ => u, fun _ => 0, fun _ => 0, rfl, rfl, rfl, rfl, rfl, rfl, fun i hi => by omega⟩
  | succ k ih =>
    intro u v f t h
    obtain ⟨m, f1, t1, f2, t2, h1, h2, rfl, rfl⟩ := h
    obtain ⟨p, F, G, p0, F0, G0, pk, Fk, Gk, hs⟩ := ih h1
    refine ⟨fun i => if i ≤ k then p i else v, fun i => if i ≤ k then F i else f1 + f2, fun i => if i ≤ k then G i else t1 + t2, ?_, ?_, ?_, ?_, ?_, ?_, ?_⟩
    · simp [p0]
    · simp [F0]
    · simp [G0]
    · exact if_neg (by omega)
    · exact if_neg (by omega)
    · exact if_neg (by omega)
    · intro i hi
      by_cases e : i = k
      · subst e
        refine ⟨f2, t2, ?_, ?_, ?_⟩
        · show E (if i ≤ i then p i else v) (if i + 1 ≤ i then p (i + 1) else v) f2 t2
          rw [if_pos (Nat.le_refl _), if_neg (by omega), pk]
          exact h2
        · show (if i + 1 ≤ i then F (i + 1) else f1 + f2) = (if i ≤ i then F i else f1 + f2) + f2
          rw [if_pos (Nat.le_refl _), if_neg (by omega), Fk]
        · show (if i + 1 ≤ i then G (i + 1) else t1 + t2) = (if i ≤ i then G i else t1 + t2) + t2
          rw [if_pos (Nat.le_refl _), if_neg (by omega), Gk]
      · obtain ⟨a, b, q1, q2, q3⟩ := hs i (by omega)
        refine ⟨a, b, ?_, ?_, ?_⟩
        · simpa [show i ≤ k by omega, show i + 1 ≤ k by omega] using q1
        · simpa [show i ≤ k by omega, show i + 1 ≤ k by omega] using q2
        · simpa [show i ≤ k by omega, show i + 1 ≤ k by omega] using q3
theorem seq_wk {E : Nat → Nat → Nat → Nat → Prop} {p F G : Nat → Nat} {k : Nat} (h : ∀ i, i < k → ∃ a b, E (p i) (p (i + 1)) a b ∧ F (i + 1) = F i + a ∧ G (i + 1) = G i + b) (i : Nat) : ∀ d, i + d ≤ k → ∃ f t, Wk E d (p i) (p (i + d)) f t ∧ F (i + d) = F i + f ∧ G (i + d) = G i + t := by
  intro d
  induction d with
  | zero =>
    intro _
    exact ⟨0, 0, ⟨rfl, rfl, rfl⟩, rfl, rfl⟩
  | succ d ih =>
    intro hd
    obtain ⟨f, t, h1, h2, h3⟩ := ih (by omega)
    obtain ⟨a, b, q1, q2, q3⟩ := h (i + d) (by omega)
    exact ⟨f + a, t + b, ⟨p (i + d), f, t, a, b, h1, q1, rfl, rfl⟩, by rw [show i + (d + 1) = i + d + 1 by omega]; omega, by rw [show i + (d + 1) = i + d + 1 by omega]; omega⟩
theorem pigeon : ∀ (n : Nat) (p : Nat → Nat), (∀ i, i ≤ n → p i < n) → ∃ i j, i < j ∧ j ≤ n ∧ p i = p j := by
  intro n
  induction n with
  | zero =>
    intro p h
    have := h 0 (by omega)
    omega
  | succ n ih =>
    intro p h
    by_cases e : ∃ i, i ≤ n ∧ p i = p (n + 1)
    · obtain ⟨i, hi, he⟩ := e
      exact ⟨i, n + 1, by omega, by omega, he⟩
    · have hne : ∀ i, i ≤ n → p i ≠ p (n + 1) := fun i hi q => e ⟨i, hi, q⟩
      have hw := h (n + 1) (by omega)
      obtain ⟨i, j, h1, h2, h3⟩ := ih (fun i => if p i = n then p (n + 1) else p i) (by
        intro i hi
        have a := h i (by omega)
        have b := hne i hi
        show (if p i = n then p (n + 1) else p i) < n
        split <;> omega)
      refine ⟨i, j, h1, by omega, ?_⟩
      have a := hne i (by omega)
      have b := hne j (by omega)
      have h3 : (if p i = n then p (n + 1) else p i) = (if p j = n then p (n + 1) else p j) := h3
      split at h3 <;> split at h3 <;> omega
theorem wk_short {E : Nat → Nat → Nat → Nat → Prop} {N : Nat} (hN : ∀ u v f t, E u v f t → u < N ∧ v < N) (h0 : 0 < N) {k u v f t : Nat} (hk : N ≤ k) (h : Wk E k u v f t) : ∃ k' f' t', k' < k ∧ f' ≤ f ∧ t' ≤ t ∧ Wk E k' u v f' t' := by
  obtain ⟨p, F, G, p0, F0, G0, pk, Fk, Gk, hs⟩ := wk_seq h
  have hp : ∀ i, i ≤ N → p i < N := by
    intro i hi
    by_cases e : i < k
    · obtain ⟨a, b, q, _⟩ := hs i e
      exact (hN _ _ _ _ q).1
    · obtain ⟨a, b, q, _⟩ := hs (i - 1) (by omega)
      rw [show i - 1 + 1 = i by omega] at q
      exact (hN _ _ _ _ q).2
  obtain ⟨i, j, hij, hj, e⟩ := pigeon N p hp
  obtain ⟨f1, t1, w1, a1, b1⟩ := seq_wk hs 0 i (by omega)
  obtain ⟨f2, t2, w2, a2, b2⟩ := seq_wk hs i (j - i) (by omega)
  obtain ⟨f3, t3, w3, a3, b3⟩ := seq_wk hs j (k - j) (by omega)
  rw [show j + (k - j) = k by omega] at w3 a3 b3
  rw [show i + (j - i) = j by omega] at a2 b2
  rw [Nat.zero_add] at w1 a1 b1
  rw [e] at w1
  have := wk_add w1 w3
  rw [p0, pk] at this
  exact ⟨i + (k - j), f1 + f3, t1 + t3, by omega, by omega, by omega, this⟩
theorem wk_dom {E : Nat → Nat → Nat → Nat → Prop} {N : Nat} (hN : ∀ u v f t, E u v f t → u < N ∧ v < N) (h0 : 0 < N) : ∀ (n k u v f t : Nat), k ≤ n → Wk E k u v f t → ∃ k' f' t', k' < N ∧ f' ≤ f ∧ t' ≤ t ∧ Wk E k' u v f' t' := by
  intro n
  induction n with
  | zero =>
    intro k u v f t hk h
    exact ⟨k, f, t, by omega, Nat.le_refl _, Nat.le_refl _, h⟩
  | succ n ih =>
    intro k u v f t hk h
    by_cases e : k < N
    · exact ⟨k, f, t, e, Nat.le_refl _, Nat.le_refl _, h⟩
    · obtain ⟨k', f', t', h1, h2, h3, h4⟩ := wk_short hN h0 (by omega) h
      obtain ⟨k2, f2, t2, q1, q2, q3, q4⟩ := ih k' u v f' t' (by omega) h4
      exact ⟨k2, f2, t2, q1, by omega, by omega, q4⟩
theorem wk_bnd {E : Nat → Nat → Nat → Nat → Prop} {W : Nat} (hW : ∀ u v f t, E u v f t → f ≤ W ∧ t ≤ W) : ∀ {k u v f t : Nat}, Wk E k u v f t → f ≤ k * W ∧ t ≤ k * W := by
  intro k
  induction k with
  | zero =>
    intro u v f t h
    obtain ⟨rfl, rfl, rfl⟩ := h
    omega
  | succ k ih =>
    intro u v f t h
    obtain ⟨m, f1, t1, f2, t2, h1, h2, rfl, rfl⟩ := h
    have a := ih h1
    have b := hW _ _ _ _ h2
    rw [Nat.add_mul]
    omega
/-! labels that are lowered -/
def Lb (L : Nat → Option Nat) (v x : Nat) : Prop := ∃ b, L v = some b ∧ b ≤ x
def Snd (E : Nat → Nat → Nat → Nat → Prop) (al be : Nat) (L0 L : Nat → Option Nat) : Prop := ∀ v a, L v = some a → ∃ u s k f t, L0 u = some s ∧ Wk E k u v f t ∧ a = s + (al * f + be * t)
def Upt (E : Nat → Nat → Nat → Nat → Prop) (al be : Nat) (L0 : Nat → Option Nat) (k : Nat) (L : Nat → Option Nat) : Prop := ∀ u s j v f t, L0 u = some s → j ≤ k → Wk E j u v f t → Lb L v (s + (al * f + be * t))
def Cmp (E : Nat → Nat → Nat → Nat → Prop) (al be : Nat) (L0 L : Nat → Option Nat) : Prop := ∀ k, Upt E al be L0 k L
def RStp (E : Nat → Nat → Nat → Nat → Prop) (al be : Nat) (L0 : Nat → Option Nat) (C : Nat → Nat → Nat → Prop) (L : Nat → Option Nat) (ch : Int32) (L' : Nat → Option Nat) (ch' : Int32) : Prop :=
  (∀ v x, Lb L v x → Lb L' v x) ∧ (∀ u v w x, C u v w → Lb L u x → Lb L' v (x + w)) ∧ (Snd E al be L0 L → Snd E al be L0 L') ∧ (ch' = 0 → ch = 0 ∧ L' = L) ∧ (Cmp E al be L0 L → Snd E al be L0 L → L' = L ∧ ch' = ch) ∧ (ch = 0 ∨ ch = 1 → ch' = 0 ∨ ch' = 1)
def rlb (L : Nat → Option Nat) (v u w : Nat) : Bool := match L u with
  | none => false
  | some a => match L v with
    | none => true
    | some b => decide (a + w < b)
def putL (L : Nat → Option Nat) (v c : Nat) : Nat → Option Nat := fun j => if j = v then some c else L j
def rlx (L : Nat → Option Nat) (v u w : Nat) : Nat → Option Nat := if rlb L v u w then putL L v ((L u).getD 0 + w) else L
section LABELS
variable {E : Nat → Nat → Nat → Nat → Prop} {al be : Nat} {L0 : Nat → Option Nat}
theorem stp_same {C : Nat → Nat → Nat → Prop} {L : Nat → Option Nat} {ch : Int32} (h : ∀ u v w x, C u v w → Lb L u x → Lb L v (x + w)) : RStp E al be L0 C L ch L ch :=
  ⟨fun _ _ h => h, h, id, fun h => ⟨h, rfl⟩, fun _ _ => ⟨rfl, rfl⟩, id⟩
theorem stp_nil {C : Nat → Nat → Nat → Prop} {L : Nat → Option Nat} {ch : Int32} (h : ∀ u v w, ¬ C u v w) : RStp E al be L0 C L ch L ch := stp_same (fun u v w _ q => absurd q (h u v w))
theorem stp_trans {C C1 C2 : Nat → Nat → Nat → Prop} {L L1 L2 : Nat → Option Nat} {ch c1 c2 : Int32} (hC : ∀ u v w, C u v w → C1 u v w ∨ C2 u v w) (h1 : RStp E al be L0 C1 L ch L1 c1) (h2 : RStp E al be L0 C2 L1 c1 L2 c2) : RStp E al be L0 C L ch L2 c2 := by
  obtain ⟨a1, a2, a3, a4, a5, a6⟩ := h1
  obtain ⟨b1, b2, b3, b4, b5, b6⟩ := h2
  refine ⟨fun v x h => b1 v x (a1 v x h), fun u v w x hc hl => ?_, fun h => b3 (a3 h), fun h => ?_, fun hc hs => ?_, fun h => b6 (a6 h)⟩
  · rcases hC u v w hc with q | q
    · exact b1 _ _ (a2 u v w x q hl)
    · exact b2 u v w x q (a1 _ _ hl)
  · obtain ⟨e1, e2⟩ := b4 h
    obtain ⟨e3, e4⟩ := a4 e1
    exact ⟨e3, e2.trans e4⟩
  · obtain ⟨e1, e2⟩ := a5 hc hs
    obtain ⟨e3, e4⟩ := b5 (by rw [e1]; exact hc) (by rw [e1]; exact hs)
    exact ⟨e3.trans e1, e4.trans e2⟩
theorem stp_sub {C C1 : Nat → Nat → Nat → Prop} {L L1 : Nat → Option Nat} {ch c1 : Int32} (hC : ∀ u v w, C u v w → C1 u v w) (h1 : RStp E al be L0 C1 L ch L1 c1) : RStp E al be L0 C L ch L1 c1 :=
  ⟨h1.1, fun u v w x hc hl => h1.2.1 u v w x (hC u v w hc) hl, h1.2.2⟩
theorem stp_put {L : Nat → Option Nat} {ch : Int32} {u v f t a : Nat} (hE : E u v f t) (hu : L u = some a) (hv : ∀ b, L v = some b → a + (al * f + be * t) < b) : RStp E al be L0 (fun x y z => x = u ∧ y = v ∧ z = al * f + be * t) L ch (putL L v (a + (al * f + be * t))) 1 := by
  have key : Snd E al be L0 L → ∃ q s k f' t', L0 q = some s ∧ Wk E k q v f' t' ∧ a + (al * f + be * t) = s + (al * f' + be * t') := by
    intro hs
    obtain ⟨q, s, k, f1, t1, h1, h2, h3⟩ := hs u a hu
    refine ⟨q, s, k + 1, f1 + f, t1 + t, h1, ⟨u, f1, t1, f, t, h2, hE, rfl, rfl⟩, ?_⟩
    rw [Nat.mul_add, Nat.mul_add]
    omega
  refine ⟨fun j x h => ?_, fun x y z q hc hl => ?_, fun hs => ?_, fun h => by simp at h, fun hc hs => ?_, fun _ => .inr rfl⟩
  · obtain ⟨b, h1, h2⟩ := h
    by_cases e : j = v
    · subst e
      refine ⟨_, by unfold putL; rw [if_pos rfl], ?_⟩
      have := hv b h1
      omega
    · exact ⟨b, by unfold putL; rw [if_neg e]; exact h1, h2⟩
  · obtain ⟨rfl, rfl, rfl⟩ := hc
    obtain ⟨b, h1, h2⟩ := hl
    rw [hu] at h1
    cases h1
    exact ⟨_, by unfold putL; rw [if_pos rfl], by omega⟩
  · intro j b hj
    unfold putL at hj
    by_cases e : j = v
    · subst e
      rw [if_pos rfl] at hj
      cases hj
      exact key hs
    · rw [if_neg e] at hj
      exact hs j b hj
  · obtain ⟨q, s, k, f1, t1, h1, h2, h3⟩ := key hs
    obtain ⟨b, h4, h5⟩ := hc k q s k v f1 t1 h1 (Nat.le_refl _) h2
    have := hv b h4
    omega
theorem stp_rlx {L : Nat → Option Nat} {ch : Int32} {u v f t w : Nat} (hE : E u v f t) (hw : w = al * f + be * t) : RStp E al be L0 (fun x y z => x = u ∧ y = v ∧ z = w) L ch (rlx L v u w) (if rlb L v u w then 1 else ch) := by
  subst hw
  unfold rlx
  cases hb : rlb L v u (al * f + be * t)
  · rw [if_neg (by simp), if_neg (by simp)]
    refine stp_same (fun x y z q hc hl => ?_)
    obtain ⟨rfl, rfl, rfl⟩ := hc
    obtain ⟨a, h1, h2⟩ := hl
    unfold rlb at hb
    rw [h1] at hb
    cases hv : L y with
    | none => simp [hv] at hb
    | some b =>
      simp [hv] at hb
      exact ⟨b, hv, by omega⟩
  · rw [if_pos rfl, if_pos rfl]
    unfold rlb at hb
    cases hu : L u with
    | none => simp [hu] at hb
    | some a =>
      refine stp_put hE hu (fun b q => ?_)
      simp [hu, q] at hb
      exact hb
theorem upt_succ {C : Nat → Nat → Nat → Prop} {L L' : Nat → Option Nat} {ch ch' : Int32} {k : Nat} (hC : ∀ u v f t, E u v f t → C u v (al * f + be * t)) (h : RStp E al be L0 C L ch L' ch') (hu : Upt E al be L0 k L) : Upt E al be L0 (k + 1) L' := by
  intro u s j v f t h0 hj hw
  by_cases e : j ≤ k
  · exact h.1 _ _ (hu u s j v f t h0 e hw)
  · obtain rfl : j = k + 1 := by omega
    obtain ⟨m, f1, t1, f2, t2, h1, h2, rfl, rfl⟩ := hw
    have q := h.2.1 m v _ _ (hC _ _ _ _ h2) (hu u s k m f1 t1 h0 (Nat.le_refl _) h1)
    rw [show s + (al * (f1 + f2) + be * (t1 + t2)) = s + (al * f1 + be * t1) + (al * f2 + be * t2) by rw [Nat.mul_add, Nat.mul_add]; omega]
    exact q
theorem cmp_fix {C : Nat → Nat → Nat → Prop} {L : Nat → Option Nat} {ch ch' : Int32} (hC : ∀ u v f t, E u v f t → C u v (al * f + be * t)) (h : RStp E al be L0 C L ch L ch') (hu : Upt E al be L0 0 L) : Cmp E al be L0 L := by
  intro k
  induction k with
  | zero => exact hu
  | succ k ih => exact upt_succ hC h ih
theorem cmp_of {N k : Nat} {L : Nat → Option Nat} (hN : ∀ u v f t, E u v f t → u < N ∧ v < N) (h0 : 0 < N) (hk : N ≤ k + 1) (hu : Upt E al be L0 k L) : Cmp E al be L0 L := by
  intro n u s j v f t hs hj hw
  obtain ⟨k', f', t', h1, h2, h3, h4⟩ := wk_dom hN h0 j j u v f t (Nat.le_refl _) hw
  obtain ⟨b, h5, h6⟩ := hu u s k' v f' t' hs (by omega) h4
  have a1 := Nat.mul_le_mul_left al h2
  have a2 := Nat.mul_le_mul_left be h3
  exact ⟨b, h5, by omega⟩
theorem upt_0 {L : Nat → Option Nat} (h : ∀ u s, L0 u = some s → Lb L u s) : Upt E al be L0 0 L := by
  intro u s j v f t h0 hj hw
  obtain rfl : j = 0 := by omega
  obtain ⟨rfl, rfl, rfl⟩ := hw
  simpa using h u s h0
theorem snd_0 : Snd E al be L0 L0 := by
  intro v a h
  exact ⟨v, a, 0, 0, 0, h, ⟨rfl, rfl, rfl⟩, by omega⟩
theorem upt_le {L : Nat → Option Nat} {j k : Nat} (hj : j ≤ k) (h : Upt E al be L0 k L) : Upt E al be L0 j L := fun u s i v f t h0 hi hw => h u s i v f t h0 (by omega) hw
end LABELS
theorem loop_ex {σ R : Type} (Lp : Nat → σ → Int32 → Option R) (Ed : σ → Option R) (I : Nat → σ → Prop) (Q : Nat → σ → σ → Prop) (N : Nat) (hr : ∀ s, Q N s s) (hs : ∀ n x s, x < N → I x s → ∃ s', Lp (n + 1) s (nI x) = Lp n s' (nI (x + 1)) ∧ I (x + 1) s' ∧ ∀ s'', Q (x + 1) s' s'' → Q x s s'') (he : ∀ n s, I N s → Lp (n + 1) s (nI N) = Ed s) : ∀ (d x n : Nat) (s : σ), x + d = N → d < n → I x s → ∃ s', Lp n s (nI x) = Ed s' ∧ I N s' ∧ Q x s s' := by
  intro d
  induction d with
  | zero =>
    intro x n s hx hn hP
    obtain ⟨k, rfl⟩ : ∃ k, n = k + 1 := ⟨n - 1, by omega⟩
    have : x = N := by omega
    subst this
    exact ⟨s, he k s hP, hP, hr s⟩
  | succ d ih =>
    intro x n s hx hn hP
    obtain ⟨k, rfl⟩ : ∃ k, n = k + 1 := ⟨n - 1, by omega⟩
    obtain ⟨s1, h1, h2, h3⟩ := hs k x s (by omega) hP
    obtain ⟨s2, h4, h5, h6⟩ := ih (x + 1) k s1 (by omega) (by omega) h2
    exact ⟨s2, h1.trans h4, h5, h3 s2 h6⟩
