/-! soonest, cheapest: the reference's labels -/
def lexlt (f t b f' t' b' : Nat) : Prop := f < f' ∨ (f = f' ∧ (t < t' ∨ (t = t' ∧ b < b')))
theorem isLess7 {fs ts bs : Nat → Int32} {v f t b f' t' b' : Nat} (hv : v < 28) (e1 : fs v = nI f') (e2 : ts v = nI t') (e3 : bs v = nI b') (h1 : f < 2 ^ 31) (h2 : t < 2 ^ 31) (h3 : b < 2 ^ 31) (h4 : f' < 2 ^ 31) (h5 : t' < 2 ^ 31) (h6 : b' < 2 ^ 31) : (lexlt f t b f' t' b' ∧ f_X7_isLess fs ts bs (nI f) (nI t) (nI b) (nI v) = some 1) ∨ (¬ lexlt f t b f' t' b' ∧ f_X7_isLess fs ts bs (nI f) (nI t) (nI b) (nI v) = some 0) := by
  have q : ∀ {α : Type} (X : Option α), xb (nI v) 28 X = X := fun X => xb_nI X hv (by decide)
  unfold f_X7_isLess lexlt
  simp only [q, cl v (show v < 2 ^ 31 by omega), e1, e2, e3]
  rw [ltE h1 h4, eqE h1 h4, ltE h2 h5, eqE h2 h5, leE h6 h3]
  by_cases c1 : f < f'
  · exact .inl ⟨.inl c1, if_pos c1⟩
  · rw [if_neg c1]
    by_cases c2 : f = f'
    · rw [if_pos c2]
      by_cases c3 : t < t'
      · exact .inl ⟨by omega, if_pos c3⟩
      · rw [if_neg c3]
        by_cases c4 : t = t'
        · rw [if_pos c4]
          by_cases c5 : b' ≤ b
          · exact .inr ⟨by omega, if_pos c5⟩
          · exact .inl ⟨by omega, if_neg c5⟩
        · exact .inr ⟨by omega, if_neg c4⟩
    · exact .inr ⟨by omega, if_neg c2⟩
def Rep7 (L : Nat → Option Nat) (fs ts bs : Nat → Int32) (n : Nat) : Prop := ∀ v, v < 28 → (L v = none ∧ fs v = nI 99999999 ∧ ts v = nI 99999999 ∧ bs v = nI 99999999) ∨ ∃ f t b, L v = some ((f * 16777216 + t) * 4 + b) ∧ fs v = nI f ∧ ts v = nI t ∧ bs v = nI b ∧ f ≤ n ∧ t ≤ n ∧ b < 4
theorem Rep7.mono {L : Nat → Option Nat} {fs ts bs : Nat → Int32} {n m : Nat} (h : Rep7 L fs ts bs n) (hm : n ≤ m) : Rep7 L fs ts bs m := by
  intro v hv
  rcases h v hv with q | ⟨f, t, b, h1, h2, h3, h4, h5, h6, h7⟩
  · exact .inl q
  · exact .inr ⟨f, t, b, h1, h2, h3, h4, by omega, by omega, h7⟩
theorem Rep7.put {L : Nat → Option Nat} {fs ts bs : Nat → Int32} {n v f t b c : Nat} (h : Rep7 L fs ts bs n) (hf : f ≤ n) (ht : t ≤ n) (hb : b < 4) (hc : c = (f * 16777216 + t) * 4 + b) : Rep7 (putL L v c) (upd fs v (nI f)) (upd ts v (nI t)) (upd bs v (nI b)) n := by
  intro j hj
  by_cases e : j = v
  · exact .inr ⟨f, t, b, (if_pos e).trans (by rw [hc]), if_pos e, if_pos e, if_pos e, hf, ht, hb⟩
  · rcases h j hj with ⟨q1, q2, q3, q4⟩ | ⟨f', t', b', h1, h2, h3, h4, h5⟩
    · exact .inl ⟨(if_neg e).trans q1, (if_neg e).trans q2, (if_neg e).trans q3, (if_neg e).trans q4⟩
    · exact .inr ⟨f', t', b', (if_neg e).trans h1, (if_neg e).trans h2, (if_neg e).trans h3, (if_neg e).trans h4, h5⟩
theorem lessens_no {fs ts bs : Nat → Int32} {ch x1 x2 x3 x4 : Int32} (h : f_X7_isLess fs ts bs x2 x3 x4 x1 = some 0) : f_X7_lessens fs ts bs ch x1 x2 x3 x4 = some (fs, ts, bs, ch) := by
  unfold f_X7_lessens
  rw [h, bnd]
  rfl
theorem lessens_yes {fs ts bs : Nat → Int32} {ch x2 x3 x4 : Int32} {v : Nat} (hv : v < 28) (h : f_X7_isLess fs ts bs x2 x3 x4 (nI v) = some 1) : f_X7_lessens fs ts bs ch (nI v) x2 x3 x4 = some (upd fs v x2, upd ts v x3, upd bs v x4, 1) := by
  have q : ∀ {α : Type} (X : Option α), xb (nI v) 28 X = X := fun X => xb_nI X hv (by decide)
  unfold f_X7_lessens
  rw [h, bnd]
  simp only [q, cl v (show v < 2 ^ 31 by omega)]
  rfl
theorem lessens7 {L : Nat → Option Nat} {fs ts bs : Nat → Int32} {n u v wf wt : Nat} {ch : Int32} (h : Rep7 L fs ts bs n) (hn : n + 126 < 10000000) (hu : u < 28) (hv : v < 28) (hf : wf ≤ 126) (ht : wt ≤ 126) : ∃ fs' ts' bs', f_X7_lessens fs ts bs ch (nI v) (fs u + nI wf) (ts u + nI wt) (bs u) = some (fs', ts', bs', if rlb L v u (67108864 * wf + 4 * wt) then 1 else ch) ∧ Rep7 (rlx L v u (67108864 * wf + 4 * wt)) fs' ts' bs' (n + 126) := by
  unfold rlx
  have hm := h.mono (show n ≤ n + 126 by omega)
  rcases h u hu with ⟨u1, u2, u3, u4⟩ | ⟨f, t, b, u1, u2, u3, u4, u5, u6, u7⟩
  · have hb : rlb L v u (67108864 * wf + 4 * wt) = false := by unfold rlb; rw [u1]
    rw [hb, u2, u3, u4, nI_add, nI_add]
    rcases h v hv with ⟨v1, v2, v3, v4⟩ | ⟨f', t', b', v1, v2, v3, v4, v5, v6, v7⟩
    · rcases isLess7 (f := 99999999 + wf) (t := 99999999 + wt) (b := 99999999) hv v2 v3 v4 (by omega) (by omega) (by omega) (by omega) (by omega) (by omega) with ⟨c, e⟩ | ⟨c, e⟩
      · unfold lexlt at c
        omega
      · exact ⟨fs, ts, bs, lessens_no e, hm⟩
    · rcases isLess7 (f := 99999999 + wf) (t := 99999999 + wt) (b := 99999999) hv v2 v3 v4 (by omega) (by omega) (by omega) (by omega) (by omega) (by omega) with ⟨c, e⟩ | ⟨c, e⟩
      · unfold lexlt at c
        omega
      · exact ⟨fs, ts, bs, lessens_no e, hm⟩
  · rw [u2, u3, u4, nI_add, nI_add, u1]
    rcases h v hv with ⟨v1, v2, v3, v4⟩ | ⟨f', t', b', v1, v2, v3, v4, v5, v6, v7⟩
    · have hb : rlb L v u (67108864 * wf + 4 * wt) = true := by unfold rlb; rw [u1, v1]
      rw [hb]
      rcases isLess7 (f := f + wf) (t := t + wt) (b := b) hv v2 v3 v4 (by omega) (by omega) (by omega) (by omega) (by omega) (by omega) with ⟨c, e⟩ | ⟨c, e⟩
      · refine ⟨_, _, _, lessens_yes hv e, hm.put (by omega) (by omega) u7 ?_⟩
        show (f * 16777216 + t) * 4 + b + (67108864 * wf + 4 * wt) = _
        omega
      · unfold lexlt at c
        omega
    · rcases isLess7 (f := f + wf) (t := t + wt) (b := b) hv v2 v3 v4 (by omega) (by omega) (by omega) (by omega) (by omega) (by omega) with ⟨c, e⟩ | ⟨c, e⟩
      · have hb : rlb L v u (67108864 * wf + 4 * wt) = true := by
          unfold rlb
          rw [u1, v1]
          refine decide_eq_true ?_
          unfold lexlt at c
          omega
        rw [hb]
        refine ⟨_, _, _, lessens_yes hv e, hm.put (by omega) (by omega) u7 ?_⟩
        show (f * 16777216 + t) * 4 + b + (67108864 * wf + 4 * wt) = _
        omega
      · have hb : rlb L v u (67108864 * wf + 4 * wt) = false := by
          unfold rlb
          rw [u1, v1]
          refine decide_eq_false ?_
          unfold lexlt at c
          omega
        rw [hb]
        exact ⟨fs, ts, bs, lessens_no e, hm⟩
section ROUTE7
variable {T : Nat → Nat → Nat} {tw : Nat → Int32} {L0 : Nat → Option Nat}
theorem j101 {fu u m p : Nat} {so : Bool} {fs ts bs : Nat → Int32} {ch x1 x2 x5 z1 : Int32} {k10 : (Nat → Int32) → (Nat → Int32) → (Nat → Int32) → (Nat → Int32) → Int32 → Int32 → Int32 → Int32 → Int32 → Int32 → Option R_X7_goesOn} (hu : u < 28) : (if bi so = 0 then (f_X7_goesOn_J101 fu k10 tw fs ts bs ch x1 x2 (bi so) (nI u) x5 (nI m) (nI p) z1 (fs u) (nI p)) else (f_X7_goesOn_J101 fu k10 tw fs ts bs ch x1 x2 (bi so) (nI u) x5 (nI m) (nI p) z1 (fs u) (nI m))) = (f_X7_lessens fs ts bs ch z1 (fs u + nI (fo so m p)) (ts u + nI (fo so p m)) (bs u)).bind (fun r => k10 tw r.1 r.2.1 r.2.2.1 r.2.2.2 x1 x2 (bi so) (nI u) (x5 + 1)) := by
  have q : ∀ {α : Type} (X : Option α), xb (nI u) 28 X = X := fun X => xb_nI X hu (by decide)
  unfold f_X7_goesOn_J101 f_X7_goesOn_J120
  simp only [q, cl u (show u < 2 ^ 31 by omega)]
  cases so
  · rw [if_pos (show bi false = 0 from rfl), if_pos (show bi false = 0 from rfl)]
    rfl
  · rw [if_neg (show ¬ bi true = 0 from by decide), if_neg (show ¬ bi true = 0 from by decide)]
    rfl
theorem j204 {fu u m : Nat} {so : Bool} {fs ts bs : Nat → Int32} {ch x1 x2 x5 z1 : Int32} {k140 : (Nat → Int32) → (Nat → Int32) → (Nat → Int32) → (Nat → Int32) → Int32 → Int32 → Int32 → Int32 → Int32 → Int32 → Option R_X7_goesOn} (hu : u < 28) (h3 : tw 3 = nI m) : (if bi so = 0 then (f_X7_goesOn_J204 fu k140 tw fs ts bs ch x1 x2 (bi so) (nI u) x5 z1 (fs u) 0) else (xb (3 : Int32) 64 (f_X7_goesOn_J204 fu k140 tw fs ts bs ch x1 x2 (bi so) (nI u) x5 z1 (fs u) (tw (3 : Int32).toNatClampNeg)))) = (f_X7_lessens fs ts bs ch z1 (fs u + nI (fo so m 0)) (ts u + nI (fo so 0 m)) (bs u)).bind (fun r => k140 tw r.1 r.2.1 r.2.2.1 r.2.2.2 x1 x2 (bi so) (nI u) (x5 + 1)) := by
  have q : ∀ {α : Type} (X : Option α), xb (nI u) 28 X = X := fun X => xb_nI X hu (by decide)
  have q3 : ∀ {α : Type} (X : Option α), xb (3 : Int32) 64 X = X := fun X => xb_l (by decide)
  unfold f_X7_goesOn_J204 f_X7_goesOn_J226
  simp only [q, q3, cl u (show u < 2 ^ 31 by omega), show ((3 : Int32).toNatClampNeg) = 3 from rfl, h3]
  cases so
  · rw [if_pos (show bi false = 0 from rfl), if_pos (show bi false = 0 from rfl)]
    rfl
  · rw [if_neg (show ¬ bi true = 0 from by decide), if_neg (show ¬ bi true = 0 from by decide)]
    rfl
/-- steps from one node by streets -/
def SN (T : Nat → Nat → Nat) (so : Bool) (al be c g s u v w : Nat) : Prop := SC T so al be g s u v w ∧ u = c * 4 + g
theorem streets7 (hO : TOk T) (h7 : TwB T tw) {fu g c n0 : Nat} {so : Bool} (hg : g < T 0 2) (hc : c < T 0 0) (hf : 10 ≤ fu) (hn : n0 + 1134 < 10000000) {fs ts bs : Nat → Int32} {ch : Int32} {L : Nat → Option Nat} (hR : Rep7 L fs ts bs n0) : ∃ fs' ts' bs' ch' L', f_X7_goesOn fu tw fs ts bs ch (nI c) (nI g) (bi so) = f_X7_goesOn_L140 fu fu tw fs' ts' bs' ch' (nI c) (nI g) (bi so) (nI (c * 4 + g)) 0 ∧ Rep7 L' fs' ts' bs' (n0 + 1134) ∧ RStp (RE T so) 67108864 4 L0 (fun u v w => ∃ s, 0 ≤ s ∧ s < T 0 1 ∧ SN T so 67108864 4 c g s u v w) L ch L' ch' := by
  have o1 := hO.1
  have o2 := hO.2.1
  have o3 := hO.2.2.1
  have q1 : ∀ {α : Type} (X : Option α), xb (1 : Int32) 64 X = X := fun X => xb_l (by decide)
  have hn4 : ∀ y z : Nat, 4 * nI y + nI z = nI (y * 4 + z) := fun y z => by rw [show (4 : Int32) = nI 4 from rfl, pk_mul, nI_add, Nat.mul_comm]
  unfold f_X7_goesOn
  rw [hn4]
  refine Exists.elim (loop_ex (σ := (Nat → Int32) × (Nat → Int32) × (Nat → Int32) × Int32 × (Nat → Option Nat)) (fun n s x => f_X7_goesOn_L10 fu n tw s.1 s.2.1 s.2.2.1 s.2.2.2.1 (nI c) (nI g) (bi so) (nI (c * 4 + g)) x) (fun s => f_X7_goesOn_L140 fu fu tw s.1 s.2.1 s.2.2.1 s.2.2.2.1 (nI c) (nI g) (bi so) (nI (c * 4 + g)) 0) (fun x s => Rep7 s.2.2.2.2 s.1 s.2.1 s.2.2.1 (n0 + 126 * x)) (fun x s s' => RStp (RE T so) 67108864 4 L0 (fun u v w => ∃ i, x ≤ i ∧ i < T 0 1 ∧ SN T so 67108864 4 c g i u v w) s.2.2.2.2 s.2.2.2.1 s'.2.2.2.2 s'.2.2.2.1) (T 0 1) (fun s => stp_nil (fun u v w q => by obtain ⟨i, h1, h2, _⟩ := q; omega)) ?_ ?_ (T 0 1) 0 fu (fs, ts, bs, ch, L) (by omega) (by omega) hR) (fun s' h => ⟨s'.1, s'.2.1, s'.2.2.1, s'.2.2.2.1, s'.2.2.2.2, h.1, h.2.1.mono (by omega), h.2.2⟩)
  · intro n x s hx hI
    obtain ⟨fs, ts, bs, ch, L⟩ := s
    have hR : Rep7 L fs ts bs (n0 + 126 * x) := hI
    have o := hO.2.2.2.2.2.2.1 x hx
    have ok := hO.2.2.2.2.2.2.2.1 g hg
    have o9 := pw9 hO
    have hl := led_le hO hx hg
    generalize hm : T 4 x + T 5 g = m at hl
    generalize hp : T 6 g * m = p at hl
    have hfo1 : fo so m p ≤ 126 := fo_le (by omega) (by omega)
    have hfo2 : fo so p m ≤ 126 := fo_le (by omega) (by omega)
    generalize hw : 67108864 * fo so m p + 4 * fo so p m = w
    generalize hd : (if T 2 x = c then T 3 x else T 2 x) = d
    have hdl : d < 7 := by rw [← hd]; split <;> omega
    obtain ⟨f1, t1, b1, l1, R1⟩ := lessens7 (ch := ch) (u := c * 4 + g) (v := d * 4 + g) (wf := fo so m p) (wt := fo so p m) hR (by omega) (by omega) (by omega) hfo1 hfo2
    rw [hw] at l1 R1
    have e0 : f_X7_goesOn_L10 fu (n + 1) tw fs ts bs ch (nI c) (nI g) (bi so) (nI (c * 4 + g)) (nI x) = if (T 2 x = c ∨ T 3 x = c) ∧ (T 7 g).testBit x = true then f_X7_goesOn_L10 fu n tw f1 t1 b1 (if rlb L (d * 4 + g) (c * 4 + g) w then 1 else ch) (nI c) (nI g) (bi so) (nI (c * 4 + g)) (nI (x + 1)) else f_X7_goesOn_L10 fu n tw fs ts bs ch (nI c) (nI g) (bi so) (nI (c * 4 + g)) (nI (x + 1)) := by
      show f_X7_goesOn_L10b fu (f_X7_goesOn_L10 fu n) tw fs ts bs ch (nI c) (nI g) (bi so) (nI (c * 4 + g)) (nI x) = _
      unfold f_X7_goesOn_L10b
      rw [q1, show ((1 : Int32).toNatClampNeg) = 1 from rfl, h7.2.1, if_neg (nI_ge (by omega) (by omega)), over7 hO h7 hx (by omega), known7 hO h7 hg, length7 hO h7 hx, pace7 hO h7 hg, fee7 hO h7 hg, show nI x + 1 = nI (x + 1) from nI_add x 1, hd]
      simp only [bnd]
      by_cases c1 : T 2 x = c ∨ T 3 x = c
      · rw [if_pos c1, if_neg (neg9 (by omega)), bit1 (by omega) (by omega), nI_add, hm, pk_mul, hp, hn4, xb_nI _ (show c * 4 + g < 28 by omega) (by decide), cl (c * 4 + g) (by omega)]
        by_cases c2 : (T 7 g).testBit x = true
        · rw [if_pos c2, if_pos (show (T 2 x = c ∨ T 3 x = c) ∧ (T 7 g).testBit x = true from ⟨c1, c2⟩), j101 (by omega), l1, bnd, show nI x + 1 = nI (x + 1) from nI_add x 1]
        · rw [if_neg c2, if_neg (fun r => c2 r.2)]
      · rw [if_neg c1, if_pos rfl, if_neg (fun r => c1 r.1)]
    by_cases c0 : (T 2 x = c ∨ T 3 x = c) ∧ (T 7 g).testBit x = true
    · rw [if_pos c0] at e0
      refine ⟨(f1, t1, b1, _, rlx L (d * 4 + g) (c * 4 + g) w), e0, R1.mono (by omega), fun s'' hq => ?_⟩
      have hE : RE T so (c * 4 + g) (d * 4 + g) (fo so m p) (fo so p m) := by
        refine .inl ⟨x, g, hx, hg, c0.2, ?_, by rw [hm, hp], by rw [hm, hp]⟩
        rw [← hd]
        by_cases e : T 2 x = c
        · rw [if_pos e, ← e]
          exact .inl ⟨rfl, rfl⟩
        · rw [if_neg e, ← c0.1.resolve_left e]
          exact .inr ⟨rfl, rfl⟩
      refine stp_trans (fun u v w' r => ?_) (stp_rlx (al := 67108864) (be := 4) (L0 := L0) (L := L) (ch := ch) hE hw.symm) hq
      obtain ⟨i, r1, r2, r3, r4⟩ := r
      by_cases e : i = x
      · subst e
        refine .inl ⟨r4, ?_, by rw [r3.2.2, hm, hp, hw]⟩
        subst r4
        rw [← hd]
        rcases r3.2.1 with ⟨a, b⟩ | ⟨a, b⟩
        · rw [if_pos (by omega)]
          exact b
        · rw [if_neg (by omega)]
          exact b
      · exact .inr ⟨i, by omega, r2, r3, r4⟩
    · rw [if_neg c0] at e0
      refine ⟨(fs, ts, bs, ch, L), e0, hR.mono (by omega), fun s'' hq => stp_sub (fun u v w' r => ?_) hq⟩
      obtain ⟨i, r1, r2, r3, r4⟩ := r
      by_cases e : i = x
      · subst e
        refine absurd ⟨?_, r3.1⟩ c0
        rcases r3.2.1 with ⟨a, b⟩ | ⟨a, b⟩
        · left; omega
        · right; omega
      · exact ⟨i, by omega, r2, r3, r4⟩
  · intro n s hI
    obtain ⟨fs, ts, bs, ch, L⟩ := s
    show f_X7_goesOn_L10b fu (f_X7_goesOn_L10 fu n) tw fs ts bs ch (nI c) (nI g) (bi so) (nI (c * 4 + g)) (nI (T 0 1)) = _
    unfold f_X7_goesOn_L10b
    rw [q1, show ((1 : Int32).toNatClampNeg) = 1 from rfl, h7.2.1, if_pos (nI_le (Nat.le_refl _) (by omega))]
theorem hands7 (hO : TOk T) (h7 : TwB T tw) {fu g c n0 : Nat} {so : Bool} (hg : g < T 0 2) (hc : c < T 0 0) (hf : 10 ≤ fu) (hn : n0 + 504 < 10000000) {fs ts bs : Nat → Int32} {ch : Int32} {L : Nat → Option Nat} (hR : Rep7 L fs ts bs n0) : ∃ fs' ts' bs' ch' L', f_X7_goesOn_L140 fu fu tw fs ts bs ch (nI c) (nI g) (bi so) (nI (c * 4 + g)) 0 = some (fs', ts', bs', ch') ∧ Rep7 L' fs' ts' bs' (n0 + 504) ∧ RStp (RE T so) 67108864 4 L0 (fun u v w => ∃ h, 0 ≤ h ∧ h < T 0 2 ∧ HC T so 67108864 4 c h g u v w) L ch L' ch' := by
  have o1 := hO.1
  have o3 := hO.2.2.1
  have o5 := hO.2.2.2.2.1
  have q2 : ∀ {α : Type} (X : Option α), xb (2 : Int32) 64 X = X := fun X => xb_l (by decide)
  have hn4 : ∀ y z : Nat, 4 * nI y + nI z = nI (y * 4 + z) := fun y z => by rw [show (4 : Int32) = nI 4 from rfl, pk_mul, nI_add, Nat.mul_comm]
  have hfo1 : fo so (T 0 4) 0 ≤ 126 := fo_le (by omega) (by omega)
  have hfo2 : fo so 0 (T 0 4) ≤ 126 := fo_le (by omega) (by omega)
  generalize hw : 67108864 * fo so (T 0 4) 0 + 4 * fo so 0 (T 0 4) = w
  refine Exists.elim (loop_ex (σ := (Nat → Int32) × (Nat → Int32) × (Nat → Int32) × Int32 × (Nat → Option Nat)) (fun n s x => f_X7_goesOn_L140 fu n tw s.1 s.2.1 s.2.2.1 s.2.2.2.1 (nI c) (nI g) (bi so) (nI (c * 4 + g)) x) (fun s => some (s.1, s.2.1, s.2.2.1, s.2.2.2.1)) (fun x s => Rep7 s.2.2.2.2 s.1 s.2.1 s.2.2.1 (n0 + 126 * x)) (fun x s s' => RStp (RE T so) 67108864 4 L0 (fun u v w => ∃ i, x ≤ i ∧ i < T 0 2 ∧ HC T so 67108864 4 c i g u v w) s.2.2.2.2 s.2.2.2.1 s'.2.2.2.2 s'.2.2.2.1) (T 0 2) (fun s => stp_nil (fun u v w q => by obtain ⟨i, h1, h2, _⟩ := q; omega)) ?_ ?_ (T 0 2) 0 fu (fs, ts, bs, ch, L) (by omega) (by omega) hR) (fun s' h => ⟨s'.1, s'.2.1, s'.2.2.1, s'.2.2.2.1, s'.2.2.2.2, h.1, h.2.1.mono (by omega), h.2.2⟩)
  · intro n x s hx hI
    obtain ⟨fs, ts, bs, ch, L⟩ := s
    have hR : Rep7 L fs ts bs (n0 + 126 * x) := hI
    obtain ⟨f1, t1, b1, l1, R1⟩ := lessens7 (ch := ch) (u := c * 4 + g) (v := c * 4 + x) (wf := fo so (T 0 4) 0) (wt := fo so 0 (T 0 4)) hR (by omega) (by omega) (by omega) hfo1 hfo2
    rw [hw] at l1 R1
    have e0 : f_X7_goesOn_L140 fu (n + 1) tw fs ts bs ch (nI c) (nI g) (bi so) (nI (c * 4 + g)) (nI x) = if x ≠ g ∧ (T 8 g).testBit c = true ∧ (T 8 x).testBit c = true then f_X7_goesOn_L140 fu n tw f1 t1 b1 (if rlb L (c * 4 + x) (c * 4 + g) w then 1 else ch) (nI c) (nI g) (bi so) (nI (c * 4 + g)) (nI (x + 1)) else f_X7_goesOn_L140 fu n tw fs ts bs ch (nI c) (nI g) (bi so) (nI (c * 4 + g)) (nI (x + 1)) := by
      show f_X7_goesOn_L140b fu (f_X7_goesOn_L140 fu n) tw fs ts bs ch (nI c) (nI g) (bi so) (nI (c * 4 + g)) (nI x) = _
      unfold f_X7_goesOn_L140b
      rw [q2, show ((2 : Int32).toNatClampNeg) = 2 from rfl, h7.2.2.1, if_neg (nI_ge (by omega) (by omega)), isHis7 hO h7 hg (by omega), isHis7 hO h7 hx (by omega), show nI x + 1 = nI (x + 1) from nI_add x 1, eqE (by omega) (by omega)]
      simp only [bnd, b01i]
      by_cases c1 : x = g
      · rw [if_pos c1, if_neg (fun r => r.1 c1)]
      · rw [if_neg c1]
        by_cases c2 : (T 8 g).testBit c = true
        · rw [if_pos c2]
          by_cases c3 : (T 8 x).testBit c = true
          · rw [if_pos c3, if_pos (show x ≠ g ∧ (T 8 g).testBit c = true ∧ (T 8 x).testBit c = true from ⟨c1, c2, c3⟩), hn4, xb_nI _ (show c * 4 + g < 28 by omega) (by decide), cl (c * 4 + g) (by omega), j204 (by omega) h7.2.2.2.1, l1, bnd, show nI x + 1 = nI (x + 1) from nI_add x 1]
          · rw [if_neg c3, if_neg (fun r => c3 r.2.2)]
        · rw [if_neg c2, if_neg (fun r => c2 r.2.1)]
    by_cases c0 : x ≠ g ∧ (T 8 g).testBit c = true ∧ (T 8 x).testBit c = true
    · rw [if_pos c0] at e0
      refine ⟨(f1, t1, b1, _, rlx L (c * 4 + x) (c * 4 + g) w), e0, R1.mono (by omega), fun s'' hq => ?_⟩
      have hE : RE T so (c * 4 + g) (c * 4 + x) (fo so (T 0 4) 0) (fo so 0 (T 0 4)) := .inr ⟨c, x, g, hc, hx, hg, c0.2.2, c0.2.1, rfl, rfl, rfl, rfl⟩
      refine stp_trans (fun u v w' r => ?_) (stp_rlx (al := 67108864) (be := 4) (L0 := L0) (L := L) (ch := ch) hE hw.symm) hq
      obtain ⟨i, r1, r2, r3⟩ := r
      by_cases e : i = x
      · subst e
        obtain ⟨_, _, r4, r5, r6⟩ := r3
        exact .inl ⟨r4, r5, r6.trans hw⟩
      · exact .inr ⟨i, by omega, r2, r3⟩
    · rw [if_neg c0] at e0
      refine ⟨(fs, ts, bs, ch, L), e0, hR.mono (by omega), fun s'' hq => ?_⟩
      have hself : RStp (RE T so) 67108864 4 L0 (fun u v w => u = v) L ch L ch := stp_same (fun u v w y hc hl => by
        subst hc
        obtain ⟨b, p1, p2⟩ := hl
        exact ⟨b, p1, by omega⟩)
      refine stp_trans (fun u v w' r => ?_) hself hq
      obtain ⟨i, r1, r2, r3⟩ := r
      by_cases e : i = x
      · subst e
        obtain ⟨r4, r5, r6, r7, r8⟩ := r3
        by_cases e2 : i = g
        · exact .inl (by rw [r6, r7, e2])
        · exact absurd ⟨e2, r5, r4⟩ c0
      · exact .inr ⟨i, by omega, r2, r3⟩
  · intro n s hI
    obtain ⟨fs, ts, bs, ch, L⟩ := s
    show f_X7_goesOn_L140b fu (f_X7_goesOn_L140 fu n) tw fs ts bs ch (nI c) (nI g) (bi so) (nI (c * 4 + g)) (nI (T 0 2)) = _
    unfold f_X7_goesOn_L140b
    rw [q2, show ((2 : Int32).toNatClampNeg) = 2 from rfl, h7.2.2.1, if_pos (nI_le (Nat.le_refl _) (by omega))]
/-- all steps from one node -/
def CN (T : Nat → Nat → Nat) (so : Bool) (al be c g u v w : Nat) : Prop := u = c * 4 + g ∧ CA T so al be u v w
theorem node7 (hO : TOk T) (h7 : TwB T tw) {fu g c n0 : Nat} {so : Bool} (hg : g < T 0 2) (hc : c < T 0 0) (hf : 10 ≤ fu) (hn : n0 + 1638 < 10000000) {fs ts bs : Nat → Int32} {ch : Int32} {L : Nat → Option Nat} (hR : Rep7 L fs ts bs n0) : ∃ fs' ts' bs' ch' L', f_X7_goesOn fu tw fs ts bs ch (nI c) (nI g) (bi so) = some (fs', ts', bs', ch') ∧ Rep7 L' fs' ts' bs' (n0 + 1638) ∧ RStp (RE T so) 67108864 4 L0 (CN T so 67108864 4 c g) L ch L' ch' := by
  have o3 := hO.2.2.1
  obtain ⟨f1, t1, b1, c1, L1, e1, R1, S1⟩ := streets7 (L0 := L0) (so := so) (ch := ch) hO h7 hg hc hf (by omega) hR
  obtain ⟨f2, t2, b2, c2, L2, e2, R2, S2⟩ := hands7 (L0 := L0) (so := so) (ch := c1) hO h7 hg hc hf (by omega) R1
  refine ⟨f2, t2, b2, c2, L2, e1.trans e2, R2.mono (by omega), stp_trans (fun u v w r => ?_) S1 S2⟩
  obtain ⟨hu, f, t, hE, hw⟩ := r
  rcases hE with ⟨s, g', hs, hg', hk, h, hf', ht'⟩ | ⟨c', g', h', hc', hg', hh', h1, h2, hu', hv', hf', ht'⟩
  · have : g' = g := by
      rcases h with ⟨a, _⟩ | ⟨a, _⟩ <;> omega
    subst this
    exact .inl ⟨s, Nat.zero_le _, hs, ⟨hk, h, by rw [hw, hf', ht']⟩, hu⟩
  · have eh : h' = g := by omega
    have ec : c' = c := by omega
    subst eh
    subst ec
    exact .inr ⟨g', Nat.zero_le _, hg', h1, h2, hu', hv', by rw [hw, hf', ht']⟩
end ROUTE7
