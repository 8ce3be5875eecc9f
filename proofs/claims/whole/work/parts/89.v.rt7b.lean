/-! soonest, cheapest: the reference's rounds -/
section ROUTE7
variable {T : Nat → Nat → Nat} {tw : Nat → Int32} {L0 : Nat → Option Nat}
theorem Rep7.congr {L L' : Nat → Option Nat} {fs ts bs : Nat → Int32} {n : Nat} (h : Rep7 L fs ts bs n) (e : ∀ v, v < 28 → L' v = L v) : Rep7 L' fs ts bs n := by
  intro v hv
  rw [e v hv]
  exact h v hv
/-- the labels at the start: who is at home where one begins -/
def L0x (T : Nat → Nat → Nat) (a x : Nat) : Nat → Option Nat := fun v => if v / 4 = a ∧ v % 4 < x ∧ (T 8 (v % 4)).testBit a = true then some (v % 4) else none
theorem n4 (y z : Nat) : 4 * nI y + nI z = nI (y * 4 + z) := by rw [show (4 : Int32) = nI 4 from rfl, pk_mul, nI_add, Nat.mul_comm]
theorem goes40 (hO : TOk T) (h7 : TwB T tw) {fu a : Nat} {x2 ch : Int32} {fs ts bs : Nat → Int32} (ha : a < T 0 0) (hf : 10 ≤ fu) (h0 : Rep7 (fun _ => none) fs ts bs 0) : ∃ fs' ts' bs', f_X7_goes_L40 fu fu tw fs ts bs ch (nI a) x2 0 = f_X7_goes_L82 fu fu tw fs' ts' bs' 1 x2 ∧ Rep7 (L0x T a (T 0 2)) fs' ts' bs' 0 := by
  have o1 := hO.1
  have o3 := hO.2.2.1
  have q2 : ∀ {α : Type} (X : Option α), xb (2 : Int32) 64 X = X := fun X => xb_l (by decide)
  obtain ⟨s, e, hI⟩ := rel_loop (σ := (Nat → Int32) × (Nat → Int32) × (Nat → Int32) × Int32) (fun n s x => f_X7_goes_L40 fu n tw s.1 s.2.1 s.2.2.1 s.2.2.2 (nI a) x2 x) (fun s => f_X7_goes_L82 fu fu tw s.1 s.2.1 s.2.2.1 1 x2) (fun x s => Rep7 (L0x T a x) s.1 s.2.1 s.2.2.1 0) (T 0 2) (by
    intro n x s hx hI
    obtain ⟨fs, ts, bs, ch⟩ := s
    have hI : Rep7 (L0x T a x) fs ts bs 0 := hI
    show ∃ s' : (Nat → Int32) × (Nat → Int32) × (Nat → Int32) × Int32, f_X7_goes_L40b fu (f_X7_goes_L40 fu n) tw fs ts bs ch (nI a) x2 (nI x) = f_X7_goes_L40 fu n tw s'.1 s'.2.1 s'.2.2.1 s'.2.2.2 (nI a) x2 (nI (x + 1)) ∧ Rep7 (L0x T a (x + 1)) s'.1 s'.2.1 s'.2.2.1 0
    unfold f_X7_goes_L40b
    rw [q2, show ((2 : Int32).toNatClampNeg) = 2 from rfl, h7.2.2.1, if_neg (nI_ge (by omega) (by omega)), isHis7 hO h7 hx (by omega), bnd, b01i, show nI x + 1 = nI (x + 1) from nI_add x 1]
    by_cases c : (T 8 x).testBit a = true
    · rw [if_pos c, n4]
      have hL : L0x T a x (a * 4 + x) = none := if_neg (fun r => by omega)
      rcases hI (a * 4 + x) (by omega) with ⟨_, e1, e2, e3⟩ | ⟨f, t, b, e1, _⟩
      · rcases isLess7 (f := 0) (t := 0) (b := x) (show a * 4 + x < 28 by omega) e1 e2 e3 (by omega) (by omega) (by omega) (by omega) (by omega) (by omega) with ⟨_, e⟩ | ⟨r, _⟩
        · rw [show (0 : Int32) = nI 0 from rfl, lessens_yes (by omega) e, bnd]
          refine ⟨(_, _, _, _), rfl, (hI.put (v := a * 4 + x) (f := 0) (t := 0) (b := x) (c := x) (by omega) (by omega) (by omega) (by omega)).congr (fun v hv => ?_)⟩
          unfold putL L0x
          by_cases w : v = a * 4 + x
          · subst w
            rw [if_pos rfl, show (a * 4 + x) / 4 = a by omega, show (a * 4 + x) % 4 = x by omega, if_pos ⟨rfl, by omega, c⟩]
          · rw [if_neg w]
            by_cases w2 : v / 4 = a ∧ v % 4 < x ∧ (T 8 (v % 4)).testBit a = true
            · rw [if_pos w2, if_pos ⟨w2.1, by omega, w2.2.2⟩]
            · rw [if_neg w2, if_neg (fun r => w2 ⟨r.1, by omega, r.2.2⟩)]
        · exact absurd (show lexlt 0 0 x 99999999 99999999 99999999 from .inl (by omega)) r
      · rw [hL] at e1
        cases e1
    · rw [if_neg c]
      refine ⟨(fs, ts, bs, ch), rfl, hI.congr (fun v hv => ?_)⟩
      unfold L0x
      by_cases w : v % 4 = x
      · rw [if_neg (fun r => c (by rw [← w]; exact r.2.2)), if_neg (fun r => by omega)]
      · by_cases w2 : v / 4 = a ∧ v % 4 < x ∧ (T 8 (v % 4)).testBit a = true
        · rw [if_pos w2, if_pos ⟨w2.1, by omega, w2.2.2⟩]
        · rw [if_neg w2, if_neg (fun r => w2 ⟨r.1, by omega, r.2.2⟩)]) (by
    intro n s hI
    show f_X7_goes_L40b fu (f_X7_goes_L40 fu n) tw s.1 s.2.1 s.2.2.1 s.2.2.2 (nI a) x2 (nI (T 0 2)) = _
    unfold f_X7_goes_L40b
    rw [q2, show ((2 : Int32).toNatClampNeg) = 2 from rfl, h7.2.2.1, if_pos (nI_le (Nat.le_refl _) (by omega))]) (T 0 2) 0 fu (fs, ts, bs, ch) (by omega) (by omega) (h0.congr (fun v hv => if_neg (fun r => by omega)))
  exact ⟨s.1, s.2.1, s.2.2.1, e, hI⟩
theorem goes2 (hO : TOk T) (h7 : TwB T tw) {fu a : Nat} {x2 ch : Int32} (fs ts bs : Nat → Int32) (ha : a < T 0 0) (hf : 30 ≤ fu) : ∃ fs' ts' bs', f_X7_goes fu tw fs ts bs ch (nI a) x2 = f_X7_goes_L82 fu fu tw fs' ts' bs' 1 x2 ∧ Rep7 (L0x T a (T 0 2)) fs' ts' bs' 0 := by
  obtain ⟨s, e, hI⟩ := rel_loop (σ := (Nat → Int32) × (Nat → Int32) × (Nat → Int32)) (fun n s x => f_X7_goes_L2 fu n tw s.1 s.2.1 s.2.2 ch (nI a) x2 x) (fun s => f_X7_goes_L40 fu fu tw s.1 s.2.1 s.2.2 ch (nI a) x2 0) (fun x s => ∀ j, j < x → s.1 j = nI 99999999 ∧ s.2.1 j = nI 99999999 ∧ s.2.2 j = nI 99999999) 28 (by
    intro n x s hx hI
    obtain ⟨fs, ts, bs⟩ := s
    refine ⟨(upd fs x (nI 99999999), upd ts x (nI 99999999), upd bs x (nI 99999999)), ?_, fun j hj => ?_⟩
    · show f_X7_goes_L2b fu (f_X7_goes_L2 fu n) tw fs ts bs ch (nI a) x2 (nI x) = _
      unfold f_X7_goes_L2b
      rw [if_neg (by rw [show (28 : Int32) = nI 28 from rfl]; exact nI_ge (by omega) (by omega)), xb_nI _ hx (by decide), xb_nI _ hx (by decide), xb_nI _ hx (by decide), cl x (by omega), show nI x + 1 = nI (x + 1) from nI_add x 1]
      rfl
    · by_cases e : j = x
      · exact ⟨if_pos e, if_pos e, if_pos e⟩
      · obtain ⟨a1, a2, a3⟩ := hI j (by omega)
        exact ⟨(if_neg e).trans a1, (if_neg e).trans a2, (if_neg e).trans a3⟩) (by
    intro n s hI
    show f_X7_goes_L2b fu (f_X7_goes_L2 fu n) tw s.1 s.2.1 s.2.2 ch (nI a) x2 (nI 28) = _
    unfold f_X7_goes_L2b
    rw [if_pos (by decide)]) 28 0 fu (fs, ts, bs) (by omega) (by omega) (fun j hj => by omega)
  obtain ⟨f1, t1, b1, e1, R1⟩ := goes40 (fu := fu) (x2 := x2) (ch := ch) (fs := s.1) (ts := s.2.1) (bs := s.2.2) hO h7 ha (by omega) (fun v hv => .inl ⟨rfl, hI v hv⟩)
  exact ⟨f1, t1, b1, e.trans e1, R1⟩
theorem row7 (hO : TOk T) (h7 : TwB T tw) {fu c n0 : Nat} {so : Bool} {k82 : (Nat → Int32) → (Nat → Int32) → (Nat → Int32) → (Nat → Int32) → Int32 → Int32 → Option R_X7_goes} {k96 : (Nat → Int32) → (Nat → Int32) → (Nat → Int32) → (Nat → Int32) → Int32 → Int32 → Int32 → Option R_X7_goes} (hc : c < T 0 0) (hf : 10 ≤ fu) (hn : n0 + 6552 < 10000000) {fs ts bs : Nat → Int32} {ch : Int32} {L : Nat → Option Nat} (hR : Rep7 L fs ts bs n0) : ∃ fs' ts' bs' ch' L', f_X7_goes_L109 fu k82 k96 fu tw fs ts bs ch (bi so) (nI c) 0 = k96 tw fs' ts' bs' ch' (bi so) (nI (c + 1)) ∧ Rep7 L' fs' ts' bs' (n0 + 6552) ∧ RStp (RE T so) 67108864 4 L0 (fun u v w => ∃ g, 0 ≤ g ∧ g < T 0 2 ∧ CN T so 67108864 4 c g u v w) L ch L' ch' := by
  have o1 := hO.1
  have o3 := hO.2.2.1
  have q2 : ∀ {α : Type} (X : Option α), xb (2 : Int32) 64 X = X := fun X => xb_l (by decide)
  refine Exists.elim (loop_ex (σ := (Nat → Int32) × (Nat → Int32) × (Nat → Int32) × Int32 × (Nat → Option Nat)) (fun n s x => f_X7_goes_L109 fu k82 k96 n tw s.1 s.2.1 s.2.2.1 s.2.2.2.1 (bi so) (nI c) x) (fun s => k96 tw s.1 s.2.1 s.2.2.1 s.2.2.2.1 (bi so) (nI (c + 1))) (fun x s => Rep7 s.2.2.2.2 s.1 s.2.1 s.2.2.1 (n0 + 1638 * x)) (fun x s s' => RStp (RE T so) 67108864 4 L0 (fun u v w => ∃ i, x ≤ i ∧ i < T 0 2 ∧ CN T so 67108864 4 c i u v w) s.2.2.2.2 s.2.2.2.1 s'.2.2.2.2 s'.2.2.2.1) (T 0 2) (fun s => stp_nil (fun u v w q => by obtain ⟨i, h1, h2, _⟩ := q; omega)) ?_ ?_ (T 0 2) 0 fu (fs, ts, bs, ch, L) (by omega) (by omega) hR) (fun s' h => ⟨s'.1, s'.2.1, s'.2.2.1, s'.2.2.2.1, s'.2.2.2.2, h.1, h.2.1.mono (by omega), h.2.2⟩)
  · intro n x s hx hI
    obtain ⟨fs, ts, bs, ch, L⟩ := s
    have hR : Rep7 L fs ts bs (n0 + 1638 * x) := hI
    obtain ⟨f1, t1, b1, c1, L1, e1, R1, S1⟩ := node7 (L0 := L0) (so := so) (ch := ch) hO h7 hx hc hf (by omega) hR
    have e0 : f_X7_goes_L109 fu k82 k96 (n + 1) tw fs ts bs ch (bi so) (nI c) (nI x) = if nI 99999999 ≤ fs (c * 4 + x) then f_X7_goes_L109 fu k82 k96 n tw fs ts bs ch (bi so) (nI c) (nI (x + 1)) else f_X7_goes_L109 fu k82 k96 n tw f1 t1 b1 c1 (bi so) (nI c) (nI (x + 1)) := by
      show f_X7_goes_L109b fu k82 k96 (f_X7_goes_L109 fu k82 k96 n) tw fs ts bs ch (bi so) (nI c) (nI x) = _
      unfold f_X7_goes_L109b
      rw [q2, show ((2 : Int32).toNatClampNeg) = 2 from rfl, h7.2.2.1, if_neg (nI_ge (by omega) (by omega)), n4, xb_nI _ (show c * 4 + x < 28 by omega) (by decide), cl (c * 4 + x) (by omega), e1, bnd, show nI x + 1 = nI (x + 1) from nI_add x 1]
      rfl
    rcases hR (c * 4 + x) (by omega) with ⟨r1, r2, _, _⟩ | ⟨f, t, b, r1, r2, _, _, r5, _⟩
    · rw [r2, if_pos (nI_le (Nat.le_refl _) (by decide))] at e0
      refine ⟨(fs, ts, bs, ch, L), e0, hR.mono (by omega), fun s'' hq => ?_⟩
      have hself : RStp (RE T so) 67108864 4 L0 (fun u v w => u = c * 4 + x) L ch L ch := stp_same (fun u v w y hu hl => by
        subst hu
        obtain ⟨b, p1, p2⟩ := hl
        rw [r1] at p1
        cases p1)
      refine stp_trans (fun u v w' r => ?_) hself hq
      obtain ⟨i, p1, p2, p3⟩ := r
      by_cases e : i = x
      · subst e
        exact .inl p3.1
      · exact .inr ⟨i, by omega, p2, p3⟩
    · rw [r2, if_neg (nI_ge (by omega) (by decide))] at e0
      refine ⟨(f1, t1, b1, c1, L1), e0, R1.mono (by omega), fun s'' hq => stp_trans (fun u v w' r => ?_) S1 hq⟩
      obtain ⟨i, p1, p2, p3⟩ := r
      by_cases e : i = x
      · subst e
        exact .inl p3
      · exact .inr ⟨i, by omega, p2, p3⟩
  · intro n s hI
    obtain ⟨fs, ts, bs, ch, L⟩ := s
    show f_X7_goes_L109b fu k82 k96 (f_X7_goes_L109 fu k82 k96 n) tw fs ts bs ch (bi so) (nI c) (nI (T 0 2)) = _
    unfold f_X7_goes_L109b
    rw [q2, show ((2 : Int32).toNatClampNeg) = 2 from rfl, h7.2.2.1, if_pos (nI_le (Nat.le_refl _) (by omega)), show nI c + 1 = nI (c + 1) from nI_add c 1]
theorem re_from (hO : TOk T) {so : Bool} {u v f t : Nat} (h : RE T so u v f t) : ∃ c g, c < T 0 0 ∧ g < T 0 2 ∧ u = c * 4 + g := by
  rcases h with ⟨s, g, hs, hg, _, h, _, _⟩ | ⟨c, g, h, hc, hg, hh, _, _, hu, _, _, _⟩
  · have o := hO.2.2.2.2.2.2.1 s hs
    rcases h with ⟨h, _⟩ | ⟨h, _⟩
    · exact ⟨T 2 s, g, o.1, hg, h⟩
    · exact ⟨T 3 s, g, o.2.1, hg, h⟩
  · exact ⟨c, h, hc, hh, hu⟩
theorem round7 (hO : TOk T) (h7 : TwB T tw) {fu n0 : Nat} {so : Bool} {k82 : (Nat → Int32) → (Nat → Int32) → (Nat → Int32) → (Nat → Int32) → Int32 → Int32 → Option R_X7_goes} (hf : 10 ≤ fu) (hn : n0 + 45864 < 10000000) {fs ts bs : Nat → Int32} {L : Nat → Option Nat} (hR : Rep7 L fs ts bs n0) : ∃ fs' ts' bs' ch' L', f_X7_goes_L96 fu k82 fu tw fs ts bs 0 (bi so) 0 = k82 tw fs' ts' bs' ch' (bi so) ∧ Rep7 L' fs' ts' bs' (n0 + 45864) ∧ RStp (RE T so) 67108864 4 L0 (CA T so 67108864 4) L 0 L' ch' := by
  have o1 := hO.1
  have o3 := hO.2.2.1
  have q0 : ∀ {α : Type} (X : Option α), xb (0 : Int32) 64 X = X := fun X => xb_l (by decide)
  refine Exists.elim (loop_ex (σ := (Nat → Int32) × (Nat → Int32) × (Nat → Int32) × Int32 × (Nat → Option Nat)) (fun n s x => f_X7_goes_L96 fu k82 n tw s.1 s.2.1 s.2.2.1 s.2.2.2.1 (bi so) x) (fun s => k82 tw s.1 s.2.1 s.2.2.1 s.2.2.2.1 (bi so)) (fun x s => Rep7 s.2.2.2.2 s.1 s.2.1 s.2.2.1 (n0 + 6552 * x)) (fun x s s' => RStp (RE T so) 67108864 4 L0 (fun u v w => ∃ c, x ≤ c ∧ c < T 0 0 ∧ ∃ i, 0 ≤ i ∧ i < T 0 2 ∧ CN T so 67108864 4 c i u v w) s.2.2.2.2 s.2.2.2.1 s'.2.2.2.2 s'.2.2.2.1) (T 0 0) (fun s => stp_nil (fun u v w q => by obtain ⟨i, h1, h2, _⟩ := q; omega)) ?_ ?_ (T 0 0) 0 fu (fs, ts, bs, 0, L) (by omega) (by omega) hR) (fun s' h => ⟨s'.1, s'.2.1, s'.2.2.1, s'.2.2.2.1, s'.2.2.2.2, h.1, h.2.1.mono (by omega), stp_sub (fun u v w r => ?_) h.2.2⟩)
  · intro n x s hx hI
    obtain ⟨fs, ts, bs, ch, L⟩ := s
    have hR : Rep7 L fs ts bs (n0 + 6552 * x) := hI
    obtain ⟨f1, t1, b1, c1, L1, e1, R1, S1⟩ := row7 (L0 := L0) (so := so) (ch := ch) (k82 := k82) (k96 := f_X7_goes_L96 fu k82 n) hO h7 hx hf (by omega) hR
    have e0 : f_X7_goes_L96 fu k82 (n + 1) tw fs ts bs ch (bi so) (nI x) = f_X7_goes_L109 fu k82 (f_X7_goes_L96 fu k82 n) fu tw fs ts bs ch (bi so) (nI x) 0 := by
      show f_X7_goes_L96b fu k82 (f_X7_goes_L96 fu k82 n) tw fs ts bs ch (bi so) (nI x) = _
      unfold f_X7_goes_L96b
      rw [q0, show ((0 : Int32).toNatClampNeg) = 0 from rfl, h7.1, if_neg (nI_ge (by omega) (by omega))]
    refine ⟨(f1, t1, b1, c1, L1), e0.trans e1, R1.mono (by omega), fun s'' hq => stp_trans (fun u v w' r => ?_) S1 hq⟩
    obtain ⟨i, p1, p2, p3⟩ := r
    by_cases e : i = x
    · subst e
      exact .inl p3
    · exact .inr ⟨i, by omega, p2, p3⟩
  · intro n s hI
    obtain ⟨fs, ts, bs, ch, L⟩ := s
    show f_X7_goes_L96b fu k82 (f_X7_goes_L96 fu k82 n) tw fs ts bs ch (bi so) (nI (T 0 0)) = _
    unfold f_X7_goes_L96b
    rw [q0, show ((0 : Int32).toNatClampNeg) = 0 from rfl, h7.1, if_pos (nI_le (Nat.le_refl _) (by omega))]
  · obtain ⟨f, t, hE, hw⟩ := r
    obtain ⟨c, g, hc, hg, hu⟩ := re_from hO hE
    exact ⟨c, Nat.zero_le _, hc, g, Nat.zero_le _, hg, hu, f, t, hE, hw⟩
theorem rounds7 (hO : TOk T) (h7 : TwB T tw) {fu : Nat} {so : Bool} (hf : 10 ≤ fu) : ∀ (d k p : Nat) (fs ts bs : Nat → Int32) (L : Nat → Option Nat) (ch : Int32), k + d = 28 → d + 1 < p → Rep7 L fs ts bs (45864 * k) → Snd (RE T so) 67108864 4 L0 L → Upt (RE T so) 67108864 4 L0 k L → (ch = 0 → Cmp (RE T so) 67108864 4 L0 L) → ∃ fs' ts' bs' ch' L', f_X7_goes_L82 fu p tw fs ts bs ch (bi so) = some (fs', ts', bs', ch') ∧ Rep7 L' fs' ts' bs' 1400000 ∧ Snd (RE T so) 67108864 4 L0 L' ∧ Cmp (RE T so) 67108864 4 L0 L' := by
  have hC : ∀ u v f t, RE T so u v f t → CA T so 67108864 4 u v (67108864 * f + 4 * t) := fun u v f t h => ⟨f, t, h, rfl⟩
  have stop : ∀ (p : Nat) (fs ts bs : Nat → Int32), f_X7_goes_L82 fu (p + 1) tw fs ts bs 0 (bi so) = some (fs, ts, bs, 0) := by
    intro p fs ts bs
    show f_X7_goes_L82b fu (f_X7_goes_L82 fu p) tw fs ts bs 0 (bi so) = _
    unfold f_X7_goes_L82b
    rw [if_pos rfl]
  have go : ∀ (p : Nat) (fs ts bs : Nat → Int32) (ch : Int32), ¬ ch = 0 → f_X7_goes_L82 fu (p + 1) tw fs ts bs ch (bi so) = f_X7_goes_L96 fu (f_X7_goes_L82 fu p) fu tw fs ts bs 0 (bi so) 0 := by
    intro p fs ts bs ch q
    show f_X7_goes_L82b fu (f_X7_goes_L82 fu p) tw fs ts bs ch (bi so) = _
    unfold f_X7_goes_L82b
    rw [if_neg q]
  intro d
  induction d with
  | zero =>
    intro k p fs ts bs L ch hk hp hR hS hU hc
    obtain ⟨p, rfl⟩ : ∃ j, p = j + 2 := ⟨p - 2, by omega⟩
    obtain rfl : k = 28 := by omega
    have hCm := cmp_of (re_node hO) (by decide) (by decide) hU
    by_cases q : ch = 0
    · subst q
      exact ⟨fs, ts, bs, 0, L, stop _ _ _ _, hR.mono (by omega), hS, hCm⟩
    · obtain ⟨f1, t1, b1, c1, L1, e1, R1, S1⟩ := round7 (L0 := L0) (so := so) (k82 := f_X7_goes_L82 fu (p + 1)) hO h7 hf (by omega) hR
      obtain ⟨r1, r2⟩ := S1.2.2.2.2.1 hCm hS
      subst r1
      subst r2
      exact ⟨f1, t1, b1, 0, L1, (go _ _ _ _ _ q).trans (e1.trans (stop _ _ _ _)), R1.mono (by omega), hS, hCm⟩
  | succ d ih =>
    intro k p fs ts bs L ch hk hp hR hS hU hc
    obtain ⟨p, rfl⟩ : ∃ j, p = j + 1 := ⟨p - 1, by omega⟩
    by_cases q : ch = 0
    · subst q
      exact ⟨fs, ts, bs, 0, L, stop _ _ _ _, hR.mono (by omega), hS, hc rfl⟩
    · obtain ⟨f1, t1, b1, c1, L1, e1, R1, S1⟩ := round7 (L0 := L0) (so := so) (k82 := f_X7_goes_L82 fu p) hO h7 hf (by omega) hR
      rw [go _ _ _ _ _ q, e1]
      refine ih (k + 1) p f1 t1 b1 L1 c1 (by omega) (by omega) (R1.mono (by omega)) (S1.2.2.1 hS) (upt_succ hC S1 hU) (fun h => ?_)
      have hL := (S1.2.2.2.1 h).2
      subst hL
      exact cmp_fix hC S1 (upt_le (Nat.zero_le _) hU)
theorem goes7 (hO : TOk T) (h7 : TwB T tw) {a : Nat} {so : Bool} {ch : Int32} (fs ts bs : Nat → Int32) (ha : a < T 0 0) : ∃ fs' ts' bs' ch' L', f_X7_goes 50 tw fs ts bs ch (nI a) (bi so) = some (fs', ts', bs', ch') ∧ Rep7 L' fs' ts' bs' 1400000 ∧ Snd (RE T so) 67108864 4 (L0x T a (T 0 2)) L' ∧ Cmp (RE T so) 67108864 4 (L0x T a (T 0 2)) L' := by
  obtain ⟨f1, t1, b1, e1, R1⟩ := goes2 (fu := 50) (x2 := bi so) (ch := ch) hO h7 fs ts bs ha (by decide)
  obtain ⟨f2, t2, b2, c2, L2, e2, h⟩ := rounds7 (L0 := L0x T a (T 0 2)) (fu := 50) (so := so) hO h7 (by decide) 28 0 50 f1 t1 b1 (L0x T a (T 0 2)) 1 (by decide) (by decide) R1 snd_0 (upt_0 (fun u s h => ⟨s, h, Nat.le_refl _⟩)) (fun h => absurd h (by decide))
  exact ⟨f2, t2, b2, c2, L2, e1.trans e2, h⟩
/-- the least label at the goal -/
def Best7 (L : Nat → Option Nat) (b n g c : Nat) : Prop := g < n ∧ L (b * 4 + g) = some c ∧ ∀ g' c', g' < n → L (b * 4 + g') = some c' → c ≤ c'
def None7 (L : Nat → Option Nat) (b n : Nat) : Prop := ∀ g', g' < n → L (b * 4 + g') = none
theorem lex_le {f t b f' t' b' : Nat} (h : ¬ lexlt f t b f' t' b') (ht : t < 16777216) (ht' : t' < 16777216) (hb : b < 4) (hb' : b' < 4) : (f' * 16777216 + t') * 4 + b' ≤ (f * 16777216 + t) * 4 + b := by
  unfold lexlt at h
  omega
theorem lex_lt {f t b f' t' b' : Nat} (h : lexlt f t b f' t' b') (ht : t < 16777216) (ht' : t' < 16777216) (hb : b < 4) (hb' : b' < 4) : (f * 16777216 + t) * 4 + b ≤ (f' * 16777216 + t') * 4 + b' := by
  unfold lexlt at h
  omega
theorem end7 (hO : TOk T) (h7 : TwB T tw) {b : Nat} {so : Bool} {ch x3 : Int32} {fs ts bs : Nat → Int32} {L : Nat → Option Nat} (hb : b < T 0 0) (hR : Rep7 L fs ts bs 1400000) : (None7 L b (T 0 2) ∧ f_X7_route_L61 50 50 tw fs ts bs ch (nI b) x3 (bi so) (-9) 0 = some (-9, fs, ts, bs, ch)) ∨ ∃ g c, Best7 L b (T 0 2) g c ∧ f_X7_route_L61 50 50 tw fs ts bs ch (nI b) x3 (bi so) (-9) 0 = some (if x3 = 2 then nI (c % 4) else if x3 = 0 then nI (fo so (c / 67108864) (c / 4 % 16777216)) else nI (fo so (c / 4 % 16777216) (c / 67108864)), fs, ts, bs, ch) := by
  have o1 := hO.1
  have o3 := hO.2.2.1
  have q2 : ∀ {α : Type} (X : Option α), xb (2 : Int32) 64 X = X := fun X => xb_l (by decide)
  obtain ⟨s, e1, hI⟩ := rel_loop (σ := Int32) (fun n s x => f_X7_route_L61 50 n tw fs ts bs ch (nI b) x3 (bi so) s x) (fun s => f_X7_route_L61b 50 (f_X7_route_L61 50 0) tw fs ts bs ch (nI b) x3 (bi so) s (nI (T 0 2))) (fun x s => (None7 L b x ∧ s = -9) ∨ ∃ g c, Best7 L b x g c ∧ s = nI (b * 4 + g)) (T 0 2) (by
    intro n x s hx hI
    show ∃ s', f_X7_route_L61b 50 (f_X7_route_L61 50 n) tw fs ts bs ch (nI b) x3 (bi so) s (nI x) = f_X7_route_L61 50 n tw fs ts bs ch (nI b) x3 (bi so) s' (nI (x + 1)) ∧ _
    unfold f_X7_route_L61b
    have qx : ∀ {α : Type} (X : Option α), xb (nI (b * 4 + x)) 28 X = X := fun X => xb_nI X (by omega) (by decide)
    simp only [q2, show ((2 : Int32).toNatClampNeg) = 2 from rfl, n4, qx, cl (b * 4 + x) (show b * 4 + x < 2 ^ 31 by omega), show nI x + 1 = nI (x + 1) from nI_add x 1]
    rw [h7.2.2.1, if_neg (nI_ge (by omega) (by omega))]
    rcases hR (b * 4 + x) (by omega) with ⟨r1, r2, _, _⟩ | ⟨f, t, bb, r1, r2, r3, r4, r5, r6, r7⟩
    · rw [r2, if_pos (show (99999999 : Int32) ≤ nI 99999999 by decide)]
      refine ⟨s, rfl, ?_⟩
      rcases hI with ⟨p1, p2⟩ | ⟨g, c, p1, p2⟩
      · refine .inl ⟨fun g' hg' => ?_, p2⟩
        by_cases e : g' = x
        · subst e
          exact r1
        · exact p1 g' (by omega)
      · refine .inr ⟨g, c, ⟨by have := p1.1; omega, p1.2.1, fun g' c' hg' hc' => ?_⟩, p2⟩
        by_cases e : g' = x
        · subst e
          rw [r1] at hc'
          cases hc'
        · exact p1.2.2 g' c' (by omega) hc'
    · rw [r2, r3, r4, if_neg (show ¬ (99999999 : Int32) ≤ nI f from by rw [show (99999999 : Int32) = nI 99999999 from rfl]; exact nI_ge (by omega) (by decide))]
      rcases hI with ⟨p1, p2⟩ | ⟨g, c, p1, p2⟩
      · rw [if_pos p2]
        refine ⟨_, rfl, .inr ⟨x, _, ⟨by omega, r1, fun g' c' hg' hc' => ?_⟩, rfl⟩⟩
        by_cases e : g' = x
        · subst e
          rw [r1] at hc'
          cases hc'
          exact Nat.le_refl _
        · rw [p1 g' (by omega)] at hc'
          cases hc'
      · have hg := p1.1
        rw [p2, if_neg (neg9 (by omega))]
        rcases hR (b * 4 + g) (by omega) with ⟨s1, _⟩ | ⟨f', t', b', s1, s2, s3, s4, s5, s6, s7⟩
        · rw [p1.2.1] at s1
          cases s1
        · rw [p1.2.1] at s1
          cases s1
          rcases isLess7 (f := f) (t := t) (b := bb) (show b * 4 + g < 28 by omega) s2 s3 s4 (by omega) (by omega) (by omega) (by omega) (by omega) (by omega) with ⟨c, e⟩ | ⟨c, e⟩
          · rw [e, bnd, if_neg (by decide)]
            refine ⟨_, rfl, .inr ⟨x, _, ⟨by omega, r1, fun g' c' hg' hc' => ?_⟩, rfl⟩⟩
            by_cases e : g' = x
            · subst e
              rw [r1] at hc'
              cases hc'
              exact Nat.le_refl _
            · exact Nat.le_trans (lex_lt c (by omega) (by omega) r7 s7) (p1.2.2 g' c' (by omega) hc')
          · rw [e, bnd, if_pos rfl]
            refine ⟨_, rfl, .inr ⟨g, _, ⟨by omega, p1.2.1, fun g' c' hg' hc' => ?_⟩, rfl⟩⟩
            by_cases e : g' = x
            · subst e
              rw [r1] at hc'
              have hc'' := (Option.some.inj hc').symm
              rw [hc'']
              exact lex_le c (by omega) (by omega) r7 s7
            · exact p1.2.2 g' c' (by omega) hc') (by
    intro n s hI
    show f_X7_route_L61b 50 (f_X7_route_L61 50 n) tw fs ts bs ch (nI b) x3 (bi so) s (nI (T 0 2)) = _
    have hle : tw 2 ≤ nI (T 0 2) := by rw [h7.2.2.1]; exact nI_le (Nat.le_refl _) (by omega)
    unfold f_X7_route_L61b
    simp only [q2, show ((2 : Int32).toNatClampNeg) = 2 from rfl, if_pos hle]) (T 0 2) 0 50 (-9) (by omega) (by omega) (.inl ⟨fun g' hg' => by omega, rfl⟩)
  have e2 : f_X7_route_L61 50 50 tw fs ts bs ch (nI b) x3 (bi so) (-9) 0 = f_X7_route_L61b 50 (f_X7_route_L61 50 0) tw fs ts bs ch (nI b) x3 (bi so) s (nI (T 0 2)) := e1
  have hle : tw 2 ≤ nI (T 0 2) := by rw [h7.2.2.1]; exact nI_le (Nat.le_refl _) (by omega)
  unfold f_X7_route_L61b f_X7_route_J178 at e2
  rw [q2, show ((2 : Int32).toNatClampNeg) = 2 from rfl, if_pos hle] at e2
  rcases hI with ⟨p1, p2⟩ | ⟨g, c, p1, p2⟩
  · rw [if_pos p2] at e2
    exact .inl ⟨p1, e2⟩
  · have hg := p1.1
    have qx : ∀ {α : Type} (X : Option α), xb (nI (b * 4 + g)) 28 X = X := fun X => xb_nI X (by omega) (by decide)
    rw [p2, if_neg (neg9 (by omega))] at e2
    simp only [qx, cl (b * 4 + g) (show b * 4 + g < 2 ^ 31 by omega)] at e2
    refine .inr ⟨g, c, p1, e2.trans ?_⟩
    rcases hR (b * 4 + g) (by omega) with ⟨s1, _⟩ | ⟨f', t', b', s1, s2, s3, s4, s5, s6, s7⟩
    · rw [p1.2.1] at s1
      cases s1
    · rw [p1.2.1] at s1
      cases s1
      rw [s2, s3, s4, show ((f' * 16777216 + t') * 4 + b') % 4 = b' by omega, show ((f' * 16777216 + t') * 4 + b') / 67108864 = f' by omega, show ((f' * 16777216 + t') * 4 + b') / 4 % 16777216 = t' by omega]
      by_cases w2 : x3 = 2
      · rw [if_pos w2, if_pos w2]
      · rw [if_neg w2, if_neg w2]
        by_cases w0 : x3 = 0
        · rw [if_pos w0, if_pos w0]
          cases so <;> rfl
        · rw [if_neg w0, if_neg w0]
          cases so <;> rfl
end ROUTE7
