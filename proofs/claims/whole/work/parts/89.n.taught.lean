def setF (b : Nat → Bool) (x : Nat) (acc : Int32) : Int32 := if b x then acc ||| ((1 : Int32) <<< (nI x &&& 31)) else acc
theorem or0 (a : Int32) : a ||| 0 = a := Int32.or_zero
section BYONE
variable {T : Nat → Nat → Nat} {nc ns ng nb hd : Int32} {mk ea eb ln pa fe kn hi bl tw : Nat → Int32}
def byOneB (T : Nat → Nat → Nat) (a c g : Nat) : Bool := (T 8 g).testBit a && (Rch T (T 7 g) (2 ^ a)).testBit c
theorem Rch_lt (hO : TOk T) {K m : Nat} (hm : m < 2 ^ T 0 0) : Rch T K m < 2 ^ T 0 0 := by
  unfold Rch
  rw [← reach_eq hO hm]
  have : ∀ (d x m : Nat), m < 2 ^ T 0 0 → itF (fun _ => psR T K) d x m < 2 ^ T 0 0 := by
    intro d
    induction d with
    | zero => intro x m hm; exact hm
    | succ d ih => intro x m hm; exact ih (x + 1) _ (ps_lt hO K _ _ m (by omega) hm)
  exact this _ _ _ hm
theorem reach6' (hO : TOk T) (h6 : TwA T nc ns ng nb hd mk ea eb ln pa fe kn hi bl) {K m : Nat} (hK : K < 2 ^ 31) (hm : m < 2 ^ T 0 0) : f_X4_reachedBy 50 ns ea eb (nI K) (nI m) = some (nI (Rch T K m)) := by
  rw [(reached6 hO h6 hK hm (by decide)).1, reach_eq hO hm]
  rfl
theorem byOne6 (hO : TOk T) (h6 : TwA T nc ns ng nb hd mk ea eb ln pa fe kn hi bl) {a c : Nat} (ha : a < T 0 0) (hc : c < T 0 0) : f_X6_byOne_L29 50 50 nc ns ng ea eb kn hi (nI a) (nI c) 0 0 = some (itF (setF (byOneB T a c)) (T 0 2) 0 0) := by
  have o1 := hO.1
  have o2 := hO.2.2.1
  have o7 := pw7 hO
  have o9 := pw9 hO
  refine (fold_loop (fun n m x => f_X6_byOne_L29 50 n nc ns ng ea eb kn hi (nI a) (nI c) m x) (fun m => some m) (setF (byOneB T a c)) (fun _ _ => True) (T 0 2) ?_ ?_ (T 0 2) 0 50 0 (by omega) (by omega) trivial).1
  · intro n x m hx _
    refine ⟨?_, trivial⟩
    show f_X6_byOne_L29b 50 (f_X6_byOne_L29 50 n) nc ns ng ea eb kn hi (nI a) (nI c) m (nI x) = _
    unfold f_X6_byOne_L29b
    have hg := h6.2.2.2.2.2.2.2.1 x hx
    have hk := (hO.2.2.2.2.2.2.2.1 x hx).2.2.1
    have hr := Rch_lt (K := T 7 x) hO (p2lt ha)
    rw [if_neg (by rw [h6.2.2.1]; exact nI_ge (by omega) (by omega)), his6 hO h6 hx ha, xb_nI _ (by omega) (by decide), cl _ (by omega), hg.2.2.1, oneShl (by omega), reach6' hO h6 (by omega) (p2lt ha), show nI x + 1 = nI (x + 1) from nI_add x 1]
    simp only [Option.bind_some, b01i]
    rw [bit1 (by omega) (by omega)]
    unfold setF byOneB
    cases (T 8 x).testBit a <;> cases (Rch T (T 7 x) (2 ^ a)).testBit c <;> rfl
  · intro n m _
    show f_X6_byOne_L29b 50 (f_X6_byOne_L29 50 n) nc ns ng ea eb kn hi (nI a) (nI c) m (nI (T 0 2)) = _
    unfold f_X6_byOne_L29b
    rw [if_pos (by rw [h6.2.2.1]; exact nI_le (Nat.le_refl _) (by omega))]
theorem byOne7 (hO : TOk T) (h7 : TwB T tw) {a c : Nat} (ha : a < T 0 0) (hc : c < T 0 0) : f_X7_byOne_L23 50 50 tw (nI a) (nI c) 0 0 = some (itF (setF (byOneB T a c)) (T 0 2) 0 0) := by
  have o1 := hO.1
  have o2 := hO.2.2.1
  have o7 := pw7 hO
  have o9 := pw9 hO
  have q1 : ∀ {α : Type} (A : Option α), xb (2 : Int32) 64 A = A := fun A => xb_l (by decide)
  refine (fold_loop (fun n m x => f_X7_byOne_L23 50 n tw (nI a) (nI c) m x) (fun m => some m) (setF (byOneB T a c)) (fun _ _ => True) (T 0 2) ?_ ?_ (T 0 2) 0 50 0 (by omega) (by omega) trivial).1
  · intro n x m hx _
    refine ⟨?_, trivial⟩
    show f_X7_byOne_L23b 50 (f_X7_byOne_L23 50 n) tw (nI a) (nI c) m (nI x) = _
    unfold f_X7_byOne_L23b
    have hk := (hO.2.2.2.2.2.2.2.1 x hx).2.2.1
    have hr := Rch_lt (K := T 7 x) hO (p2lt ha)
    rw [q1, show ((2 : Int32).toNatClampNeg) = 2 from rfl, h7.2.2.1, if_neg (nI_ge (by omega) (by omega)), isHis7 hO h7 hx (by omega), known7 hO h7 hx, oneShl (by omega), show nI x + 1 = nI (x + 1) from nI_add x 1]
    simp only [Option.bind_some, b01i, or0]
    rw [reach7 hO h7 (by omega) (p2lt ha) (by decide)]
    simp only [Option.bind_some]
    rw [show itF (fun _ => psR T (T 7 x)) (T 0 0) 0 (2 ^ a) = Rch T (T 7 x) (2 ^ a) from rfl, bit1 (by omega) (by omega)]
    unfold setF byOneB
    cases (T 8 x).testBit a <;> cases (Rch T (T 7 x) (2 ^ a)).testBit c <;> rfl
  · intro n m _
    show f_X7_byOne_L23b 50 (f_X7_byOne_L23 50 n) tw (nI a) (nI c) m (nI (T 0 2)) = _
    unfold f_X7_byOne_L23b
    rw [q1, show ((2 : Int32).toNatClampNeg) = 2 from rfl, h7.2.2.1, if_pos (nI_le (Nat.le_refl _) (by omega))]
/-- how many bits -/
def cntI (m : Nat) : Int32 := (f_J6_bitCount_0f7a4 (nI m)).getD 0
theorem cntI_e (m : Nat) : f_J6_bitCount_0f7a4 (nI m) = some (cntI m) := by
  obtain ⟨r, hr⟩ := bitC_some (nI m)
  unfold cntI
  rw [hr]
  rfl
def tauF (T : Nat → Nat → Nat) (g x : Nat) (s : Int32 × Int32) : Int32 × Int32 := if (T 7 g).testBit x then s else (if cntI (Rch T (T 7 g ||| 2 ^ x) (T 8 g)) ≤ s.2 then s else (nI x, cntI (Rch T (T 7 g ||| 2 ^ x) (T 8 g))))
theorem bnd {α β : Type} (a : α) (f : α → Option β) : (some a).bind f = f a := Eq.trans rfl rfl
theorem taught6 (hO : TOk T) (h6 : TwA T nc ns ng nb hd mk ea eb ln pa fe kn hi bl) {g : Nat} (hg : g < T 0 2) (x2 : Int32) : f_X6_taught_L32 50 50 ns ng ea eb kn hi (nI g) x2 (-9) (-9) 0 = some (if x2 = 0 then (itF (tauF T g) (T 0 1) 0 (-9, -9)).1 else (itF (tauF T g) (T 0 1) 0 (-9, -9)).2) := by
  have o1 := hO.1
  have o2 := hO.2.1
  have o3 := hO.2.2.1
  have o7 := pw7 hO
  have o9 := pw9 hO
  have hgg := h6.2.2.2.2.2.2.2.1 g hg
  have hk := hO.2.2.2.2.2.2.2.1 g hg
  have L3 : ∀ {α : Type} (A : Option α), xb (nI g) 4 A = A := fun A => xb_nI A (by omega) (by decide)
  refine (fold_loop (fun n (s : Int32 × Int32) x => f_X6_taught_L32 50 n ns ng ea eb kn hi (nI g) x2 s.1 s.2 x) (fun s => some (if x2 = 0 then s.1 else s.2)) (tauF T g) (fun _ _ => True) (T 0 1) ?_ ?_ (T 0 1) 0 50 (-9, -9) (by omega) (by omega) trivial).1
  · intro n x s hx _
    refine ⟨?_, trivial⟩
    show f_X6_taught_L32b 50 (f_X6_taught_L32 50 n) ns ng ea eb kn hi (nI g) x2 s.1 s.2 (nI x) = _
    unfold f_X6_taught_L32b
    have hb : T 7 g ||| 2 ^ x < 2 ^ 9 := Nat.or_lt_two_pow (by omega) (p2lt (by omega))
    rw [if_neg (by rw [h6.2.1]; exact nI_ge (by omega) (by omega)), kno6 hO h6 hg hx, L3, L3, cl _ (by omega), hgg.2.2.1, hgg.2.2.2, oneShl (by omega), fa_or, reach6' hO h6 (by omega) hk.2.2.2, show nI x + 1 = nI (x + 1) from nI_add x 1]
    simp only [bnd, b01i, cntI_e]
    unfold tauF
    generalize cntI (Rch T (T 7 g ||| 2 ^ x) (T 8 g)) = w
    cases (T 7 g).testBit x
    · by_cases e : w ≤ s.2
      · simp [e]
      · simp [e]
    · rfl
  · intro n s _
    show f_X6_taught_L32b 50 (f_X6_taught_L32 50 n) ns ng ea eb kn hi (nI g) x2 s.1 s.2 (nI (T 0 1)) = _
    unfold f_X6_taught_L32b
    rw [if_pos (by rw [h6.2.1]; exact nI_le (Nat.le_refl _) (by omega))]
    split <;> rfl
theorem taught7 (hO : TOk T) (h7 : TwB T tw) {g : Nat} (hg : g < T 0 2) (x2 : Int32) : f_X7_taught_L30 50 50 tw (nI g) x2 (-9) (-9) 0 = some (if x2 = 0 then (itF (tauF T g) (T 0 1) 0 (-9, -9)).1 else (itF (tauF T g) (T 0 1) 0 (-9, -9)).2) := by
  have o1 := hO.1
  have o2 := hO.2.1
  have o3 := hO.2.2.1
  have o7 := pw7 hO
  have o9 := pw9 hO
  have hk := hO.2.2.2.2.2.2.2.1 g hg
  have q1 : ∀ {α : Type} (A : Option α), xb (1 : Int32) 64 A = A := fun A => xb_l (by decide)
  refine (fold_loop (fun n (s : Int32 × Int32) x => f_X7_taught_L30 50 n tw (nI g) x2 s.1 s.2 x) (fun s => some (if x2 = 0 then s.1 else s.2)) (tauF T g) (fun _ _ => True) (T 0 1) ?_ ?_ (T 0 1) 0 50 (-9, -9) (by omega) (by omega) trivial).1
  · intro n x s hx _
    refine ⟨?_, trivial⟩
    show f_X7_taught_L30b 50 (f_X7_taught_L30 50 n) tw (nI g) x2 s.1 s.2 (nI x) = _
    unfold f_X7_taught_L30b f_X7_taught_J91
    have hb : T 7 g ||| 2 ^ x < 2 ^ 9 := Nat.or_lt_two_pow (by omega) (p2lt (by omega))
    have hr := Rch_lt (K := T 7 g ||| 2 ^ x) hO hk.2.2.2
    rw [q1, show ((1 : Int32).toNatClampNeg) = 1 from rfl, h7.2.1, if_neg (nI_ge (by omega) (by omega)), known7 hO h7 hg, his7 hO h7 hg, oneShl (by omega), show nI x + 1 = nI (x + 1) from nI_add x 1]
    simp only [Option.bind_some, fa_or]
    rw [reach7 hO h7 (by omega) hk.2.2.2 (by decide), show itF (fun _ => psR T (T 7 g ||| 2 ^ x)) (T 0 0) 0 (T 8 g) = Rch T (T 7 g ||| 2 ^ x) (T 8 g) from rfl]
    simp only [Option.bind_some]
    rw [manyE _ (by omega), cntI_e, bit0 (by omega) (by omega)]
    simp only [Option.bind_some]
    unfold tauF
    generalize cntI (Rch T (T 7 g ||| 2 ^ x) (T 8 g)) = w
    cases (T 7 g).testBit x
    · by_cases e : w ≤ s.2
      · simp [e]
      · simp [e]
    · rfl
  · intro n s _
    show f_X7_taught_L30b 50 (f_X7_taught_L30 50 n) tw (nI g) x2 s.1 s.2 (nI (T 0 1)) = _
    unfold f_X7_taught_L30b
    rw [q1, show ((1 : Int32).toNatClampNeg) = 1 from rfl, h7.2.1, if_pos (nI_le (Nat.le_refl _) (by omega))]
    split <;> rfl
end BYONE
theorem st_byOne : St_byOne Sim := by
  intro I F as J G tr x1 x2 h
  have hs := h
  obtain ⟨T, hO, h6, h7, r⟩ := h
  have o1 := hO.1
  have q6 : f_X6_byOne 50 (I 6) (I 7) (I 8) (F 3) (F 4) (F 8) (F 9) x1 x2 = if 0 ≤ x1.toInt ∧ x1.toInt < T 0 0 then (if 0 ≤ x2.toInt ∧ x2.toInt < T 0 0 then f_X6_byOne_L29 50 50 (I 6) (I 7) (I 8) (F 3) (F 4) (F 8) (F 9) x1 x2 0 0 else some (-1)) else some (-1) := by
    unfold f_X6_byOne
    rw [show f_X4_hasCorner (I 6) x1 = some (if 0 ≤ x1.toInt ∧ x1.toInt < T 0 0 then 1 else 0) from by rw [h6.1]; exact hasC6 (by omega) _, show f_X4_hasCorner (I 6) x2 = some (if 0 ≤ x2.toInt ∧ x2.toInt < T 0 0 then 1 else 0) from by rw [h6.1]; exact hasC6 (by omega) _]
    simp only [Option.bind_some, b01i]
  have q7 : f_X7_byOne 50 (G 2) x1 x2 = if 0 ≤ x1.toInt ∧ x1.toInt < T 0 0 then (if 0 ≤ x2.toInt ∧ x2.toInt < T 0 0 then f_X7_byOne_L23 50 50 (G 2) x1 x2 0 0 else some (-1)) else some (-1) := by
    unfold f_X7_byOne
    rw [isC7 h7.1 (by omega), isC7 h7.1 (by omega)]
    simp only [Option.bind_some, b01i]
  by_cases c1 : 0 ≤ x1.toInt ∧ x1.toInt < T 0 0
  · rw [if_pos c1] at q6 q7
    by_cases c2 : 0 ≤ x2.toInt ∧ x2.toInt < T 0 0
    · rw [if_pos c2] at q6 q7
      obtain ⟨a, ha, rfl⟩ := of_in c1.1 c1.2
      obtain ⟨c, hc, rfl⟩ := of_in c2.1 c2.2
      exact ⟨50, _, 50, _, q6.trans (byOne6 hO h6 ha hc), q7.trans (byOne7 hO h7 ha hc), rfl, hs⟩
    · rw [if_neg c2] at q6 q7
      exact ⟨50, _, 50, _, q6, q7, rfl, hs⟩
  · rw [if_neg c1] at q6 q7
    exact ⟨50, _, 50, _, q6, q7, rfl, hs⟩
theorem st_taught : St_taught Sim := by
  intro I F as J G tr x1 x2 h
  have hs := h
  obtain ⟨T, hO, h6, h7, r⟩ := h
  have o3 := hO.2.2.1
  have q6 : f_X6_taught 50 (I 7) (I 8) (F 3) (F 4) (F 8) (F 9) x1 x2 = if 0 ≤ x1.toInt ∧ x1.toInt < T 0 2 then (if 0 ≤ x2.toInt ∧ x2.toInt ≤ 1 then f_X6_taught_L32 50 50 (I 7) (I 8) (F 3) (F 4) (F 8) (F 9) x1 x2 (-9) (-9) 0 else some (-1)) else some (-1) := by
    unfold f_X6_taught
    rw [rng6 x2 1 1 rfl, show f_X4_hasGuide (I 8) x1 = some (if 0 ≤ x1.toInt ∧ x1.toInt < T 0 2 then 1 else 0) from by rw [h6.2.2.1]; exact hasG6 (by omega) _]
    simp only [Option.bind_some, b01i]
  have q7 : f_X7_taught 50 (G 2) x1 x2 = if 0 ≤ x1.toInt ∧ x1.toInt < T 0 2 then (if 0 ≤ x2.toInt ∧ x2.toInt ≤ 1 then f_X7_taught_L30 50 50 (G 2) x1 x2 (-9) (-9) 0 else some (-1)) else some (-1) := by
    unfold f_X7_taught
    rw [isG7 h7.2.2.1 (by omega), in7n x2 0 1 0 1 rfl rfl]
    simp only [Option.bind_some, b01i]
  by_cases c1 : 0 ≤ x1.toInt ∧ x1.toInt < T 0 2
  · rw [if_pos c1] at q6 q7
    by_cases c2 : 0 ≤ x2.toInt ∧ x2.toInt ≤ 1
    · rw [if_pos c2] at q6 q7
      obtain ⟨g, hg, rfl⟩ := of_in c1.1 c1.2
      exact ⟨50, _, 50, _, q6.trans (taught6 hO h6 hg x2), q7.trans (taught7 hO h7 hg x2), rfl, hs⟩
    · rw [if_neg c2] at q6 q7
      exact ⟨50, _, 50, _, q6, q7, rfl, hs⟩
  · rw [if_neg c1] at q6 q7
    exact ⟨50, _, 50, _, q6, q7, rfl, hs⟩
