/-! hires, leads -/
theorem neg9 {n : Nat} (h : n < 2 ^ 31) : ¬ nI n = -9 := by
  intro e
  have h1 := congrArg Int32.toInt e
  rw [tl n h, show (-9 : Int32).toInt = -9 from rfl] at h1
  omega
theorem bit1 {α : Type} {a k : Nat} (ha : a < 2 ^ 31) (hk : k < 31) (A B : α) : (if (nI a >>> (nI k &&& 31)) &&& 1 = 1 then A else B) = if a.testBit k then A else B := by
  rw [bitE ha hk]
  cases a.testBit k
  · rw [if_neg (by decide)]; rfl
  · rw [if_pos (by decide)]; rfl
theorem bit0 {α : Type} {a k : Nat} (ha : a < 2 ^ 31) (hk : k < 31) (A B : α) : (if (nI a >>> (nI k &&& 31)) &&& 1 = 0 then A else B) = if a.testBit k then B else A := by
  rw [bitE ha hk]
  cases a.testBit k
  · rw [if_pos (by decide)]; rfl
  · rw [if_neg (by decide)]; rfl
section HIRE
variable {T : Nat → Nat → Nat} {nc ns ng nb hd : Int32} {mk ea eb ln pa fe kn hi bl tw : Nat → Int32}
theorem pw7 (hO : TOk T) : 2 ^ T 0 0 ≤ 128 := by
  have := Nat.pow_le_pow_right (n := 2) (by decide) hO.1
  omega
theorem pw9 (hO : TOk T) : 2 ^ T 0 1 ≤ 512 := by
  have := Nat.pow_le_pow_right (n := 2) (by decide) hO.2.1
  omega
theorem his6 (hO : TOk T) (h6 : TwA T nc ns ng nb hd mk ea eb ln pa fe kn hi bl) {g c : Nat} (hg : g < T 0 2) (hc : c < T 0 0) : f_X4_isHis nc ng hi (nI g) (nI c) = some (if (T 8 g).testBit c then 1 else 0) := by
  have h1 := hO.1
  have h2 := hO.2.2.1
  have h3 := (hO.2.2.2.2.2.2.2.1 g hg).2.2.2
  have h4 := pw7 hO
  unfold f_X4_isHis
  rw [h6.1, h6.2.2.1, hasG6 (by omega), hasC6 (by omega)]
  simp only [Option.bind_some, b01i, tl g (show g < 2 ^ 31 by omega), tl c (show c < 2 ^ 31 by omega)]
  rw [if_pos (by omega), if_pos (by omega), xb_nI _ (by omega) (by decide), cl _ (by omega), (h6.2.2.2.2.2.2.2.1 g hg).2.2.2, bit1 (by omega) (by omega)]
  split <;> rfl
theorem his6n (h6 : TwA T nc ns ng nb hd mk ea eb ln pa fe kn hi bl) (hO : TOk T) (x : Int32) : f_X4_isHis nc ng hi (-9) x = some 0 := by
  have h2 := hO.2.2.1
  unfold f_X4_isHis
  rw [h6.2.2.1, hasG6 (by omega)]
  simp only [Option.bind_some, b01i]
  rw [if_neg (by rw [show (-9 : Int32).toInt = -9 from rfl]; omega)]
theorem kno6 (hO : TOk T) (h6 : TwA T nc ns ng nb hd mk ea eb ln pa fe kn hi bl) {g s : Nat} (hg : g < T 0 2) (hs : s < T 0 1) : f_X4_knowsStreet ns ng kn (nI g) (nI s) = some (if (T 7 g).testBit s then 1 else 0) := by
  have h1 := hO.2.1
  have h2 := hO.2.2.1
  have h3 := (hO.2.2.2.2.2.2.2.1 g hg).2.2.1
  have h4 := pw9 hO
  unfold f_X4_knowsStreet
  rw [h6.2.1, h6.2.2.1, hasG6 (by omega), hasS6 (by omega)]
  simp only [Option.bind_some, b01i, tl g (show g < 2 ^ 31 by omega), tl s (show s < 2 ^ 31 by omega)]
  rw [if_pos (by omega), if_pos (by omega), xb_nI _ (by omega) (by decide), cl _ (by omega), (h6.2.2.2.2.2.2.2.1 g hg).2.2.1, bit1 (by omega) (by omega)]
  split <;> rfl
theorem kno6n (h6 : TwA T nc ns ng nb hd mk ea eb ln pa fe kn hi bl) (hO : TOk T) (x : Int32) : f_X4_knowsStreet ns ng kn (-9) x = some 0 := by
  have h2 := hO.2.2.1
  unfold f_X4_knowsStreet
  rw [h6.2.2.1, hasG6 (by omega)]
  simp only [Option.bind_some, b01i]
  rw [if_neg (by rw [show (-9 : Int32).toInt = -9 from rfl]; omega)]
theorem at6 (hO : TOk T) (h6 : TwA T nc ns ng nb hd mk ea eb ln pa fe kn hi bl) {s c : Nat} (hs : s < T 0 1) (hc : c < 2 ^ 31) : f_X4_isAt ea eb (nI s) (nI c) = some (if T 2 s = c ∨ T 3 s = c then 1 else 0) := by
  have h1 := hO.1
  have h2 := hO.2.1
  have h3 := hO.2.2.2.2.2.2.1 s hs
  have h4 := h6.2.2.2.2.2.2.1 s hs
  unfold f_X4_isAt
  rw [xb_nI _ (by omega) (by decide), xb_nI _ (by omega) (by decide), cl _ (by omega), h4.1, h4.2.1, eqE (by omega) hc, eqE (by omega) hc]
  by_cases e1 : T 2 s = c
  · rw [if_pos e1, if_pos (Or.inl e1)]
  · rw [if_neg e1]
    by_cases e2 : T 3 s = c
    · rw [if_pos e2, if_pos (Or.inr e2)]
    · rw [if_neg e2, if_neg (fun q => q.elim e1 e2)]
theorem acr6 (hO : TOk T) (h6 : TwA T nc ns ng nb hd mk ea eb ln pa fe kn hi bl) {s c : Nat} (hs : s < T 0 1) (hc : c < 2 ^ 31) : f_X4_acrossFrom ea eb (nI s) (nI c) = some (nI (if T 2 s = c then T 3 s else T 2 s)) := by
  have h1 := hO.1
  have h2 := hO.2.1
  have h3 := hO.2.2.2.2.2.2.1 s hs
  have h4 := h6.2.2.2.2.2.2.1 s hs
  unfold f_X4_acrossFrom
  rw [xb_nI _ (by omega) (by decide), xb_nI _ (by omega) (by decide), xb_nI _ (by omega) (by decide), cl _ (by omega), h4.1, h4.2.1, eqE (by omega) hc]
  split <;> rfl
theorem led6 (hO : TOk T) (h6 : TwA T nc ns ng nb hd mk ea eb ln pa fe kn hi bl) {g s : Nat} (hg : g < T 0 2) (hs : s < T 0 1) : f_X4_ledMinutes ln pa (nI g) (nI s) = some (nI (T 4 s + T 5 g)) := by
  have h1 := hO.2.1
  have h2 := hO.2.2.1
  unfold f_X4_ledMinutes
  rw [xb_nI _ (by omega) (by decide), xb_nI _ (by omega) (by decide), cl _ (by omega), cl _ (by omega), (h6.2.2.2.2.2.2.1 s hs).2.2, (h6.2.2.2.2.2.2.2.1 g hg).1, nI_add]
theorem isHis7 (hO : TOk T) (h7 : TwB T tw) {g c : Nat} (hg : g < T 0 2) (hc : c < 31) : f_X7_isHis tw (nI g) (nI c) = some (if (T 8 g).testBit c then 1 else 0) := by
  have h3 := (hO.2.2.2.2.2.2.2.1 g hg).2.2.2
  have h4 := pw7 hO
  unfold f_X7_isHis
  rw [if_neg (nI_pos (by omega)), his7 hO h7 hg]
  simp only [Option.bind_some]
  rw [bit1 (by omega) hc]
  split <;> rfl
theorem isHis7n (x : Int32) : f_X7_isHis tw x (-9) = some 0 := by
  unfold f_X7_isHis
  rw [if_pos (by decide)]
theorem over7 (hO : TOk T) (h7 : TwB T tw) {s c : Nat} (hs : s < T 0 1) (hc : c < 2 ^ 31) : f_X7_over tw (nI s) (nI c) = some (if T 2 s = c ∨ T 3 s = c then nI (if T 2 s = c then T 3 s else T 2 s) else -9) := by
  have h1 := hO.1
  have h2 := hO.2.1
  have h3 := hO.2.2.2.2.2.2.1 s hs
  have h4 := h7.2.2.2.2.2.2.1 s hs
  unfold f_X7_over
  rw [show (13 : Int32) + 3 * nI s = nI (13 + 3 * s) from by rw [show (3 : Int32) = nI 3 from rfl, pk_mul, show (13 : Int32) = nI 13 from rfl, nI_add], show nI (13 + 3 * s) + 1 = nI (13 + 3 * s + 1) from nI_add _ 1, xb_nI _ (by omega) (by decide), xb_nI _ (by omega) (by decide), cl _ (by omega), cl _ (by omega), show 13 + 3 * s + 1 = 14 + 3 * s by omega, h4.1, h4.2.1, eqE (by omega) hc, eqE (by omega) hc]
  by_cases e1 : T 2 s = c
  · rw [if_pos e1, if_pos (Or.inl e1), if_pos e1]
  · rw [if_neg e1]
    by_cases e2 : T 3 s = c
    · rw [if_pos e2, if_pos (Or.inr e2), if_neg e1]
    · rw [if_neg e2, if_neg (fun q => q.elim e1 e2)]
theorem over7n (hO : TOk T) (h7 : TwB T tw) {s : Nat} (hs : s < T 0 1) : f_X7_over tw (nI s) (-9) = some (-9) := by
  have h1 := hO.1
  have h2 := hO.2.1
  have h3 := hO.2.2.2.2.2.2.1 s hs
  have h4 := h7.2.2.2.2.2.2.1 s hs
  unfold f_X7_over
  rw [show (13 : Int32) + 3 * nI s = nI (13 + 3 * s) from by rw [show (3 : Int32) = nI 3 from rfl, pk_mul, show (13 : Int32) = nI 13 from rfl, nI_add], show nI (13 + 3 * s) + 1 = nI (13 + 3 * s + 1) from nI_add _ 1, xb_nI _ (by omega) (by decide), xb_nI _ (by omega) (by decide), cl _ (by omega), cl _ (by omega), show 13 + 3 * s + 1 = 14 + 3 * s by omega, h4.1, h4.2.1, if_neg (neg9 (by omega)), if_neg (neg9 (by omega))]
theorem length7 (hO : TOk T) (h7 : TwB T tw) {s : Nat} (hs : s < T 0 1) : f_X7_length tw (nI s) = some (nI (T 4 s)) := by
  have h2 := hO.2.1
  have h4 := h7.2.2.2.2.2.2.1 s hs
  unfold f_X7_length
  rw [show (13 : Int32) + 3 * nI s + 2 = nI (15 + 3 * s) from by rw [show (3 : Int32) = nI 3 from rfl, pk_mul, show (13 : Int32) = nI 13 from rfl, nI_add, show (2 : Int32) = nI 2 from rfl, nI_add]; congr 1; omega, xb_nI _ (by omega) (by decide), cl _ (by omega), h4.2.2]
/-- whether one may hire: both sides say the same -/
theorem mayHire_eq (hO : TOk T) (h6 : TwA T nc ns ng nb hd mk ea eb ln pa fe kn hi bl) (h7 : TwB T tw) {co mi pd le : Int32} {now : Nat → Int32} (hr : RowS T co mi pd le now 0) {g : Nat} (hg : g < T 0 2) : ∃ b : Int32, (b = 0 ∨ b = 1) ∧ f_X6_mayHire nc ng hd hi co mi le (nI g) = some b ∧ f_X7_mayHire tw now (nI g) = some b ∧ (b = 1 → T 0 0 ≠ 0 ∧ (le = -9 ∨ ∃ m, mi = nI m ∧ m + T 0 4 ≤ 9999)) := by
  obtain ⟨⟨c, ec, hc⟩, ⟨m, em, hm⟩, hp, hl, n0, n1, n2, n3⟩ := hr
  have o1 := hO.1
  have o2 := hO.2.2.1
  have o4 := hO.2.2.2.2.1
  have q0 : ∀ {α : Type} (A : Option α), xb (0 : Int32) 4 A = A := fun A => xb_l (by decide)
  have q1 : ∀ {α : Type} (A : Option α), xb (1 : Int32) 4 A = A := fun A => xb_l (by decide)
  have q3 : ∀ {α : Type} (A : Option α), xb (3 : Int32) 4 A = A := fun A => xb_l (by decide)
  have q6 : ∀ {α : Type} (A : Option α), xb (3 : Int32) 64 A = A := fun A => xb_l (by decide)
  rw [Nat.zero_add] at n1 n2 n3
  unfold f_X6_mayHire f_X7_mayHire f_X7_mayHire_J16
  simp only [q0, q1, q3, q6, show ((0 : Int32).toNatClampNeg) = 0 from rfl, show ((1 : Int32).toNatClampNeg) = 1 from rfl, show ((3 : Int32).toNatClampNeg) = 3 from rfl, n0, n1, n3, h7.2.2.2.1]
  by_cases z : T 0 0 = 0
  · refine ⟨0, Or.inl rfl, ?_, ?_, fun h => absurd h (by decide)⟩
    · rw [h6.1, z, if_pos (show nI 0 = 0 from rfl)]
    · rw [if_pos z, isHis7n]
      simp
  · have hc : c < T 0 0 := hc.resolve_right (fun q => z q.1)
    rw [h6.1, if_neg (nI_ne0 (by omega) (by omega)), ← h6.1, if_neg z, ec, his6 hO h6 hg hc, isHis7 hO h7 hg (by omega)]
    simp only [Option.bind_some]
    rcases hl with rfl | ⟨l, hl, rfl⟩
    · have eg : ¬ (-9 : Int32) = nI g := fun e => neg9 (n := g) (by omega) e.symm
      cases (T 8 g).testBit c
      · exact ⟨0, Or.inl rfl, by simp [eg], by simp [eg], fun h => absurd h (by decide)⟩
      · exact ⟨1, Or.inr rfl, by simp [eg], by simp [eg], fun _ => ⟨z, Or.inl rfl⟩⟩
    · rw [if_neg (neg9 (by omega)), if_neg (neg9 (by omega)), his6 hO h6 hl hc, isHis7 hO h7 hl (by omega), em, h6.2.2.2.2.1, nI_add, show (9999 : Int32) = nI 9999 from rfl, eqE (by omega) (by omega), eqE (by omega) (by omega)]
      simp only [Option.bind_some]
      rw [ltE (by decide) (by omega)]
      by_cases e : l = g
      · rw [if_pos e, if_pos e]
        refine ⟨0, Or.inl rfl, rfl, ?_, fun h => absurd h (by decide)⟩
        cases (T 8 g).testBit c <;> rfl
      · rw [if_neg e, if_neg e]
        cases (T 8 g).testBit c
        · exact ⟨0, Or.inl rfl, rfl, rfl, fun h => absurd h (by decide)⟩
        · cases (T 8 l).testBit c
          · exact ⟨0, Or.inl rfl, rfl, rfl, fun h => absurd h (by decide)⟩
          · by_cases hh : 9999 < m + T 0 4
            · rw [if_pos hh]
              exact ⟨0, Or.inl rfl, rfl, rfl, fun h => absurd h (by decide)⟩
            · rw [if_neg hh]
              exact ⟨1, Or.inr rfl, rfl, rfl, fun _ => ⟨z, Or.inr ⟨m, rfl, by omega⟩⟩⟩
/-- whether one may be led -/
theorem mayLead_eq (hO : TOk T) (h6 : TwA T nc ns ng nb hd mk ea eb ln pa fe kn hi bl) (h7 : TwB T tw) {co mi pd le : Int32} {now : Nat → Int32} (hr : RowS T co mi pd le now 0) {s : Nat} (hs : s < T 0 1) : ∃ b : Int32, (b = 0 ∨ b = 1) ∧ f_X6_mayBeLed ns ng ea eb ln pa fe kn co mi pd le (nI s) = some b ∧ f_X7_mayLead tw now (nI s) = some b ∧ (b = 1 → ∃ c l m p, c < T 0 0 ∧ l < T 0 2 ∧ co = nI c ∧ le = nI l ∧ mi = nI m ∧ pd = nI p ∧ (T 2 s = c ∨ T 3 s = c) ∧ m + (T 4 s + T 5 l) ≤ 9999 ∧ p + T 6 l * (T 4 s + T 5 l) ≤ 99999) ∧ (le = -9 → b = 0) := by
  obtain ⟨⟨c, ec, hc⟩, ⟨m, em, hm⟩, ⟨p, ep, hp⟩, hl, n0, n1, n2, n3⟩ := hr
  have o1 := hO.1
  have o2 := hO.2.2.1
  have o3 := hO.2.2.2.2.2.2.1 s hs
  have hc : c < T 0 0 := by rcases hc with h | h <;> omega
  have q0 : ∀ {α : Type} (A : Option α), xb (0 : Int32) 4 A = A := fun A => xb_l (by decide)
  have q1 : ∀ {α : Type} (A : Option α), xb (1 : Int32) 4 A = A := fun A => xb_l (by decide)
  have q2 : ∀ {α : Type} (A : Option α), xb (2 : Int32) 4 A = A := fun A => xb_l (by decide)
  have q3 : ∀ {α : Type} (A : Option α), xb (3 : Int32) 4 A = A := fun A => xb_l (by decide)
  rw [Nat.zero_add] at n1 n2 n3
  rw [if_neg (by omega)] at n0
  unfold f_X6_mayBeLed f_X7_mayLead
  simp only [q0, q1, q2, q3, show ((0 : Int32).toNatClampNeg) = 0 from rfl, show ((1 : Int32).toNatClampNeg) = 1 from rfl, show ((2 : Int32).toNatClampNeg) = 2 from rfl, show ((3 : Int32).toNatClampNeg) = 3 from rfl, n0, n1, n2, n3]
  rcases hl with rfl | ⟨l, hl, rfl⟩
  · rw [kno6n h6 hO, if_pos rfl]
    exact ⟨0, Or.inl rfl, rfl, rfl, fun h => absurd h (by decide), fun _ => rfl⟩
  · have o5 := hO.2.2.2.2.2.2.2.1 l hl
    have o6 := pw9 hO
    have hne : ¬ nI l = -9 := neg9 (by omega)
    have hfe : T 6 l * (T 4 s + T 5 l) ≤ 9 * 14 := Nat.mul_le_mul o5.2.1 (by omega)
    rw [if_neg hne, ec, kno6 hO h6 hl hs, at6 hO h6 hs (by omega), led6 hO h6 hl hs, over7 hO h7 hs (by omega), known7 hO h7 hl, length7 hO h7 hs, pace7 hO h7 hl, fee7 hO h7 hl, em, ep, cl l (by omega), (h6.2.2.2.2.2.2.2.1 l hl).2.1]
    simp only [Option.bind_some]
    have L1 : ∀ A B : Option Int32, (if nI 9999 < nI (m + (T 4 s + T 5 l)) then A else B) = if 9999 < m + (T 4 s + T 5 l) then A else B := fun A B => ltE (by decide) (by omega) A B
    have L2 : ∀ A B : Option Int32, (if nI 99999 < nI (p + T 6 l * (T 4 s + T 5 l)) then A else B) = if 99999 < p + T 6 l * (T 4 s + T 5 l) then A else B := fun A B => ltE (by decide) (by omega) A B
    have L3 : ∀ A : Option Int32, xb (nI l) 4 A = A := fun A => xb_nI A (by omega) (by decide)
    simp only [nI_add, pk_mul, show (9999 : Int32) = nI 9999 from rfl, show (99999 : Int32) = nI 99999 from rfl, L1, L2, L3]
    rw [bit0 (by omega) (by have := hO.2.1; omega)]
    by_cases a1 : T 2 s = c ∨ T 3 s = c
    · have ha : ¬ nI (if T 2 s = c then T 3 s else T 2 s) = -9 := neg9 (by split <;> omega)
      simp only [if_pos a1, if_neg ha]
      cases (T 7 l).testBit s
      · exact ⟨0, Or.inl rfl, rfl, rfl, fun h => absurd h (by decide), fun h => absurd h hne⟩
      · by_cases b1 : 9999 < m + (T 4 s + T 5 l)
        · exact ⟨0, Or.inl rfl, by simp [b1], by simp [b1], fun h => absurd h (by decide), fun h => absurd h hne⟩
        · by_cases b2 : 99999 < p + T 6 l * (T 4 s + T 5 l)
          · exact ⟨0, Or.inl rfl, by simp [b1, b2], by simp [b1, b2], fun h => absurd h (by decide), fun h => absurd h hne⟩
          · exact ⟨1, Or.inr rfl, by simp [b1, b2], by simp [b1, b2], fun _ => ⟨c, l, m, p, hc, hl, rfl, rfl, rfl, rfl, a1, by omega, by omega⟩, fun h => absurd h hne⟩
    · simp only [if_neg a1]
      refine ⟨0, Or.inl rfl, ?_, rfl, fun h => absurd h (by decide), fun h => absurd h hne⟩
      cases (T 7 l).testBit s <;> rfl
end HIRE
theorem st_hires : St_hires Sim := by
  intro I F as J G tr x1 h
  obtain ⟨T, hO, h6, h7, ha, r1, h8, r3, r4, r5, r6, r7⟩ := h
  have o2 := hO.2.2.1
  have h8' := h8
  obtain ⟨hr, k, hk, u6, u7, hj⟩ := h8
  obtain ⟨un', cs', ms', ps', ls', ud', e6, e7, hrows⟩ := tale_note h8'
  have q1 : ∀ {α : Type} (A : Option α), xb (1 : Int32) 4 A = A := fun A => xb_l (by decide)
  have q3 : ∀ {α : Type} (A : Option α), xb (3 : Int32) 4 A = A := fun A => xb_l (by decide)
  have q6' : ∀ {α : Type} (A : Option α), xb (3 : Int32) 64 A = A := fun A => xb_l (by decide)
  by_cases hx : 0 ≤ x1.toInt ∧ x1.toInt < T 0 2
  · obtain ⟨g, hg, rfl⟩ := of_in hx.1 hx.2
    obtain ⟨b, hb, m6, m7, hb1⟩ := mayHire_eq hO h6 h7 hr hg
    rcases hb with rfl | rfl
    · have q6 : f_X6_hires (I 6) (I 8) (I 10) (F 9) (I 18) (I 19) (I 20) (I 21) (I 22) (F 20) (F 21) (F 22) (F 23) (nI g) = some (-2, I 18, I 19, I 20, I 21, I 22, F 20, F 21, F 22, F 23) := by
        unfold f_X6_hires
        rw [m6, h6.2.2.1, hasG6 (by omega)]
        simp only [Option.bind_some, b01i]
        rw [if_pos hx]
        rfl
      have q7 : f_X7_hires 50 (G 2) (G 3) (G 4) (J 5) (nI g) = some (-2, G 3, G 4, J 5) := by
        unfold f_X7_hires
        rw [m7, isG7 h7.2.2.1 (by omega)]
        simp only [Option.bind_some, b01i]
        rw [if_pos hx]
        rfl
      exact ⟨_, 50, _, q6, q7, rfl, T, hO, h6, h7, ha, r1, h8', r3, r4, r5, r6, r7⟩
    · obtain ⟨hc, ⟨m, em, hm⟩, hp, hl, n0, n1, n2, n3⟩ := hr
      rw [Nat.zero_add] at n1 n2 n3
      obtain ⟨z, hb1⟩ := hb1 rfl
      have o4 := hO.2.2.2.2.1
      obtain ⟨t, et, ht⟩ : ∃ t : Nat, (if I 21 = -9 then (0 : Int32) else I 10) = nI t ∧ m + t ≤ 9999 := by
        by_cases e : I 21 = -9
        · rw [if_pos e]; exact ⟨0, rfl, by omega⟩
        · rw [if_neg e]
          rcases hb1 with h | ⟨m', e', hh⟩
          · exact absurd h e
          · rw [em, nI_eq (by omega) (by omega)] at e'
            exact ⟨T 0 4, h6.2.2.2.2.1, by omega⟩
      have q6 : f_X6_hires (I 6) (I 8) (I 10) (F 9) (I 18) (I 19) (I 20) (I 21) (I 22) (F 20) (F 21) (F 22) (F 23) (nI g) = some (nI (m + t), I 18, nI (m + t), I 20 + 0, nI g, un', cs', ms', ps', ls') := by
        unfold f_X6_hires f_X6_hires_J47 f_X1_step
        rw [m6, h6.2.2.1, hasG6 (by omega), e6]
        simp only [Option.bind_some, b01i]
        rw [if_pos hx, if_neg (by decide)]
        by_cases e : I 21 = -9
        · rw [if_pos e] at et
          rw [if_pos e, et, em, nI_add]
        · rw [if_neg e] at et
          rw [if_neg e, et, em, nI_add]
      have q7 : f_X7_hires 50 (G 2) (G 3) (G 4) (J 5) (nI g) = some (nI (m + t), upd (upd (G 3) 1 (nI (m + t))) 3 (nI g), ud', un') := by
        unfold f_X7_hires f_X7_hires_J53
        rw [m7, isG7 h7.2.2.1 (by omega), e7 50 (by omega)]
        simp only [Option.bind_some, b01i, q1, q3, q6', show ((1 : Int32).toNatClampNeg) = 1 from rfl, show ((3 : Int32).toNatClampNeg) = 3 from rfl, n1, n3]
        rw [if_pos hx, if_neg (by decide)]
        by_cases e : I 21 = -9
        · rw [if_pos e] at et
          rw [if_pos e, et, em, nI_add]
          rfl
        · rw [if_neg e] at et
          rw [if_neg e, h7.2.2.2.1, ← h6.2.2.2.2.1, et, em, nI_add]
          rfl
      refine ⟨_, 50, _, q6, q7, rfl, T, hO, h6, h7, ha, r1, ⟨⟨hc, ⟨m + t, rfl, ht⟩, ?_, Or.inr ⟨g, hg, rfl⟩, n0, rfl, ?_, rfl⟩, hrows⟩, r3, r4, r5, r6, r7⟩
      · show ∃ k, I 20 + 0 = nI k ∧ k ≤ 99999
        rw [Int32.add_zero]; exact hp
      · show G 3 2 = I 20 + 0
        rw [Int32.add_zero]; exact n2
  · have q6 : f_X6_hires (I 6) (I 8) (I 10) (F 9) (I 18) (I 19) (I 20) (I 21) (I 22) (F 20) (F 21) (F 22) (F 23) x1 = some (-1, I 18, I 19, I 20, I 21, I 22, F 20, F 21, F 22, F 23) := by
      unfold f_X6_hires
      rw [h6.2.2.1, hasG6 (by omega)]
      simp only [Option.bind_some, b01i]
      rw [if_neg hx]
    have q7 : f_X7_hires 50 (G 2) (G 3) (G 4) (J 5) x1 = some (-1, G 3, G 4, J 5) := by
      unfold f_X7_hires
      rw [isG7 h7.2.2.1 (by omega)]
      simp only [Option.bind_some, b01i]
      rw [if_neg hx]
    exact ⟨_, 50, _, q6, q7, rfl, T, hO, h6, h7, ha, r1, h8', r3, r4, r5, r6, r7⟩
