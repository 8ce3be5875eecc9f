/-- an index that must be within -/
def xb {α : Type} (i : Int32) (n : Nat) (k : Option α) : Option α := if (i < 0 ∨ n ≤ i.toNatClampNeg) then none else k
theorem xb_some {α : Type} {i : Int32} {n : Nat} {k : Option α} {r : α} (h : xb i n k = some r) : vp_in i n ∧ k = some r := by
  unfold xb at h
  split at h
  · cases h
  · rename_i q
    exact ⟨q, h⟩
/-- a divisor that must not be 0 -/
def xd {α : Type} (y : Int32) (k : Option α) : Option α := if y = 0 then none else k
theorem xd_some {α : Type} {y : Int32} {k : Option α} {r : α} (h : xd y k = some r) : ¬ y = 0 ∧ k = some r := by
  unfold xd at h
  split at h
  · cases h
  · rename_i q
    exact ⟨q, h⟩
/-- a truth value that must be one -/
def xz {α : Type} (v : Int32) (k : Option α) : Option α := if v = 0 ∨ v = 1 then k else none
theorem xz_some {α : Type} {v : Int32} {k : Option α} {r : α} (h : xz v k = some r) : (v = 0 ∨ v = 1) ∧ k = some r := by
  unfold xz at h
  split at h
  · rename_i q
    exact ⟨q, h⟩
  · cases h
theorem xz_nar {v : Int32} (h : v = 0 ∨ v = 1) : narrow .boolean (.int v) = .int v := by
  rcases h with rfl | rfl <;> decide +kernel
/-- a copy that must be within -/
def xy {α : Type} (sp dp n : Int32) (n0 n1 : Nat) (k : Option α) : Option α := if sp < 0 ∨ dp < 0 ∨ n < 0 ∨ n0 < sp.toNatClampNeg + n.toNatClampNeg ∨ n1 < dp.toNatClampNeg + n.toNatClampNeg then none else k
theorem xy_some {α : Type} {sp dp n : Int32} {n0 n1 : Nat} {k : Option α} {r : α} (h : xy sp dp n n0 n1 k = some r) : ¬ sp < 0 ∧ ¬ dp < 0 ∧ ¬ n < 0 ∧ sp.toNatClampNeg + n.toNatClampNeg ≤ n0 ∧ dp.toNatClampNeg + n.toNatClampNeg ≤ n1 ∧ k = some r := by
  unfold xy at h
  split at h
  · cases h
  · rename_i q
    simp only [not_or, Nat.not_lt] at q
    exact ⟨q.1, q.2.1, q.2.2.1, q.2.2.2.1, q.2.2.2.2, h⟩
theorem xk_some {α β : Type} {o : Option β} {f : β → Option α} {r : α} (h : o.bind f = some r) : ∃ b, o = some b ∧ f b = some r := Option.bind_eq_some_iff.mp h
/-- what the static row TRACES holds -/
def trs (j : Nat) : Int32 := ([1, 10, 100, 1000, 10000, 100000] : List Int32).getD j 0
