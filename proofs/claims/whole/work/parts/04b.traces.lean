/-- the static row TRACES: where it lies, what it holds, that nothing in A is it -/
def cTr (tA : Nat) (A : Nat → Prop) (U : State) (H : Heap) : Prop := va_Z "FogGuides" "TRACES" "[I" (.ref tA) A U H ∧ va_T .int tA 6 (fun j => .int (trs j)) A U H
abbrev cPreT (D : va_G) (tys : List (ClassId × FieldType)) (av : List Value) (sz : Nat) (wc : va_W) (tA : Nat) : Array Value → State → Prop := va_Pc av (fun U => U.heap.size = sz ∧ va_P D vwCl wc U.heap ∧ va_K D vwCl tys U ∧ va_D (fun _ => True) wc ∧ cTr tA (va_A wc sz) U U.heap)
theorem vx_blindT {D : va_G} {tys : List (ClassId × FieldType)} {av : List Value} {sz tA : Nat} {wc : va_W} : FrameBlind (cPreT D tys av sz wc tA) := fun a U g mk q => by
  obtain ⟨q0, q1, qP, qK, qD, qT1, qT2⟩ := q
  exact ⟨q0, q1, qP, va_K.moved (u := U) (U := U.calling g mk a) (Vm.Alike.refl U.vm) qK, qD, va_Z.moved (u := U) (U := U.calling g mk a) (Vm.Alike.refl U.vm) qT1, va_T.moved (u := U) (U := U.calling g mk a) (Vm.Alike.refl U.vm) qT2⟩
section VXT
variable {S : Type} {l : Launch} {y : MethodName} {wsy ws' : List Cond} {rm : Room} {cc : ByteArray} {maxL : Nat} {D : va_G} {tys : List (ClassId × FieldType)} {av : List Value} {wc : va_W} {sz tA : Nat} {wf : S → va_W}
theorem vx_meth_iT {post : Int32 → S → Prop} (hy : plainName y.cls = true) (hw : wsy = Cond.code y cc maxL (some .int) :: ws') (hlen : (lg_sl av).length ≤ maxL)
    (body : ∀ (p : Program) (e : Env) (s : State) (m : MethodId) (args : Array Value) (below : List Frame) (meth : Method) (c : Code) (A : Nat → Prop) (Q : State → Prop), p.tables.exec = Jvm.exec → c.code = cc → c.maxLocals = maxL → s.vm.findClass y.cls = some m.cls → (∀ w ∈ wsy, w.before args s = true) → va_K D vwCl tys s → va_P D vwCl wc s.heap → va_D A wc → (∀ q, s.heap.size ≤ q → A q) → va_S A s.heap s.heap [] → cTr tA A s s.heap →
      (∀ (r : Int32) (u : S) (H : Heap) (locs : List Loc) (pc : Nat) (ls : Array Slot), post r u → va_P D vwCl (wf u) H → va_D A (wf u) → va_S A s.heap H locs → decode cc pc = .ok (.ireturn, 1) → W p l e rm s m args below meth c H locs 0 0 Q (F0 m pc ls [.int r])) →
      ∀ ls, lv_has ls maxL (lv_args 0 av) → W p l e rm s m args below meth c s.heap [] 0 0 Q (F0 m 0 ls [])) :
    Met l y wsy rm (cPreT D tys av sz wc tA) (cPi D tys post wf wc sz) 0 0 (va_A wc sz) := by
  refine Met.ofW (cc := cc) (maxL := maxL) (ret := some .int) hy hw ?_
  intro p e s m args below meth c s₁ B hml hv
  obtain ⟨rfl, rfl, hP, hK, hD0, hT⟩ := hv
  have hlocks := B.notSynchronized
  rw [lg_entry_eq]
  refine body p e s m _ below meth c (va_A wc s.heap.size) _ B.exec B.bytes hml (findClass_of_methodNamed B.named) (atoms_spec (ws := wsy) B.pre) hK hP hD0.self (fun q h => Or.inr h) va_S.rf hT ?_ _ (lv_entry av hlen)
  intro r u H locs pc ls hpost hP' hD' hS hd
  exact W.iret (v := r) B.exec B.bytes B.returns (fun t ht hW => ⟨⟨r, u, rfl, hpost, by rw [ht]; exact hP', va_K.moved hW.alike hK, hD'⟩, hS.F ht⟩) hS.2.2 hd
variable {p : Program} {e : Env} {R : Room} {s : State} {m : MethodId} {args : Array Value} {below : List Frame} {meth : Method} {c : Code} {H : Heap} {locs : List Loc} {cells slots : Nat} {Q : State → Prop}
variable {bytes : ByteArray} {nL n index pc : Nat} {ret : Option FieldType} {Ts : List Cond} {own C : String} {b : Addr} {As rest st : List Value} {ls : Array Slot} {ws : va_W} {A : Nat → Prop}
theorem vx_VIT (hTr : cTr tA A s s.heap) {res : Int32 × S} (hF : CallFix p m c cc nL s args Ts own) (hM : Met l y wsy rm (cPreT D tys (.ref b :: As) H.size wc tA) (cPi D tys (fun (r : Int32) (u : S) => (r, u) = res) wf wc H.size) 0 0 (va_A wc H.size)) (cw : CallW R s args own C index y bytes maxL ret wsy rm 0 0 n)
    (hK : va_K D vwCl tys s) (hP : va_P D vwCl ws H) (hD : va_D A ws) (hS : va_S A s.heap H locs) (hA : ∀ q, s.heap.size ≤ q → A q) (isC isR perm : List Nat) {wr wn : va_W} (hC : isC.map (fun i => ws[i]?) = wc.map some) (hnC : va_nd isC = true) (hR : isR.map (fun i => ws[i]?) = wr.map some) (hn : va_nd isR = true) (hdis : ∀ i ∈ isR, i ∉ isC) (hpn : va_nd perm = true) (hperm : perm.map (fun i => (wr ++ wf res.2)[i]?) = wn.map some)
    (ci q0 : Nat) {T : u_T} {N : Nat} {fs : List Value} (hc : vwCl[ci]? = some (C, T, N)) (he : wc[q0]? = some (b, .inr (ci, fs)))
    (hAs : As.length = n) (hls : ls.size = nL) (hst : st = As.reverse ++ .ref b :: rest) (hroom : (rest.map fun v => v.category).sum ≤ 8) (hdg : decode cc pc = .ok (.invokevirtual index, 3)) (hf : cells ≤ R.cells ∧ slots ≤ R.slots)
    (kk : ∀ (H1 : Heap) (locs1 : List Loc), va_P D vwCl wn H1 → va_D A wn → va_S A s.heap H1 locs1 → W p l e R s m args below meth c H1 locs1 cells slots Q (F0 m (pc + 3) ls (.int res.1 :: rest))) :
    W p l e R s m args below meth c H locs cells slots Q (F0 m pc ls st) := by
  have hFc := va_free (wc := wc) hD hS hA isC hC
  have hpre : ∀ U : State, U.heap = H → s.WarmedH U.vm → cPreT D tys (.ref b :: As) H.size wc tA (Value.ref b :: As).toArray U := by
    intro U hU hW
    refine ⟨rfl, by rw [hU], by rw [hU]; exact hP.sub isC (vx_fm hC), va_K.moved hW.alike hK, (hD.sub isC hnC hC).weaken (fun _ _ _ _ => trivial), ?_, ?_⟩
    · rw [hU]
      exact va_Z.moved hW.alike ((hTr.1.kept hS.2.1).narrow hFc)
    · rw [hU]
      exact va_T.moved hW.alike ((hTr.2.kept hS.2.1).narrow hFc)
  refine va_calli (va_runV (As := As) (rest := rest) hF hM cw ⟨vx_blindT, va_recv hK (hP.sub isC (vx_fm hC)) hc he, hpre⟩ rfl hAs hls hst (lv_room hroom) hdg hf) hS (fun q _ h => hFc q h) hFc (fun r u t H1 locs1 ht hvm hw hB hz1 hk1 hS1 => ?_)
  subst hw
  obtain ⟨hP1, hK1, hD1⟩ := hB
  rw [ht] at hP1
  obtain ⟨hP2, hD2⟩ := vx_back hP hD hS hA hC hR hn hdis hpn hperm hk1 hP1 hD1
  exact kk H1 locs1 hP2 hD2 hS1
end VXT
