theorem qAA_in {E : QE} {sz c : Nat} (h : c < 82) : qAA E sz (eA E c) := Or.inl ⟨c, h, rfl⟩
theorem qD_in {E : QE} {S : QM} {A : Nat → Prop} {ws : va_W} (hD : va_D A (LW E S)) {c : Nat} (h : c < 82) : A (eA E c) := hD.2 c _ (LW_atA h)
/-- the callee's cells are the caller's -/
theorem qAA_mono {E : QE} {S : QM} {A : Nat → Prop} {n : Nat} (hD : va_D A (LW E S)) (hA : ∀ q, n ≤ q → A q) : ∀ q, qAA E n q → A q := by
  intro q h
  rcases h with ⟨c, hc, rfl⟩ | h
  · exact hD.2 c _ (LW_atA hc)
  · exact hA q h
theorem qAA_le {E : QE} {n k : Nat} (h : n ≤ k) : ∀ q, qAA E k q → qAA E n q := by
  intro q hq
  rcases hq with hq | hq
  · exact Or.inl hq
  · exact Or.inr (Nat.le_trans h hq)
theorem qD_self {E : QE} {S : QM} {A : Nat → Prop} {n : Nat} (hD : va_D A (LW E S)) : va_D (qAA E n) (LW E S) := by
  refine hD.weaken (fun k q hk _ => ?_)
  have hl := (List.getElem?_eq_some_iff.mp hk).1
  rw [LW_len] at hl
  rw [LW_atA hl] at hk
  cases hk
  exact qAA_in hl
/-- what a callee finds at its start -/
theorem qWD_of {E : QE} {S : QM} {s U : State} {H : Heap} {locs : List Loc} (hK : va_K (eG E) vwC (qTy E) s) (hZ : qZS E (qAA E s.heap.size) s s.heap) (hW : qWH E S s H locs) (hU : U.heap = H) (hw : s.WarmedH U.vm) : qWD E H.size S U := by
  refine ⟨by rw [hU], by rw [hU]; exact hW.1, va_K.moved hw.alike hK, qD_self hW.2.1, ?_⟩
  rw [hU]
  exact hZ.go hw hW.2.2.2.1 (qAA_le hW.2.2.1)
theorem qWD_calling {E : QE} {S : QM} {n : Nat} {av : List Value} : FrameBlind (va_Pc av (qWD E n S)) := by
  intro a U g mk h
  obtain ⟨h0, h1, h2, h3, h4, h5⟩ := h
  exact ⟨h0, h1, h2, va_K.moved (u := U) (U := U.calling g mk a) (Vm.Alike.refl U.vm) h3, h4, qZS.same (u := U) (U := U.calling g mk a) rfl h5⟩
/-- the words of a method that is called by invokevirtual, invokestatic -/
theorem qTB_code {y : MethodName} {b : ByteArray} {n : Nat} {rt : Option FieldType} (h : Cond.code y b n rt ∈ qTB) : GoodIn qTB (qws y b n rt) := by
  intro w hw
  rcases List.mem_cons.mp hw with rfl | hw
  · exact qTB_good _ h
  · exact qTB_good _ hw
section QC
variable {p : Program} {l : Launch} {e : Env} {R : Room} {s : State} {m : MethodId} {args : Array Value} {below : List Frame} {meth : Method} {c : Code} {H : Heap} {locs : List Loc} {cells slots : Nat} {Q : State → Prop}
variable {cc : ByteArray} {nL : Nat} {rt : Option FieldType} {own : String} {pc : Nat} {ls : Array Slot} {rest : List Value} {E : QE} {S S' : QM}
variable {y : MethodName} {b' : ByteArray} {n' d' k' : Nat} {rt' : FieldType} {As st0 : List Value} {lv : List (Nat × Value)} {index : Nat} {C : String} {a0 : Nat}
theorem qCB {Ts : List Cond} {rt2 : Option FieldType} (X : qX E p s m args meth c cc nL rt own) (h : Cond.code y b' n' rt2 ∈ qTB ∧ Cond.initialized y.cls ∈ qTB ∧ (y.cls ≠ "java/lang/invoke/MethodHandle" ∧ y.cls ≠ "java/lang/invoke/VarHandle" ∧ (parseMethodDescriptor y.desc).map (fun d => d.parameters.length) = some k')) (hl : Cond.methodLink own index y ∈ qTB) (hR : d' + 1 ≤ R.frames ∧ 8 + (n' + 11) + 39 * d' ≤ R.locals) :
    CallB R s args own index y b' n' rt2 (qws y b' n' rt2) (qRm d') 0 0 k' :=
  callB_of k' X.ts (qTB_code h.1) rfl rfl rfl (X.ts _ h.2.1) (X.ts _ hl) h.2.2 hR
theorem q_cvi {r : Int32} (X : qX E p s m args meth c cc nL rt own) (hM : qCI E l y b' n' rt' d' (.ref a0 :: As) S r S') (hW : qWH E S s H locs) (hrecv : ∃ cellB : Cell, H[a0]? = some cellB ∧ cellB.vm.isStatics = false ∧ s.vm.findClass C = some cellB.cls) (ho : qOV C y b' n' (some rt') k') (hl : Cond.methodLink own index y ∈ qTB) (hR : d' + 1 ≤ R.frames ∧ 8 + (n' + 11) + 39 * d' ≤ R.locals) (hk : As.length = k') (hst : st0 = As.reverse ++ .ref a0 :: rest) (hrest : (rest.map fun v => v.category).sum ≤ 8) (hls : lv_has ls nL lv) (hf : cells ≤ R.cells ∧ slots ≤ R.slots) (hdg : decode cc pc = .ok (.invokevirtual index, 3))
    (kk : ∀ (H : Heap) (locs : List Loc), qWH E S' s H locs → W p l e R s m args below meth c H locs cells slots Q (F0 m (pc + 3) ls (.int r :: rest))) : W p l e R s m args below meth c H locs cells slots Q (F0 m pc ls st0) := by
  refine va_calli (va_runV (C := C) (As := As) (rest := rest) (Ts := qTB) ⟨X.x, X.b, X.ml, X.ow, X.ts⟩ (hM H.size) ⟨qCB (Ts := qTB) X ho.1 hl hR, X.ts _ ho.2.1, X.ts _ ho.2.2⟩ ⟨qWD_calling, hrecv, fun U hU hw => ⟨rfl, qWD_of X.K X.Z hW hU hw⟩⟩ rfl hk hls.1 hst (lv_room hrest) hdg hf) hW.2.2 (fun q _ h => qAA_le hW.2.2.1 q h) (qAA_le hW.2.2.1) (fun r1 u t H1 locs1 ht hvm hp hB hz1 hk1 hS => ?_)
  obtain ⟨rfl, rfl⟩ := hp
  obtain ⟨hP1, -, hD1⟩ := hB
  rw [ht] at hP1
  exact kk H1 locs1 ⟨hP1, qD_self hD1, hS⟩
theorem q_cvl {rr : Int64} (X : qX E p s m args meth c cc nL rt own) (hM : qCL E l y b' n' d' (.ref a0 :: As) S rr S') (hW : qWH E S s H locs) (hrecv : ∃ cellB : Cell, H[a0]? = some cellB ∧ cellB.vm.isStatics = false ∧ s.vm.findClass C = some cellB.cls) (ho : qOV C y b' n' (some .long) k') (hl : Cond.methodLink own index y ∈ qTB) (hR : d' + 1 ≤ R.frames ∧ 8 + (n' + 11) + 39 * d' ≤ R.locals) (hk : As.length = k') (hst : st0 = As.reverse ++ .ref a0 :: rest) (hrest : (rest.map fun v => v.category).sum ≤ 8) (hls : lv_has ls nL lv) (hf : cells ≤ R.cells ∧ slots ≤ R.slots) (hdg : decode cc pc = .ok (.invokevirtual index, 3))
    (kk : ∀ (H : Heap) (locs : List Loc), qWH E S' s H locs → W p l e R s m args below meth c H locs cells slots Q (F0 m (pc + 3) ls (.long rr :: rest))) : W p l e R s m args below meth c H locs cells slots Q (F0 m pc ls st0) := by
  refine va_calll (va_runV (C := C) (As := As) (rest := rest) (Ts := qTB) ⟨X.x, X.b, X.ml, X.ow, X.ts⟩ (hM H.size) ⟨qCB (Ts := qTB) X ho.1 hl hR, X.ts _ ho.2.1, X.ts _ ho.2.2⟩ ⟨qWD_calling, hrecv, fun U hU hw => ⟨rfl, qWD_of X.K X.Z hW hU hw⟩⟩ rfl hk hls.1 hst (lv_room hrest) hdg hf) hW.2.2 (fun q _ h => qAA_le hW.2.2.1 q h) (qAA_le hW.2.2.1) (fun r1 u t H1 locs1 ht hvm hp hB hz1 hk1 hS => ?_)
  obtain ⟨rfl, rfl⟩ := hp
  obtain ⟨hP1, -, hD1⟩ := hB
  rw [ht] at hP1
  exact kk H1 locs1 ⟨hP1, qD_self hD1, hS⟩
theorem q_cvv (X : qX E p s m args meth c cc nL rt own) (hM : qCV E l y b' n' d' (.ref a0 :: As) S S') (hW : qWH E S s H locs) (hrecv : ∃ cellB : Cell, H[a0]? = some cellB ∧ cellB.vm.isStatics = false ∧ s.vm.findClass C = some cellB.cls) (ho : qOV C y b' n' none k') (hl : Cond.methodLink own index y ∈ qTB) (hR : d' + 1 ≤ R.frames ∧ 8 + (n' + 11) + 39 * d' ≤ R.locals) (hk : As.length = k') (hst : st0 = As.reverse ++ .ref a0 :: rest) (hrest : (rest.map fun v => v.category).sum ≤ 8) (hls : lv_has ls nL lv) (hf : cells ≤ R.cells ∧ slots ≤ R.slots) (hdg : decode cc pc = .ok (.invokevirtual index, 3))
    (kk : ∀ (H : Heap) (locs : List Loc), qWH E S' s H locs → W p l e R s m args below meth c H locs cells slots Q (F0 m (pc + 3) ls rest)) : W p l e R s m args below meth c H locs cells slots Q (F0 m pc ls st0) := by
  refine va_callv (va_runV (C := C) (As := As) (rest := rest) (Ts := qTB) ⟨X.x, X.b, X.ml, X.ow, X.ts⟩ (hM H.size) ⟨qCB (Ts := qTB) X ho.1 hl hR, X.ts _ ho.2.1, X.ts _ ho.2.2⟩ ⟨qWD_calling, hrecv, fun U hU hw => ⟨rfl, qWD_of X.K X.Z hW hU hw⟩⟩ rfl hk hls.1 hst (lv_room hrest) hdg hf) hW.2.2 (fun q _ h => qAA_le hW.2.2.1 q h) (qAA_le hW.2.2.1) (fun u t H1 locs1 ht hvm hp hB hz1 hk1 hS => ?_)
  subst hp
  obtain ⟨hP1, -, hD1⟩ := hB
  rw [ht] at hP1
  exact kk H1 locs1 ⟨hP1, qD_self hD1, hS⟩
theorem q_csi {r : Int32} (X : qX E p s m args meth c cc nL rt own) (hM : qCI E l y b' n' rt' d' As S r S') (hW : qWH E S s H locs) (ho : qOS y b' n' (some rt') k') (hl : Cond.methodLink own index y ∈ qTB) (hR : d' + 1 ≤ R.frames ∧ 8 + (n' + 11) + 39 * d' ≤ R.locals) (hk : As.length = k') (hst : st0 = As.reverse ++ rest) (hrest : (rest.map fun v => v.category).sum ≤ 8) (hls : lv_has ls nL lv) (hf : cells ≤ R.cells ∧ slots ≤ R.slots) (hdg : decode cc pc = .ok (.invokestatic index, 3))
    (kk : ∀ (H : Heap) (locs : List Loc), qWH E S' s H locs → W p l e R s m args below meth c H locs cells slots Q (F0 m (pc + 3) ls (.int r :: rest))) : W p l e R s m args below meth c H locs cells slots Q (F0 m pc ls st0) := by
  refine va_calli (va_runS (As := As) (rest := rest) (Ts := qTB) ⟨X.x, X.b, X.ml, X.ow, X.ts⟩ (hM H.size) ⟨qCB (Ts := qTB) X ho.1 hl hR, X.ts _ ho.2⟩ ⟨qWD_calling, fun U hU hw => ⟨rfl, qWD_of X.K X.Z hW hU hw⟩⟩ rfl hk hls.1 hst (lv_room hrest) hdg hf) hW.2.2 (fun q _ h => qAA_le hW.2.2.1 q h) (qAA_le hW.2.2.1) (fun r1 u t H1 locs1 ht hvm hp hB hz1 hk1 hS => ?_)
  obtain ⟨rfl, rfl⟩ := hp
  obtain ⟨hP1, -, hD1⟩ := hB
  rw [ht] at hP1
  exact kk H1 locs1 ⟨hP1, qD_self hD1, hS⟩
theorem q_csl {rr : Int64} (X : qX E p s m args meth c cc nL rt own) (hM : qCL E l y b' n' d' As S rr S') (hW : qWH E S s H locs) (ho : qOS y b' n' (some .long) k') (hl : Cond.methodLink own index y ∈ qTB) (hR : d' + 1 ≤ R.frames ∧ 8 + (n' + 11) + 39 * d' ≤ R.locals) (hk : As.length = k') (hst : st0 = As.reverse ++ rest) (hrest : (rest.map fun v => v.category).sum ≤ 8) (hls : lv_has ls nL lv) (hf : cells ≤ R.cells ∧ slots ≤ R.slots) (hdg : decode cc pc = .ok (.invokestatic index, 3))
    (kk : ∀ (H : Heap) (locs : List Loc), qWH E S' s H locs → W p l e R s m args below meth c H locs cells slots Q (F0 m (pc + 3) ls (.long rr :: rest))) : W p l e R s m args below meth c H locs cells slots Q (F0 m pc ls st0) := by
  refine va_calll (va_runS (As := As) (rest := rest) (Ts := qTB) ⟨X.x, X.b, X.ml, X.ow, X.ts⟩ (hM H.size) ⟨qCB (Ts := qTB) X ho.1 hl hR, X.ts _ ho.2⟩ ⟨qWD_calling, fun U hU hw => ⟨rfl, qWD_of X.K X.Z hW hU hw⟩⟩ rfl hk hls.1 hst (lv_room hrest) hdg hf) hW.2.2 (fun q _ h => qAA_le hW.2.2.1 q h) (qAA_le hW.2.2.1) (fun r1 u t H1 locs1 ht hvm hp hB hz1 hk1 hS => ?_)
  obtain ⟨rfl, rfl⟩ := hp
  obtain ⟨hP1, -, hD1⟩ := hB
  rw [ht] at hP1
  exact kk H1 locs1 ⟨hP1, qD_self hD1, hS⟩
theorem q_csv (X : qX E p s m args meth c cc nL rt own) (hM : qCV E l y b' n' d' As S S') (hW : qWH E S s H locs) (ho : qOS y b' n' none k') (hl : Cond.methodLink own index y ∈ qTB) (hR : d' + 1 ≤ R.frames ∧ 8 + (n' + 11) + 39 * d' ≤ R.locals) (hk : As.length = k') (hst : st0 = As.reverse ++ rest) (hrest : (rest.map fun v => v.category).sum ≤ 8) (hls : lv_has ls nL lv) (hf : cells ≤ R.cells ∧ slots ≤ R.slots) (hdg : decode cc pc = .ok (.invokestatic index, 3))
    (kk : ∀ (H : Heap) (locs : List Loc), qWH E S' s H locs → W p l e R s m args below meth c H locs cells slots Q (F0 m (pc + 3) ls rest)) : W p l e R s m args below meth c H locs cells slots Q (F0 m pc ls st0) := by
  refine va_callv (va_runS (As := As) (rest := rest) (Ts := qTB) ⟨X.x, X.b, X.ml, X.ow, X.ts⟩ (hM H.size) ⟨qCB (Ts := qTB) X ho.1 hl hR, X.ts _ ho.2⟩ ⟨qWD_calling, fun U hU hw => ⟨rfl, qWD_of X.K X.Z hW hU hw⟩⟩ rfl hk hls.1 hst (lv_room hrest) hdg hf) hW.2.2 (fun q _ h => qAA_le hW.2.2.1 q h) (qAA_le hW.2.2.1) (fun u t H1 locs1 ht hvm hp hB hz1 hk1 hS => ?_)
  subst hp
  obtain ⟨hP1, -, hD1⟩ := hB
  rw [ht] at hP1
  exact kk H1 locs1 ⟨hP1, qD_self hD1, hS⟩
/-- a static method of a nest mate (Tape calls CarelessMist.within) -/
theorem q_csiN {host : String} {r : Int32} (X : qX E p s m args meth c cc nL rt own) (hM : qCI E l y b' n' rt' d' As S r S') (hW : qWH E S s H locs) (ho : qOS y b' n' (some rt') k') (hl : va_Nw (.methodLinkNest own index y host) s) (hR : d' + 1 ≤ R.frames ∧ 8 + (n' + 11) + 39 * d' ≤ R.locals) (hk : As.length = k') (hst : st0 = As.reverse ++ rest) (hrest : (rest.map fun v => v.category).sum ≤ 8) (hls : lv_has ls nL lv) (hf : cells ≤ R.cells ∧ slots ≤ R.slots) (hdg : decode cc pc = .ok (.invokestatic index, 3))
    (kk : ∀ (H : Heap) (locs : List Loc), qWH E S' s H locs → W p l e R s m args below meth c H locs cells slots Q (F0 m (pc + 3) ls (.int r :: rest))) : W p l e R s m args below meth c H locs cells slots Q (F0 m pc ls st0) := by
  refine va_calli (va_runSN (As := As) (rest := rest) (Ts := qTB) (host := host) ⟨X.x, X.b, X.ml, X.ow, X.ts⟩ (hM H.size) ⟨va_cnB k' X.ts (qTB_code ho.1.1) rfl rfl rfl hl (X.ts _ ho.1.2.1) ho.1.2.2 hR, X.ts _ ho.2, trivial⟩ ⟨qWD_calling, fun U hU hw => ⟨rfl, qWD_of X.K X.Z hW hU hw⟩⟩ rfl hk hls.1 hst (lv_room hrest) hdg hf) hW.2.2 (fun q _ h => qAA_le hW.2.2.1 q h) (qAA_le hW.2.2.1) (fun r1 u t H1 locs1 ht hvm hp hB hz1 hk1 hS => ?_)
  obtain ⟨rfl, rfl⟩ := hp
  obtain ⟨hP1, -, hD1⟩ := hB
  rw [ht] at hP1
  exact kk H1 locs1 ⟨hP1, qD_self hD1, hS⟩
/-- the receiver is an object of the world, or a String -/
theorem q_recv (X : qX E p s m args meth c cc nL rt own) (hW : qWH E S s H locs) {c0 ci : Nat} {fs : List (Nat ⊕ (Nat × Nat))} {T : u_T} {N : Nat} (hd : dsT[c0]? = some (.inr (.inl (ci, fs)))) (hc : vwC[ci]? = some (C, T, N)) : ∃ cellB : Cell, H[eA E c0]? = some cellB ∧ cellB.vm.isStatics = false ∧ s.vm.findClass C = some cellB.cls :=
  va_recv X.K hW.1 (ci := ci) (q0 := c0) hc (LW_at hd)
theorem q_recvS (X : qX E p s m args meth c cc nL rt own) (hW : qWH E S s H locs) {i : Nat} (hi : i < 11) : ∃ cellB : Cell, H[eK E i]? = some cellB ∧ cellB.vm.isStatics = false ∧ s.vm.findClass "java/lang/String" = some cellB.cls :=
  vk_recv X.Z.2.2.2.2.2.1 hi hW.2.2
end QC
/-! starts -/
section QS
variable {l : Launch} {E : QE} {y : MethodName} {b : ByteArray} {n d : Nat} {av : List Value} {S S' : QM}
theorem qCI_of {rt : FieldType} {r : Int32} (hy : plainName y.cls = true) (hlen : (lg_sl av).length ≤ n)
    (body : ∀ (p : Program) (e : Env) (s : State) (m : MethodId) (below : List Frame) (meth : Method) (c : Code) (ls : Array Slot), qX E p s m av.toArray meth c b n (some rt) y.cls → qWH E S s s.heap [] → lv_has ls n (lv_args 0 av) → W p l e (qRm d) s m av.toArray below meth c s.heap [] 0 0 (MQ below (qQi E r S' s.heap.size) av.toArray s 0 0 (qAA E s.heap.size)) (F0 m 0 ls [])) : qCI E l y b n rt d av S r S' := by
  intro sz
  refine Met.ofW (cc := b) (maxL := n) (ret := some rt) hy rfl ?_
  intro p e s m args below meth c s₁ B hml hv
  obtain ⟨rfl, hsz, hP, hK, hD, hZ⟩ := hv
  subst hsz
  have hts := atoms_spec (ws := qws y b n (some rt)) B.pre
  rw [lg_entry_eq]
  exact body p e s m below meth c _ ⟨B.exec, B.bytes, hml, findClass_of_methodNamed B.named, fun w hw => hts w (List.mem_cons_of_mem _ hw), hK, hZ, B.returns, B.notSynchronized⟩ ⟨hP, hD, va_S.rf⟩ (lv_entry av hlen)
theorem qCL_of {r : Int64} (hy : plainName y.cls = true) (hlen : (lg_sl av).length ≤ n)
    (body : ∀ (p : Program) (e : Env) (s : State) (m : MethodId) (below : List Frame) (meth : Method) (c : Code) (ls : Array Slot), qX E p s m av.toArray meth c b n (some .long) y.cls → qWH E S s s.heap [] → lv_has ls n (lv_args 0 av) → W p l e (qRm d) s m av.toArray below meth c s.heap [] 0 0 (MQ below (qQl E r S' s.heap.size) av.toArray s 0 0 (qAA E s.heap.size)) (F0 m 0 ls [])) : qCL E l y b n d av S r S' := by
  intro sz
  refine Met.ofW (cc := b) (maxL := n) (ret := some .long) hy rfl ?_
  intro p e s m args below meth c s₁ B hml hv
  obtain ⟨rfl, hsz, hP, hK, hD, hZ⟩ := hv
  subst hsz
  have hts := atoms_spec (ws := qws y b n (some .long)) B.pre
  rw [lg_entry_eq]
  exact body p e s m below meth c _ ⟨B.exec, B.bytes, hml, findClass_of_methodNamed B.named, fun w hw => hts w (List.mem_cons_of_mem _ hw), hK, hZ, B.returns, B.notSynchronized⟩ ⟨hP, hD, va_S.rf⟩ (lv_entry av hlen)
theorem qCV_of (hy : plainName y.cls = true) (hlen : (lg_sl av).length ≤ n)
    (body : ∀ (p : Program) (e : Env) (s : State) (m : MethodId) (below : List Frame) (meth : Method) (c : Code) (ls : Array Slot), qX E p s m av.toArray meth c b n none y.cls → qWH E S s s.heap [] → lv_has ls n (lv_args 0 av) → W p l e (qRm d) s m av.toArray below meth c s.heap [] 0 0 (MQ below (qQv E S' s.heap.size) av.toArray s 0 0 (qAA E s.heap.size)) (F0 m 0 ls [])) : qCV E l y b n d av S S' := by
  intro sz
  refine Met.ofW (cc := b) (maxL := n) (ret := none) hy rfl ?_
  intro p e s m args below meth c s₁ B hml hv
  obtain ⟨rfl, hsz, hP, hK, hD, hZ⟩ := hv
  subst hsz
  have hts := atoms_spec (ws := qws y b n none) B.pre
  rw [lg_entry_eq]
  exact body p e s m below meth c _ ⟨B.exec, B.bytes, hml, findClass_of_methodNamed B.named, fun w hw => hts w (List.mem_cons_of_mem _ hw), hK, hZ, B.returns, B.notSynchronized⟩ ⟨hP, hD, va_S.rf⟩ (lv_entry av hlen)
end QS
