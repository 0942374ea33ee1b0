def qQpi (E : QE) (r : Int32) (P : QM → Prop) (sz : Nat) : Array Value → State → Outcome → State → Prop := va_Qi (fun x u => x = r ∧ P u) (fun (u : QM) t => qWE E sz u t) (qAA E sz)
def qQpl (E : QE) (r : Int64) (P : QM → Prop) (sz : Nat) : Array Value → State → Outcome → State → Prop := va_Ql (fun x u => x = r ∧ P u) (fun (u : QM) t => qWE E sz u t) (qAA E sz)
def qQpv (E : QE) (P : QM → Prop) (sz : Nat) : Array Value → State → Outcome → State → Prop := va_Qv (fun u => P u) (fun (u : QM) t => qWE E sz u t) (qAA E sz)
def qCPi (E : QE) (l : Launch) (y : MethodName) (b : ByteArray) (n : Nat) (rt : FieldType) (d : Nat) (av : List Value) (S : QM) (r : Int32) (P : QM → Prop) : Prop := ∀ sz, Met l y (qws y b n (some rt)) (qRm d) (va_Pc av (qWD E sz S)) (qQpi E r P sz) 0 0 (qAA E sz)
def qCPl (E : QE) (l : Launch) (y : MethodName) (b : ByteArray) (n : Nat) (d : Nat) (av : List Value) (S : QM) (r : Int64) (P : QM → Prop) : Prop := ∀ sz, Met l y (qws y b n (some .long)) (qRm d) (va_Pc av (qWD E sz S)) (qQpl E r P sz) 0 0 (qAA E sz)
def qCPv (E : QE) (l : Launch) (y : MethodName) (b : ByteArray) (n : Nat) (d : Nat) (av : List Value) (S : QM) (P : QM → Prop) : Prop := ∀ sz, Met l y (qws y b n none) (qRm d) (va_Pc av (qWD E sz S)) (qQpv E P sz) 0 0 (qAA E sz)
theorem qCPi_I {E : QE} {l : Launch} {y : MethodName} {b : ByteArray} {n : Nat} {rt : FieldType} {d : Nat} {av : List Value} {S : QM} {r : Int32} {S' : QM} (h : qCI E l y b n rt d av S r S') : qCPi E l y b n rt d av S r (fun u => u = S') := h
theorem qCPl_L {E : QE} {l : Launch} {y : MethodName} {b : ByteArray} {n : Nat} {d : Nat} {av : List Value} {S : QM} {r : Int64} {S' : QM} (h : qCL E l y b n d av S r S') : qCPl E l y b n d av S r (fun u => u = S') := h
theorem qCPv_V {E : QE} {l : Launch} {y : MethodName} {b : ByteArray} {n : Nat} {d : Nat} {av : List Value} {S : QM} {S' : QM} (h : qCV E l y b n d av S S') : qCPv E l y b n d av S (fun u => u = S') := h
/-- a row of which nothing is said but G -/
abbrev any (S : QM) (g : Nat) (G : (Nat → Int32) → Prop) : QM → Prop := fun u => ∃ τ, G τ ∧ u = qr S g τ
section QP
variable {p : Program} {l : Launch} {e : Env} {R : Room} {s : State} {m : MethodId} {args : Array Value} {below : List Frame} {meth : Method} {c : Code} {H : Heap} {locs : List Loc} {cells slots : Nat} {Q : State → Prop}
variable {cc : ByteArray} {nL : Nat} {rt : Option FieldType} {own : String} {pc : Nat} {ls : Array Slot} {rest : List Value} {E : QE} {S S' : QM} {P : QM → Prop}
variable {y : MethodName} {b' : ByteArray} {n' d' k' : Nat} {rt' : FieldType} {As st0 : List Value} {lv : List (Nat × Value)} {index : Nat} {C : String} {a0 : Nat}
theorem q_pzret {ty : FieldType} (X : qX E p s m args meth c cc nL (some ty) own) {r v : Int32} (hn : narrow ty (.int v) = .int v) (hW : qWH E S s H locs) (h : v = r ∧ P S) (hdg : decode cc pc = .ok (.ireturn, 1)) :
    W p l e R s m args below meth c H locs 0 0 (MQ below (qQpi E r P s.heap.size) args s 0 0 (qAA E s.heap.size)) (F0 m pc ls [.int v]) := by
  obtain ⟨rfl, hP⟩ := h
  exact W.zret X.x X.b X.r hn (fun t ht hw => ⟨⟨v, S, rfl, ⟨rfl, hP⟩, by rw [ht]; exact hW.1, va_K.moved hw.alike X.K, hW.2.1⟩, hW.2.2.F ht⟩) hW.2.2.2.2 hdg X.k
theorem q_plret (X : qX E p s m args meth c cc nL (some .long) own) {r v : Int64} (hW : qWH E S s H locs) (h : v = r ∧ P S) (hdg : decode cc pc = .ok (.lreturn, 1)) :
    W p l e R s m args below meth c H locs 0 0 (MQ below (qQpl E r P s.heap.size) args s 0 0 (qAA E s.heap.size)) (F0 m pc ls [.long v]) := by
  obtain ⟨rfl, hP⟩ := h
  exact W.lret X.x X.b X.r (fun t ht hw => ⟨⟨v, S, rfl, ⟨rfl, hP⟩, by rw [ht]; exact hW.1, va_K.moved hw.alike X.K, hW.2.1⟩, hW.2.2.F ht⟩) hW.2.2.2.2 hdg X.k
theorem q_pvret (X : qX E p s m args meth c cc nL none own) (hW : qWH E S s H locs) (h : P S) (hdg : decode cc pc = .ok (.return_, 1)) :
    W p l e R s m args below meth c H locs 0 0 (MQ below (qQpv E P s.heap.size) args s 0 0 (qAA E s.heap.size)) (F0 m pc ls []) :=
  W.vret X.x X.b X.r (fun t ht hw => ⟨⟨S, rfl, h, by rw [ht]; exact hW.1, va_K.moved hw.alike X.K, hW.2.1⟩, hW.2.2.F ht⟩) hW.2.2.2.2 hdg X.k
theorem q_cvip {r : Int32} (X : qX E p s m args meth c cc nL rt own) (hM : qCPi E l y b' n' rt' d' (.ref a0 :: As) S r P) (hW : qWH E S s H locs) (hrecv : ∃ cellB : Cell, H[a0]? = some cellB ∧ cellB.vm.isStatics = false ∧ s.vm.findClass C = some cellB.cls) (ho : qOV C y b' n' (some rt') k') (hl : Cond.methodLink own index y ∈ qTB) (hR : d' + 1 ≤ R.frames ∧ 8 + (n' + 11) + 39 * d' ≤ R.locals) (hk : As.length = k') (hst : st0 = As.reverse ++ .ref a0 :: rest) (hrest : (rest.map fun v => v.category).sum ≤ 8) (hls : lv_has ls nL lv) (hf : cells ≤ R.cells ∧ slots ≤ R.slots) (hdg : decode cc pc = .ok (.invokevirtual index, 3))
    (kk : ∀ (H : Heap) (locs : List Loc) (S' : QM), P S' → qWH E S' s H locs → W p l e R s m args below meth c H locs cells slots Q (F0 m (pc + 3) ls (.int r :: rest))) : W p l e R s m args below meth c H locs cells slots Q (F0 m pc ls st0) := by
  refine va_calli (va_runV (C := C) (As := As) (rest := rest) (Ts := qTB) ⟨X.x, X.b, X.ml, X.ow, X.ts⟩ (hM H.size) ⟨qCB (Ts := qTB) X ho.1 hl hR, X.ts _ ho.2.1, X.ts _ ho.2.2⟩ ⟨qWD_calling, hrecv, fun U hU hw => ⟨rfl, qWD_of X.K X.Z hW hU hw⟩⟩ rfl hk hls.1 hst (lv_room hrest) hdg hf) hW.2.2 (fun q _ h => qAA_le hW.2.2.1 q h) (qAA_le hW.2.2.1) (fun r1 u t H1 locs1 ht hvm hp hB hz1 hk1 hS => ?_)
  obtain ⟨rfl, hPu⟩ := hp
  obtain ⟨hP1, -, hD1⟩ := hB
  rw [ht] at hP1
  exact kk H1 locs1 u hPu ⟨hP1, qD_self hD1, hS⟩
theorem q_cvlp {r : Int64} (X : qX E p s m args meth c cc nL rt own) (hM : qCPl E l y b' n' d' (.ref a0 :: As) S r P) (hW : qWH E S s H locs) (hrecv : ∃ cellB : Cell, H[a0]? = some cellB ∧ cellB.vm.isStatics = false ∧ s.vm.findClass C = some cellB.cls) (ho : qOV C y b' n' (some .long) k') (hl : Cond.methodLink own index y ∈ qTB) (hR : d' + 1 ≤ R.frames ∧ 8 + (n' + 11) + 39 * d' ≤ R.locals) (hk : As.length = k') (hst : st0 = As.reverse ++ .ref a0 :: rest) (hrest : (rest.map fun v => v.category).sum ≤ 8) (hls : lv_has ls nL lv) (hf : cells ≤ R.cells ∧ slots ≤ R.slots) (hdg : decode cc pc = .ok (.invokevirtual index, 3))
    (kk : ∀ (H : Heap) (locs : List Loc) (S' : QM), P S' → qWH E S' s H locs → W p l e R s m args below meth c H locs cells slots Q (F0 m (pc + 3) ls (.long r :: rest))) : W p l e R s m args below meth c H locs cells slots Q (F0 m pc ls st0) := by
  refine va_calll (va_runV (C := C) (As := As) (rest := rest) (Ts := qTB) ⟨X.x, X.b, X.ml, X.ow, X.ts⟩ (hM H.size) ⟨qCB (Ts := qTB) X ho.1 hl hR, X.ts _ ho.2.1, X.ts _ ho.2.2⟩ ⟨qWD_calling, hrecv, fun U hU hw => ⟨rfl, qWD_of X.K X.Z hW hU hw⟩⟩ rfl hk hls.1 hst (lv_room hrest) hdg hf) hW.2.2 (fun q _ h => qAA_le hW.2.2.1 q h) (qAA_le hW.2.2.1) (fun r1 u t H1 locs1 ht hvm hp hB hz1 hk1 hS => ?_)
  obtain ⟨rfl, hPu⟩ := hp
  obtain ⟨hP1, -, hD1⟩ := hB
  rw [ht] at hP1
  exact kk H1 locs1 u hPu ⟨hP1, qD_self hD1, hS⟩
theorem q_cvvp (X : qX E p s m args meth c cc nL rt own) (hM : qCPv E l y b' n' d' (.ref a0 :: As) S P) (hW : qWH E S s H locs) (hrecv : ∃ cellB : Cell, H[a0]? = some cellB ∧ cellB.vm.isStatics = false ∧ s.vm.findClass C = some cellB.cls) (ho : qOV C y b' n' none k') (hl : Cond.methodLink own index y ∈ qTB) (hR : d' + 1 ≤ R.frames ∧ 8 + (n' + 11) + 39 * d' ≤ R.locals) (hk : As.length = k') (hst : st0 = As.reverse ++ .ref a0 :: rest) (hrest : (rest.map fun v => v.category).sum ≤ 8) (hls : lv_has ls nL lv) (hf : cells ≤ R.cells ∧ slots ≤ R.slots) (hdg : decode cc pc = .ok (.invokevirtual index, 3))
    (kk : ∀ (H : Heap) (locs : List Loc) (S' : QM), P S' → qWH E S' s H locs → W p l e R s m args below meth c H locs cells slots Q (F0 m (pc + 3) ls rest)) : W p l e R s m args below meth c H locs cells slots Q (F0 m pc ls st0) := by
  refine va_callv (va_runV (C := C) (As := As) (rest := rest) (Ts := qTB) ⟨X.x, X.b, X.ml, X.ow, X.ts⟩ (hM H.size) ⟨qCB (Ts := qTB) X ho.1 hl hR, X.ts _ ho.2.1, X.ts _ ho.2.2⟩ ⟨qWD_calling, hrecv, fun U hU hw => ⟨rfl, qWD_of X.K X.Z hW hU hw⟩⟩ rfl hk hls.1 hst (lv_room hrest) hdg hf) hW.2.2 (fun q _ h => qAA_le hW.2.2.1 q h) (qAA_le hW.2.2.1) (fun u t H1 locs1 ht hvm hp hB hz1 hk1 hS => ?_)
  obtain ⟨hP1, -, hD1⟩ := hB
  rw [ht] at hP1
  exact kk H1 locs1 u hp ⟨hP1, qD_self hD1, hS⟩
end QP
section QSP
variable {l : Launch} {E : QE} {y : MethodName} {b : ByteArray} {n d : Nat} {av : List Value} {S : QM} {P : QM → Prop}
theorem qCPi_of {rt : FieldType} {r : Int32} (hy : plainName y.cls = true) (hlen : (lg_sl av).length ≤ n)
    (body : ∀ (p : Program) (e : Env) (s : State) (m : MethodId) (below : List Frame) (meth : Method) (c : Code) (ls : Array Slot), qX E p s m av.toArray meth c b n (some rt) y.cls → qWH E S s s.heap [] → lv_has ls n (lv_args 0 av) → W p l e (qRm d) s m av.toArray below meth c s.heap [] 0 0 (MQ below (qQpi E r P s.heap.size) av.toArray s 0 0 (qAA E s.heap.size)) (F0 m 0 ls [])) : qCPi E l y b n rt d av S r P := by
  intro sz
  refine Met.ofW (cc := b) (maxL := n) (ret := some rt) hy rfl ?_
  intro p e s m args below meth c s₁ B hml hv
  obtain ⟨rfl, hsz, hP, hK, hD, hZ⟩ := hv
  subst hsz
  have hts := atoms_spec (ws := qws y b n (some rt)) B.pre
  rw [lg_entry_eq]
  exact body p e s m below meth c _ ⟨B.exec, B.bytes, hml, findClass_of_methodNamed B.named, fun w hw => hts w (List.mem_cons_of_mem _ hw), hK, hZ, B.returns, B.notSynchronized⟩ ⟨hP, hD, va_S.rf⟩ (lv_entry av hlen)
theorem qCPl_of {r : Int64} (hy : plainName y.cls = true) (hlen : (lg_sl av).length ≤ n)
    (body : ∀ (p : Program) (e : Env) (s : State) (m : MethodId) (below : List Frame) (meth : Method) (c : Code) (ls : Array Slot), qX E p s m av.toArray meth c b n (some .long) y.cls → qWH E S s s.heap [] → lv_has ls n (lv_args 0 av) → W p l e (qRm d) s m av.toArray below meth c s.heap [] 0 0 (MQ below (qQpl E r P s.heap.size) av.toArray s 0 0 (qAA E s.heap.size)) (F0 m 0 ls [])) : qCPl E l y b n d av S r P := by
  intro sz
  refine Met.ofW (cc := b) (maxL := n) (ret := some .long) hy rfl ?_
  intro p e s m args below meth c s₁ B hml hv
  obtain ⟨rfl, hsz, hP, hK, hD, hZ⟩ := hv
  subst hsz
  have hts := atoms_spec (ws := qws y b n (some .long)) B.pre
  rw [lg_entry_eq]
  exact body p e s m below meth c _ ⟨B.exec, B.bytes, hml, findClass_of_methodNamed B.named, fun w hw => hts w (List.mem_cons_of_mem _ hw), hK, hZ, B.returns, B.notSynchronized⟩ ⟨hP, hD, va_S.rf⟩ (lv_entry av hlen)
theorem qCPv_of (hy : plainName y.cls = true) (hlen : (lg_sl av).length ≤ n)
    (body : ∀ (p : Program) (e : Env) (s : State) (m : MethodId) (below : List Frame) (meth : Method) (c : Code) (ls : Array Slot), qX E p s m av.toArray meth c b n none y.cls → qWH E S s s.heap [] → lv_has ls n (lv_args 0 av) → W p l e (qRm d) s m av.toArray below meth c s.heap [] 0 0 (MQ below (qQpv E P s.heap.size) av.toArray s 0 0 (qAA E s.heap.size)) (F0 m 0 ls [])) : qCPv E l y b n d av S P := by
  intro sz
  refine Met.ofW (cc := b) (maxL := n) (ret := none) hy rfl ?_
  intro p e s m args below meth c s₁ B hml hv
  obtain ⟨rfl, hsz, hP, hK, hD, hZ⟩ := hv
  subst hsz
  have hts := atoms_spec (ws := qws y b n none) B.pre
  rw [lg_entry_eq]
  exact body p e s m below meth c _ ⟨B.exec, B.bytes, hml, findClass_of_methodNamed B.named, fun w hw => hts w (List.mem_cons_of_mem _ hw), hK, hZ, B.returns, B.notSynchronized⟩ ⟨hP, hD, va_S.rf⟩ (lv_entry av hlen)
end QSP
