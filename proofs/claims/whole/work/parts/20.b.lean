/-! making objects: a world that grows -/
def qCS (E : QE) (U : State) : Prop := va_AO "CarelessMist$Sheet" U ∧ va_AO "java/lang/String" U ∧ (∃ kA, U.vm.classes[eC E 2]? = some kA ∧ kA.kind = .array (eC E 0) (.array .int)) ∧ va_Nw (.methodLinkNest "CarelessMist" 28 ⟨"CarelessMist$Tape", "<init>", "()V"⟩ "CarelessMist") U ∧ va_Nw (.methodLinkNest "CarelessMist" 39 ⟨"CarelessMist$Sheet", "<init>", "()V"⟩ "CarelessMist") U
theorem qCS.go {E : QE} {u U : State} (hw : u.WarmedH U.vm) (h : qCS E u) : qCS E U := by
  obtain ⟨h0, h1, ⟨kA, h2, h3⟩, h4, h5⟩ := h
  obtain ⟨k', hk', he⟩ := hw.alike.2.2 _ _ h2
  exact ⟨va_AO.moved hw.alike h0, va_AO.moved hw.alike h1, ⟨k', hk', by rw [he]; exact h3⟩, h4.warmM hw, h5.warmM hw⟩
theorem qCS.same {E : QE} {u U : State} (hv : U.vm = u.vm) (h : qCS E u) : qCS E U := by
  have hvm : u.vm.Alike U.vm := by rw [hv]; exact Vm.Alike.refl _
  obtain ⟨h0, h1, ⟨kA, h2, h3⟩, h4, h5⟩ := h
  exact ⟨va_AO.moved hvm h0, va_AO.moved hvm h1, ⟨kA, by rw [hv]; exact h2, h3⟩, va_Nw.same rfl hv.symm h4, va_Nw.same rfl hv.symm h5⟩
def qNP (E : QE) (a : Nat) (o : Nat × List Value) (sz : Nat) (U : State) : Prop := U.heap.size = sz ∧ va_P (eG E) vwC [(a, .inr o)] U.heap ∧ va_K (eG E) vwC (qTy E) U ∧ va_D (fun _ => True) [(a, .inr o)] ∧ qZS E (va_A [(a, .inr o)] sz) U U.heap ∧ qCS E U
def qNQ (E : QE) (a : Nat) (o : Nat × List Value) (sz : Nat) (post : va_W → Prop) : Array Value → State → Outcome → State → Prop := va_Qv post (fun (w : va_W) t => va_P (eG E) vwC w t.heap ∧ va_D (va_A [(a, .inr o)] sz) w) (va_A [(a, .inr o)] sz)
def qRc (d mc ms : Nat) : Room := { frames := d, cells := mc, slots := ms, locals := 39 * d }
/-- the contract of a constructor without arguments -/
def qN (E : QE) (l : Launch) (y : MethodName) (b : ByteArray) (n d : Nat) (a : Nat) (o : Nat × List Value) (mc ms : Nat) (post : va_W → Prop) : Prop :=
  ∀ sz, Met l y (qws y b n none) (qRc d mc ms) (va_Pc [.ref a] (qNP E a o sz)) (qNQ E a o sz post) mc ms (va_A [(a, .inr o)] sz)
/-- what stays fixed over a constructor's walk -/
def qXc (E : QE) (A : Nat → Prop) (p : Program) (s : State) (m : MethodId) (args : Array Value) (meth : Method) (c : Code) (b : ByteArray) (n : Nat) (rt : Option FieldType) (own : String) : Prop :=
  p.tables.exec = Jvm.exec ∧ c.code = b ∧ c.maxLocals = n ∧ s.vm.findClass own = some m.cls ∧ (∀ w ∈ qTB, w.before args s = true) ∧ va_K (eG E) vwC (qTy E) s ∧ qZS E A s s.heap ∧ qCS E s ∧ meth.sig.returnType = rt ∧ meth.locks = false ∧ (∀ q, s.heap.size ≤ q → A q)
section QN
variable {p : Program} {l : Launch} {e : Env} {R : Room} {s : State} {m : MethodId} {args : Array Value} {below : List Frame} {meth : Method} {c : Code} {H : Heap} {locs : List Loc} {cells slots : Nat} {Q : State → Prop}
variable {cc : ByteArray} {nL : Nat} {rt : Option FieldType} {own : String} {pc : Nat} {ls : Array Slot} {rest : List Value} {E : QE} {A : Nat → Prop} {ws : va_W}
theorem qXc.x (X : qXc E A p s m args meth c cc nL rt own) : p.tables.exec = Jvm.exec := X.1
theorem qXc.b (X : qXc E A p s m args meth c cc nL rt own) : c.code = cc := X.2.1
theorem qXc.ml (X : qXc E A p s m args meth c cc nL rt own) : c.maxLocals = nL := X.2.2.1
theorem qXc.ow (X : qXc E A p s m args meth c cc nL rt own) : s.vm.findClass own = some m.cls := X.2.2.2.1
theorem qXc.ts (X : qXc E A p s m args meth c cc nL rt own) : ∀ w ∈ qTB, w.before args s = true := X.2.2.2.2.1
theorem qXc.K (X : qXc E A p s m args meth c cc nL rt own) : va_K (eG E) vwC (qTy E) s := X.2.2.2.2.2.1
theorem qXc.Z (X : qXc E A p s m args meth c cc nL rt own) : qZS E A s s.heap := X.2.2.2.2.2.2.1
theorem qXc.C (X : qXc E A p s m args meth c cc nL rt own) : qCS E s := X.2.2.2.2.2.2.2.1
theorem qXc.r (X : qXc E A p s m args meth c cc nL rt own) : meth.sig.returnType = rt := X.2.2.2.2.2.2.2.2.1
theorem qXc.k (X : qXc E A p s m args meth c cc nL rt own) : meth.locks = false := X.2.2.2.2.2.2.2.2.2.1
theorem qXc.Af (X : qXc E A p s m args meth c cc nL rt own) : ∀ q, s.heap.size ≤ q → A q := X.2.2.2.2.2.2.2.2.2.2
theorem qN_of {y : MethodName} {b : ByteArray} {n d : Nat} {a : Nat} {o : Nat × List Value} {mc ms : Nat} {post : va_W → Prop} (hy : plainName y.cls = true) (hn : 1 ≤ n)
    (body : ∀ (p : Program) (e : Env) (s : State) (m : MethodId) (below : List Frame) (meth : Method) (c : Code) (ls : Array Slot) (A : Nat → Prop), qXc E A p s m #[.ref a] meth c b n none y.cls → meth.name = y.name → va_P (eG E) vwC [(a, .inr o)] s.heap → va_D A [(a, .inr o)] → va_S A s.heap s.heap [] → lv_has ls n [(0, .ref a)] →
      W p l e (qRc d mc ms) s m #[.ref a] below meth c s.heap [] 0 0 (MQ below (va_Qv post (fun (w : va_W) t => va_P (eG E) vwC w t.heap ∧ va_D A w) A) #[.ref a] s mc ms A) (F0 m 0 ls [])) : qN E l y b n d a o mc ms post := by
  intro sz
  refine Met.ofW (cc := b) (maxL := n) (ret := none) hy rfl ?_
  intro p e s m args below meth c s₁ B hml hv
  obtain ⟨rfl, hsz, hP, hK, hD, hZ, hC⟩ := hv
  subst hsz
  have hts := atoms_spec (ws := qws y b n none) B.pre
  rw [lg_entry_eq]
  exact body p e s m below meth c _ _ ⟨B.exec, B.bytes, hml, findClass_of_methodNamed B.named, fun w hw => hts w (List.mem_cons_of_mem _ hw), hK, hZ, hC, B.returns, B.notSynchronized, fun q h => Or.inr h⟩ (name_of_methodNamed B.named B.method).1 hP hD.self va_S.rf (lv_entry [.ref a] hn)
/-- the end of a constructor -/
theorem qN_ret (X : qXc E A p s m args meth c cc nL none own) {post : va_W → Prop} {w : va_W} (hp : post w) (hP : va_P (eG E) vwC w H) (hD : va_D A w) (hS : va_S A s.heap H locs) {mc ms : Nat} (h1 : cells ≤ mc) (h2 : slots ≤ ms) (hdg : decode cc pc = .ok (.return_, 1)) :
    W p l e R s m args below meth c H locs cells slots (MQ below (va_Qv post (fun (w : va_W) t => va_P (eG E) vwC w t.heap ∧ va_D A w) A) args s mc ms A) (F0 m pc ls []) := by
  refine W.widen h1 h2 ?_
  exact W.vret X.x X.b X.r (fun t ht hW => ⟨⟨w, rfl, hp, by rw [ht]; exact hP, hD⟩, hS.F ht⟩) hS.2.2 hdg X.k
theorem qK_int (hK : va_K (eG E) vwC (qTy E) s) {cA : ClassId} (h : va_K (eG E) vwC (qTy E ++ [(cA, .int)]) s) : cA = eC E 0 := by
  have h1 := (hK.2 0 _ rfl).2
  have h2 := (h.2 4 _ rfl).2
  exact Option.some.inj (h2.symm.trans h1)
/-- newarray int -/
theorem qN_newI (X : qXc E A p s m args meth c cc nL rt own) (hP : va_P (eG E) vwC ws H) (hD : va_D A ws) (hS : va_S A s.heap H locs) {N : Nat} (hN : N ≤ 1000) (hc : cells + 1 ≤ R.cells) (hsl : slots + N ≤ R.slots) (hdg : decode cc pc = .ok (.newarray .int, 2))
    (kk : ∀ (q : Nat) (H : Heap), va_P (eG E) vwC (ws ++ [(q, .inl (eC E 0, N, .inl (fun _ => 0)))]) H → va_D A (ws ++ [(q, .inl (eC E 0, N, .inl (fun _ => 0)))]) → va_S A s.heap H locs → W p l e R s m args below meth c H locs (cells + 1) (slots + N) Q (F0 m (pc + 2) ls (.ref q :: rest))) :
    W p l e R s m args below meth c H locs cells slots Q (F0 m pc ls (.int (nI N) :: rest)) := by
  refine va_newa (atype := .int) (ty := .int) (a0 := (N, .inl (fun _ => 0))) X.x X.b (X.ts _ (qTB_in (w := .arrayClass .int) (i := 136) (by decide +kernel) rfl)) rfl X.K hP hD hS X.Af (fun cA => rfl) (fun z => by
    have := (nI_ltI (a := N) (b := 0) (by omega) (by omega)).mp z
    omega) (nI_clamp (by omega)) (by show N * 4 ≤ _; omega) hc hsl hdg (fun q cA H1 hK1 hP1 hD1 hS1 => ?_)
  have e := qK_int X.K hK1
  subst e
  exact kk q H1 hP1 hD1 hS1
theorem qN_newQ (X : qXc E A p s m args meth c cc nL rt own) (hP : va_P (eG E) vwC ws H) (hD : va_D A ws) (hS : va_S A s.heap H locs) {N t0 : Nat} {C : String} {index : Nat} {cQ : ClassId} (hN : N ≤ 1000) (hao : va_AO C s) (ht : (qTy E)[t0]? = some (cQ, .object C)) (hcl : Cond.classLink own index C ∈ qTB) (hc : cells + 1 ≤ R.cells) (hsl : slots + N ≤ R.slots) (hdg : decode cc pc = .ok (.anewarray index, 3))
    (kk : ∀ (q : Nat) (H : Heap), va_P (eG E) vwC (ws ++ [(q, .inl (cQ, N, .inr (.inr (.inr (.inr (fun _ => none))))))]) H → va_D A (ws ++ [(q, .inl (cQ, N, .inr (.inr (.inr (.inr (fun _ => none))))))]) → va_S A s.heap H locs → W p l e R s m args below meth c H locs (cells + 1) (slots + N) Q (F0 m (pc + 3) ls (.ref q :: rest))) :
    W p l e R s m args below meth c H locs cells slots Q (F0 m pc ls (.int (nI N) :: rest)) := by
  refine va_newq X.x X.b X.ow (X.ts _ hcl) hao X.K hP hD hS X.Af (fun z => by
    have := (nI_ltI (a := N) (b := 0) (by omega) (by omega)).mp z
    omega) (nI_clamp (by omega)) (by omega) hc hsl hdg (fun q cA H1 hK1 hP1 hD1 hS1 => ?_)
  obtain ⟨k1, z1, -, -, -, h1⟩ := (X.K.2 t0 _ ht).2
  have hx : (qTy E ++ [(cA, .object C)])[4]? = some (cA, .object C) := rfl
  obtain ⟨k2, z2, -, -, -, h2⟩ := (hK1.2 4 _ hx).2
  have e : cA = cQ := Option.some.inj (h2.symm.trans h1)
  subst e
  exact kk q H1 hP1 hD1 hS1
/-- rows of rows -/
def qMW (E : QE) (q N M : Nat) : va_W := (q, .inl (eC E 2, N, .inr (.inr (.inr (.inr (fun j => if j < N then some (q + 1 + j) else none)))))) :: (List.range N).map (fun j => (q + 1 + j, .inl (eC E 0, M, .inl (fun _ => 0))))
theorem qN_newM (X : qXc E A p s m args meth c cc nL rt own) (hP : va_P (eG E) vwC ws H) (hD : va_D A ws) (hS : va_S A s.heap H locs) {N M index : Nat} (hN : N ≤ 1000) (hM : M ≤ 1000) (hcl : Cond.classLink own index "[[I" ∈ qTB) (hc : cells + (1 + N) ≤ R.cells) (hsl : slots + (N + N * M) ≤ R.slots) (hdg : decode cc pc = .ok (.multianewarray index 2, 4))
    (kk : ∀ (q : Nat) (H : Heap) (locs : List Loc), va_P (eG E) vwC (ws ++ qMW E q N M) H → va_D A (ws ++ qMW E q N M) → va_S A s.heap H locs → W p l e R s m args below meth c H locs (cells + 1 + N) (slots + N + N * M) Q (F0 m (pc + 4) ls (.ref q :: rest))) :
    W p l e R s m args below meth c H locs cells slots Q (F0 m pc ls (.int (nI M) :: .int (nI N) :: rest)) := by
  obtain ⟨-, -, ⟨kA, hkA, hkindA⟩, -, -⟩ := X.C
  have g0 := X.K.2 0 _ rfl
  have g2 := X.K.2 2 _ rfl
  obtain ⟨-, kC, hkC, c0, hkindC⟩ := g0.1 0 (fun _ => .null)
  have neg : ∀ n, n ≤ 1000 → ¬ nI n < 0 := fun n hn z => by
    have := (nI_ltI (a := n) (b := 0) (by omega) (by omega)).mp z
    omega
  refine mq_W X.x X.b X.ow (X.ts _ hcl) (cA := eC E 2) (comp := eC E 0) g2.2 hkA hkindA hkC hkindC hdg (neg N hN) (neg M hM) (nI_clamp (by omega)) (nI_clamp (by omega)) hN hM hc hsl (fun H1 locs1 f1 f2 f3 f4 f5 => ?_)
  have hk : ∀ (k : Nat) (x : Nat × va_E), ws[k]? = some x → H1[x.1]? = H[x.1]? := fun k x hx => f4 x.1 ((hP k x hx).lt)
  have hnew : ∀ (k : Nat) (x : Nat × va_E), (qMW E H.size N M)[k]? = some x → va_at (eG E) vwC x H1 ∧ H.size ≤ x.1 ∧ x.1 = H.size + k := by
    intro k x hx
    cases k with
    | zero =>
      cases hx
      refine ⟨?_, Nat.le_refl _, rfl⟩
      show H1[H.size]? = some (vp_cell _ _)
      rw [f2, vp_cell_q]
      unfold mqO
      congr 2
      funext j
      by_cases z : j < N
      · rw [if_pos z, if_pos z]; rfl
      · rw [if_neg z, if_neg z]; rfl
    | succ k =>
      have hx : ((List.range N).map (fun j => ((H.size + 1 + j, .inl (eC E 0, M, .inl (fun _ => 0))) : Nat × va_E)))[k]? = some x := hx
      have hl : k < N := by
        have := (List.getElem?_eq_some_iff.mp hx).1
        rw [List.length_map, List.length_range] at this
        exact this
      rw [List.getElem?_map, List.getElem?_range hl] at hx
      cases hx
      refine ⟨?_, by show H.size ≤ H.size + 1 + k; omega, by show H.size + 1 + k = H.size + (k + 1); omega⟩
      show H1[H.size + 1 + k]? = some (vp_cell _ _)
      rw [f3 k hl]
      rfl
  have hPn : va_P (eG E) vwC (qMW E H.size N M) H1 := fun k x hx => (hnew k x hx).1
  have hDn : va_D A (qMW E H.size N M) := ⟨fun i j x y hi hj hxy => by
    have h1 := (hnew i x hi).2.2
    have h2 := (hnew j y hj).2.2
    omega, fun k x hx => X.Af _ (Nat.le_trans hS.1 (hnew k x hx).2.1)⟩
  refine kk H.size H1 locs1 ((hP.kept hk).app hPn) (hD.app hDn (fun i j x y hi hj hxy => ?_)) ⟨Nat.le_trans hS.1 (by omega), fun x h1 h2 => (f4 x (Nat.lt_of_lt_of_le h1 hS.1)).trans (hS.2.1 x h1 h2), fun x hx => ?_⟩
  · have h1 := (hP i x hi).lt
    have h2 := (hnew j y hj).2.1
    omega
  · rcases f5 x hx with h | h
    · exact hS.2.2 x h
    · rw [h]; exact X.Af _ hS.1
/-- a String into its row -/
theorem qN_sst (X : qXc E A p s m args meth c cc nL rt own) (hP : va_P (eG E) vwC ws H) (hD : va_D A ws) (hS : va_S A s.heap H locs) (q0 : Nat) {a n i : Nat} {j : Nat} {f : Nat → Option Nat} (hi : i < 11) (hn : n ≤ 1000) (ha : ws[q0]? = some (a, .inl (eC E 3, n, .inr (.inr (.inr (.inr f)))))) (hin : j < n) (hdg : decode cc pc = .ok (.aastore, 1))
    (kk : ∀ (H : Heap) (locs : List Loc), va_P (eG E) vwC (ws.set q0 (a, .inl (eC E 3, n, .inr (.inr (.inr (.inr (va_up f j (some (eK E i))))))))) H → va_D A (ws.set q0 (a, .inl (eC E 3, n, .inr (.inr (.inr (.inr (va_up f j (some (eK E i))))))))) → va_S A s.heap H locs → W p l e R s m args below meth c H locs cells slots Q (F0 m (pc + 1) ls rest)) :
    W p l e R s m args below meth c H locs cells slots Q (F0 m pc ls (.ref (eK E i) :: .int (nI j) :: .ref a :: rest)) := by
  have hc : (nI j).toNatClampNeg = j := nI_clamp (by omega)
  have h0 : ¬ nI j < 0 := fun z => by
    have := (nI_ltI (a := j) (b := 0) (by omega) (by omega)).mp z
    omega
  obtain ⟨cellV, g1, g2, g3⟩ := vk_recv X.Z.2.2.2.2.2.1 hi hS
  have ht : (qTy E)[3]? = some (eC E 3, .object "java/lang/String") := rfl
  obtain ⟨kA, comp, k1, k2, k3, -⟩ := (X.K.2 3 _ ht).2
  have hcomp : comp = cellV.cls := Option.some.inj (k3.symm.trans g3)
  subst hcomp
  obtain ⟨kC, hkC, -⟩ := Vm.findClass_spec g3
  refine W.aast X.x X.b (hP q0 _ ha) (fun q h => by cases h) (fun h => by cases h) k1 k2 rfl hkC ⟨h0, by show _ < (arrV _ _ _).slots.size; rw [arrV_size, hc]; exact hin⟩ g1 (fun q h => by rw [h] at g2; cases g2) hkC (va_asg _ _) rfl rfl hdg fun H1 e z oq => ?_
  refine kk H1 _ (hP.set hD ha ?_ oq) (hD.set ha) (hS.put z oq (hD.2 q0 _ ha))
  show H1[a]? = some (vp_cell _ _)
  rw [e, hc]
  rw [vp_cell_q, vp_cell_q, arrV_store]
  congr 2
  funext q
  by_cases hq : q = j
  · subst hq
    simp [updV, va_up, va_rf]
  · simp [updV, va_up, hq]
theorem qnd_r : ∀ (n k : Nat), va_nd (List.range' k n) = true
  | 0, _ => rfl
  | n + 1, k => by
    rw [List.range'_succ]
    show (decide (k ∉ List.range' (k + 1) n) && va_nd (List.range' (k + 1) n)) = true
    rw [qnd_r n (k + 1), Bool.and_true, decide_eq_true_eq]
    intro h
    have := List.mem_range'_1.mp h
    omega
theorem qnd (n : Nat) : va_nd (List.range n) = true := by
  rw [List.range_eq_range']
  exact qnd_r n 0
/-- new, dup, the constructor's call -/
theorem qN_make (X : qXc E A p s m args meth c cc nL rt own) (hP : va_P (eG E) vwC ws H) (hD : va_D A ws) (hS : va_S A s.heap H locs) {C : String} {T : u_T} {N ci i1 i2 : Nat} {y : MethodName} {b' : ByteArray} {n' d' mc ms : Nat} {fs : List Value} {post : Nat → va_W → Prop} (hin : ∀ w ∈ u_ws C T N, w ∈ qTB) (ty : Nat → FieldType) (hty : ∀ k, k < N → parseFieldDescriptor (T k).2.2.1 = some (ty k)) (hc : vwC[ci]? = some (C, T, N)) (hfs : ∀ j, j < N → defaultValue (ty j) = vp_V fs j)
    (hcl : Cond.classLink own i1 C ∈ qTB ∧ Cond.instantiable C N ∈ qTB ∧ Cond.initialized C ∈ qTB) (hM : ∀ q, qN E l y b' n' d' q (ci, fs) mc ms (post q)) (ho : Cond.code y b' n' none ∈ qTB ∧ Cond.initialized y.cls ∈ qTB ∧ Cond.instanceMethod y ∈ qTB) (hy1 : y.name = "<init>") (hy : y.cls ≠ "java/lang/invoke/MethodHandle" ∧ y.cls ≠ "java/lang/invoke/VarHandle" ∧ (parseMethodDescriptor y.desc).map (fun d => d.parameters.length) = some 0)
    (hl : Cond.methodLink own i2 y ∈ qTB) (hR : d' + 1 ≤ R.frames ∧ 8 + (n' + 11) + 39 * d' ≤ R.locals) (hls : ls.size = nL) (hrest : (rest.map fun v => v.category).sum + 1 ≤ 8) (h1 : cells + 1 + mc ≤ R.cells) (h2 : slots + N + ms ≤ R.slots) (dn : decode cc pc = .ok (.new i1, 3)) (dd : decode cc (pc + 3) = .ok (.dup, 1)) (di : decode cc (pc + 3 + 1) = .ok (.invokespecial i2, 3))
    (kk : ∀ (q : Nat) (w : va_W) (H : Heap) (locs : List Loc), post q w → va_P (eG E) vwC (ws ++ w) H → va_D A (ws ++ w) → va_S A s.heap H locs → W p l e R s m args below meth c H locs (cells + 1 + mc) (slots + N + ms) Q (F0 m (pc + 3 + 1 + 3) ls (.ref q :: rest))) :
    W p l e R s m args below meth c H locs cells slots Q (F0 m pc ls rest) := by
  refine va_new (ci := ci) (fs := fs) X.x X.b X.ts hin ty hty X.ow (X.ts _ hcl.1) (X.ts _ hcl.2.1) (X.ts _ hcl.2.2) X.K hP hD hS X.Af hc hfs (by omega) (by omega) dn (fun q H hP hD hS => ?_)
  refine lv_dup X.x X.b dd rfl ?_
  have hz : (ws ++ [(q, (.inr (ci, fs) : va_E))])[ws.length]? = some (q, .inr (ci, fs)) := by rw [List.getElem?_append_right (Nat.le_refl _), Nat.sub_self]; rfl
  have hPc : va_P (eG E) vwC [(q, .inr (ci, fs))] H := hP.sub [ws.length] (by rw [List.filterMap_cons, hz]; rfl)
  have hDc : va_D A [(q, .inr (ci, fs))] := hD.sub [ws.length] rfl (by rw [List.map_cons, hz]; rfl)
  have hFc := va_free (wc := [(q, .inr (ci, fs))]) hD hS X.Af [ws.length] (by rw [List.map_cons, hz]; rfl)
  refine va_callv (va_runI (As := []) (rest := .ref q :: rest) (Ts := qTB) ⟨X.x, X.b, X.ml, X.ow, X.ts⟩ (hM q H.size) (cwI 0 X.ts (qTB_code ho.1) rfl rfl rfl (X.ts _ ho.2.1) (X.ts _ hl) (X.ts _ ho.2.2) hy1 hy hR) ⟨?_, fun U hU hw => ⟨rfl, by rw [hU], by rw [hU]; exact hPc, va_K.moved hw.alike X.K, hDc.weaken (fun _ _ _ _ => trivial), by rw [hU]; exact X.Z.go hw hS.2.1 hFc, X.C.go hw⟩⟩ rfl rfl hls rfl (lv_room (by show (Value.category (.ref q) :: rest.map fun v => v.category).sum ≤ 8; rw [List.sum_cons]; show 1 + _ ≤ 8; omega)) di ⟨h1, h2⟩) hS (fun q _ h => hFc q h) hFc (fun u t H1 locs1 ht hvm hw hB hz1 hk1 hS => ?_)
  · intro a U g mk h
    obtain ⟨h0, h1, h2, h3, h4, h5, h6⟩ := h
    exact ⟨h0, h1, h2, va_K.moved (u := U) (U := U.calling g mk a) (Vm.Alike.refl U.vm) h3, h4, qZS.same (u := U) (U := U.calling g mk a) rfl h5, qCS.same (u := U) (U := U.calling g mk a) rfl h6⟩
  obtain ⟨hP1, hD1⟩ := hB
  rw [ht] at hP1
  have hR0 : (List.range ws.length).map (fun i => (ws ++ [(q, (.inr (ci, fs) : va_E))])[i]?) = ws.map some := by
    apply List.ext_getElem?
    intro k
    rw [List.getElem?_map, List.getElem?_map]
    by_cases hk : k < ws.length
    · rw [List.getElem?_range hk, List.getElem?_eq_getElem hk]
      show some ((ws ++ [(q, (.inr (ci, fs) : va_E))])[k]?) = _
      rw [List.getElem?_append_left hk, List.getElem?_eq_getElem hk]
      rfl
    · rw [List.getElem?_eq_none (by rw [List.length_range]; omega), List.getElem?_eq_none (by omega)]
      rfl
  obtain ⟨hP, hD⟩ := va_join (wc := [(q, .inr (ci, fs))]) (wr := ws) (w1 := u) hP hD [ws.length] (List.range ws.length) (by rw [List.map_cons, hz]; rfl) hR0 (qnd _) (fun i hi => by have := List.mem_range.mp hi; simp; omega) hk1 hFc hP1 hD1
  exact kk q u H1 locs1 hw hP hD hS
/-- new, dup, the constructor's call (a nest mate) -/
theorem qN_makeN (X : qXc E A p s m args meth c cc nL rt own) (hP : va_P (eG E) vwC ws H) (hD : va_D A ws) (hS : va_S A s.heap H locs) {C : String} {T : u_T} {N ci i1 i2 : Nat} {y : MethodName} {b' : ByteArray} {n' d' mc ms : Nat} {fs : List Value} {post : Nat → va_W → Prop} (hin : ∀ w ∈ u_ws C T N, w ∈ qTB) (ty : Nat → FieldType) (hty : ∀ k, k < N → parseFieldDescriptor (T k).2.2.1 = some (ty k)) (hc : vwC[ci]? = some (C, T, N)) (hfs : ∀ j, j < N → defaultValue (ty j) = vp_V fs j)
    (hcl : Cond.classLink own i1 C ∈ qTB ∧ Cond.instantiable C N ∈ qTB ∧ Cond.initialized C ∈ qTB) (hM : ∀ q, qN E l y b' n' d' q (ci, fs) mc ms (post q)) (ho : Cond.code y b' n' none ∈ qTB ∧ Cond.initialized y.cls ∈ qTB ∧ Cond.instanceMethod y ∈ qTB) (hy1 : y.name = "<init>") (hy : y.cls ≠ "java/lang/invoke/MethodHandle" ∧ y.cls ≠ "java/lang/invoke/VarHandle" ∧ (parseMethodDescriptor y.desc).map (fun d => d.parameters.length) = some 0)
    (hl : va_Nw (.methodLinkNest own i2 y own) s) (hR : d' + 1 ≤ R.frames ∧ 8 + (n' + 11) + 39 * d' ≤ R.locals) (hls : ls.size = nL) (hrest : (rest.map fun v => v.category).sum + 1 ≤ 8) (h1 : cells + 1 + mc ≤ R.cells) (h2 : slots + N + ms ≤ R.slots) (dn : decode cc pc = .ok (.new i1, 3)) (dd : decode cc (pc + 3) = .ok (.dup, 1)) (di : decode cc (pc + 3 + 1) = .ok (.invokespecial i2, 3))
    (kk : ∀ (q : Nat) (w : va_W) (H : Heap) (locs : List Loc), post q w → va_P (eG E) vwC (ws ++ w) H → va_D A (ws ++ w) → va_S A s.heap H locs → W p l e R s m args below meth c H locs (cells + 1 + mc) (slots + N + ms) Q (F0 m (pc + 3 + 1 + 3) ls (.ref q :: rest))) :
    W p l e R s m args below meth c H locs cells slots Q (F0 m pc ls rest) := by
  refine va_new (ci := ci) (fs := fs) X.x X.b X.ts hin ty hty X.ow (X.ts _ hcl.1) (X.ts _ hcl.2.1) (X.ts _ hcl.2.2) X.K hP hD hS X.Af hc hfs (by omega) (by omega) dn (fun q H hP hD hS => ?_)
  refine lv_dup X.x X.b dd rfl ?_
  have hz : (ws ++ [(q, (.inr (ci, fs) : va_E))])[ws.length]? = some (q, .inr (ci, fs)) := by rw [List.getElem?_append_right (Nat.le_refl _), Nat.sub_self]; rfl
  have hPc : va_P (eG E) vwC [(q, .inr (ci, fs))] H := hP.sub [ws.length] (by rw [List.filterMap_cons, hz]; rfl)
  have hDc : va_D A [(q, .inr (ci, fs))] := hD.sub [ws.length] rfl (by rw [List.map_cons, hz]; rfl)
  have hFc := va_free (wc := [(q, .inr (ci, fs))]) hD hS X.Af [ws.length] (by rw [List.map_cons, hz]; rfl)
  refine va_callv (va_runIN (host := own) (As := []) (rest := .ref q :: rest) (Ts := qTB) ⟨X.x, X.b, X.ml, X.ow, X.ts⟩ (hM q H.size) ⟨va_cnB 0 X.ts (qTB_code ho.1) rfl rfl rfl hl (X.ts _ ho.2.1) hy hR, hy1, X.ts _ ho.2.2⟩ ⟨?_, fun U hU hw => ⟨rfl, by rw [hU], by rw [hU]; exact hPc, va_K.moved hw.alike X.K, hDc.weaken (fun _ _ _ _ => trivial), by rw [hU]; exact X.Z.go hw hS.2.1 hFc, X.C.go hw⟩⟩ rfl rfl hls rfl (lv_room (by show (Value.category (.ref q) :: rest.map fun v => v.category).sum ≤ 8; rw [List.sum_cons]; show 1 + _ ≤ 8; omega)) di ⟨h1, h2⟩) hS (fun q _ h => hFc q h) hFc (fun u t H1 locs1 ht hvm hw hB hz1 hk1 hS => ?_)
  · intro a U g mk h
    obtain ⟨h0, h1, h2, h3, h4, h5, h6⟩ := h
    exact ⟨h0, h1, h2, va_K.moved (u := U) (U := U.calling g mk a) (Vm.Alike.refl U.vm) h3, h4, qZS.same (u := U) (U := U.calling g mk a) rfl h5, qCS.same (u := U) (U := U.calling g mk a) rfl h6⟩
  obtain ⟨hP1, hD1⟩ := hB
  rw [ht] at hP1
  have hR0 : (List.range ws.length).map (fun i => (ws ++ [(q, (.inr (ci, fs) : va_E))])[i]?) = ws.map some := by
    apply List.ext_getElem?
    intro k
    rw [List.getElem?_map, List.getElem?_map]
    by_cases hk : k < ws.length
    · rw [List.getElem?_range hk, List.getElem?_eq_getElem hk]
      show some ((ws ++ [(q, (.inr (ci, fs) : va_E))])[k]?) = _
      rw [List.getElem?_append_left hk, List.getElem?_eq_getElem hk]
      rfl
    · rw [List.getElem?_eq_none (by rw [List.length_range]; omega), List.getElem?_eq_none (by omega)]
      rfl
  obtain ⟨hP, hD⟩ := va_join (wc := [(q, .inr (ci, fs))]) (wr := ws) (w1 := u) hP hD [ws.length] (List.range ws.length) (by rw [List.map_cons, hz]; rfl) hR0 (qnd _) (fun i hi => by have := List.mem_range.mp hi; simp; omega) hk1 hFc hP1 hD1
  exact kk q u H1 locs1 hw hP hD hS
end QN
