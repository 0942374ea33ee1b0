def qAA (E : QE) (sz : Nat) : Nat → Prop := fun q => (∃ c, c < 82 ∧ q = eA E c) ∨ sz ≤ q
abbrev qTy (E : QE) : List (ClassId × FieldType) := [(eC E 0, .int), (eC E 1, .object "CarelessMist$Sheet"), (eC E 2, .array .int), (eC E 3, .object "java/lang/String")]
def zt0 : List Int32 := [6, 15, 9999]
def zt1 : List Int32 := [0, 0, 1, 0, 0, 0]
def zt2 : List Int32 := [15, 7, 5, 255, 9999, 9999]
def zt3 : List Int32 := [-1, 0, 0, 2, 3, 0, 1]
def strL : List Nat := [5, 7, 3, 5, 5, 4, 3, 6, 4, 5, 4]
def strB : List (List Int32) := [[116, 104, 105, 110, 103], [115, 116, 101, 101, 112, 108, 101], [99, 111, 119], [99, 104, 105, 108, 100], [108, 111, 118, 101, 114], [98, 105, 108, 108], [105, 110, 110], [119, 97, 108, 107, 101, 114], [112, 97, 99, 101], [99, 97, 114, 101, 115], [116, 117, 114, 110]]
def strT : List (String × (Nat × (String × Nat))) := [("CarelessMist$Tape", 100, "thing", 0), ("CarelessMist$Tape", 102, "steeple", 1), ("CarelessMist$Tape", 106, "cow", 2), ("CarelessMist$Tape", 108, "child", 3), ("CarelessMist$Tape", 110, "lover", 4), ("CarelessMist$Tape", 112, "bill", 5), ("CarelessMist$Tape", 114, "inn", 6), ("CarelessMist$Tape", 38, "walker", 7), ("CarelessMist$Tape", 83, "pace", 8), ("CarelessMist$Tape", 89, "cares", 9), ("CarelessMist$Tape", 47, "turn", 10),
  ("CarelessMistModel", 27, "thing", 0), ("CarelessMistModel", 29, "steeple", 1), ("CarelessMistModel", 31, "cow", 2), ("CarelessMistModel", 33, "child", 3), ("CarelessMistModel", 35, "lover", 4), ("CarelessMistModel", 37, "bill", 5), ("CarelessMistModel", 39, "inn", 6), ("CarelessMistModel", 317, "walker", 7), ("CarelessMistModel", 308, "pace", 8), ("CarelessMistModel", 313, "cares", 9), ("CarelessMistModel", 322, "turn", 10)]
def qZt (C n : String) (t : Nat) (l : List Int32) (A : Nat → Prop) (U : State) (H : Heap) : Prop := va_Z C n "[I" (.ref t) A U H ∧ va_T .int t l.length (fun j => .int (l.getD j 0)) A U H
/-- what stays as it is over the whole run: static rows, texts, links of nest mates -/
def qZS (E : QE) (A : Nat → Prop) (U : State) (H : Heap) : Prop :=
  qZt "CarelessMist" "MOST_OF_THING" (eZ E 0) zt0 A U H ∧ qZt "CarelessMist" "LEAST_OF_WALKER" (eZ E 1) zt1 A U H ∧ qZt "CarelessMist" "MOST_OF_WALKER" (eZ E 2) zt2 A U H ∧ qZt "CarelessMist$Kinds" "UNDER" (eZ E 3) zt3 A U H ∧
  (va_Z "java/lang/String" "COMPACT_STRINGS" "Z" (.int 1) A U H ∧ va_Zq "jdk/internal/util/Preconditions" "SIOOBE_FORMATTER" "Ljava/util/function/BiFunction;" A U H) ∧ vk_S 11 strL strB (eK E) (eV E) A U H ∧ (∀ q ∈ strT, vk_R q.1 q.2.1 q.2.2.1 (eK E q.2.2.2) U) ∧
  va_Nw (.methodLinkNest "CarelessMist$Tape" 124 ⟨"CarelessMist", "within", "(III)Z"⟩ "CarelessMist") U ∧ va_Nw (.fieldLinkNest "CarelessMist$Tape" 91 "CarelessMist" "LEAST_OF_WALKER" "[I" "CarelessMist") U ∧ va_Nw (.fieldLinkNest "CarelessMist$Tape" 94 "CarelessMist" "MOST_OF_WALKER" "[I" "CarelessMist") U
theorem qZt.go {C n : String} {t : Nat} {l : List Int32} {A B : Nat → Prop} {u U : State} {H H1 : Heap} (hvm : u.vm.Alike U.vm) (hq : ∀ a : Nat, a < H.size → ¬ A a → H1[a]? = H[a]?) (hAB : ∀ q, B q → A q) (h : qZt C n t l A u H) : qZt C n t l B U H1 :=
  ⟨((h.1.moved hvm).kept hq).narrow hAB, ((h.2.moved hvm).kept hq).narrow hAB⟩
theorem qZS.go {E : QE} {A B : Nat → Prop} {u U : State} {H H1 : Heap} (hw : u.WarmedH U.vm) (hq : ∀ a : Nat, a < H.size → ¬ A a → H1[a]? = H[a]?) (hAB : ∀ q, B q → A q) (h : qZS E A u H) : qZS E B U H1 := by
  have hvm : u.vm.Alike U.vm := hw.alike
  obtain ⟨h0, h1, h2, h3, h4, h5, h6, h7, h8, h9⟩ := h
  exact ⟨h0.go hvm hq hAB, h1.go hvm hq hAB, h2.go hvm hq hAB, h3.go hvm hq hAB, ⟨((h4.1.moved hvm).kept hq).narrow hAB, ((h4.2.moved hvm).kept hq).narrow hAB⟩, ((h5.moved hvm).kept hq).narrow hAB, fun q hm => (h6 q hm).warm hw, h7.warmM hw, h8.warmF hw, h9.warmF hw⟩
theorem qZS.same {E : QE} {A : Nat → Prop} {u U : State} {H : Heap} (hv : U.vm = u.vm) (h : qZS E A u H) : qZS E A U H := by
  have hvm : u.vm.Alike U.vm := by rw [hv]; exact Vm.Alike.refl _
  obtain ⟨h0, h1, h2, h3, h4, h5, h6, h7, h8, h9⟩ := h
  have id1 : ∀ a : Nat, a < H.size → ¬ A a → H[a]? = H[a]? := fun _ _ _ => rfl
  exact ⟨h0.go hvm id1 (fun _ z => z), h1.go hvm id1 (fun _ z => z), h2.go hvm id1 (fun _ z => z), h3.go hvm id1 (fun _ z => z), ⟨h4.1.moved hvm, h4.2.moved hvm⟩, h5.moved hvm, fun q hm => (h6 q hm).same hv, va_Nw.same rfl hv.symm h7, va_Nw.same rfl hv.symm h8, va_Nw.same rfl hv.symm h9⟩
def qWD (E : QE) (sz : Nat) (S : QM) (U : State) : Prop := U.heap.size = sz ∧ va_P (eG E) vwC (LW E S) U.heap ∧ va_K (eG E) vwC (qTy E) U ∧ va_D (qAA E sz) (LW E S) ∧ qZS E (qAA E sz) U U.heap
def qWE (E : QE) (sz : Nat) (S : QM) (U : State) : Prop := va_P (eG E) vwC (LW E S) U.heap ∧ va_K (eG E) vwC (qTy E) U ∧ va_D (qAA E sz) (LW E S)
def qWH (E : QE) (S : QM) (s : State) (H : Heap) (locs : List Loc) : Prop := va_P (eG E) vwC (LW E S) H ∧ va_D (qAA E s.heap.size) (LW E S) ∧ va_S (qAA E s.heap.size) s.heap H locs
def qRm (d : Nat) : Room := { frames := d, cells := 0, slots := 0, locals := 39 * d }
abbrev qws (y : MethodName) (b : ByteArray) (n : Nat) (rt : Option FieldType) : List Cond := .code y b n rt :: qTB
def qQi (E : QE) (r : Int32) (S' : QM) (sz : Nat) : Array Value → State → Outcome → State → Prop := va_Qi (fun x u => x = r ∧ u = S') (fun (u : QM) t => qWE E sz u t) (qAA E sz)
def qQl (E : QE) (r : Int64) (S' : QM) (sz : Nat) : Array Value → State → Outcome → State → Prop := va_Ql (fun x u => x = r ∧ u = S') (fun (u : QM) t => qWE E sz u t) (qAA E sz)
def qQv (E : QE) (S' : QM) (sz : Nat) : Array Value → State → Outcome → State → Prop := va_Qv (fun u => u = S') (fun (u : QM) t => qWE E sz u t) (qAA E sz)
/-- contracts: from the world S the method with these arguments answers r (nothing), the world is S' then -/
def qCI (E : QE) (l : Launch) (y : MethodName) (b : ByteArray) (n : Nat) (rt : FieldType) (d : Nat) (av : List Value) (S : QM) (r : Int32) (S' : QM) : Prop := ∀ sz, Met l y (qws y b n (some rt)) (qRm d) (va_Pc av (qWD E sz S)) (qQi E r S' sz) 0 0 (qAA E sz)
def qCL (E : QE) (l : Launch) (y : MethodName) (b : ByteArray) (n : Nat) (d : Nat) (av : List Value) (S : QM) (r : Int64) (S' : QM) : Prop := ∀ sz, Met l y (qws y b n (some .long)) (qRm d) (va_Pc av (qWD E sz S)) (qQl E r S' sz) 0 0 (qAA E sz)
def qCV (E : QE) (l : Launch) (y : MethodName) (b : ByteArray) (n : Nat) (d : Nat) (av : List Value) (S : QM) (S' : QM) : Prop := ∀ sz, Met l y (qws y b n none) (qRm d) (va_Pc av (qWD E sz S)) (qQv E S' sz) 0 0 (qAA E sz)
/-- what stays fixed over a walk -/
def qX (E : QE) (p : Program) (s : State) (m : MethodId) (args : Array Value) (meth : Method) (c : Code) (b : ByteArray) (n : Nat) (rt : Option FieldType) (own : String) : Prop :=
  p.tables.exec = Jvm.exec ∧ c.code = b ∧ c.maxLocals = n ∧ s.vm.findClass own = some m.cls ∧ (∀ w ∈ qTB, w.before args s = true) ∧ va_K (eG E) vwC (qTy E) s ∧ qZS E (qAA E s.heap.size) s s.heap ∧ meth.sig.returnType = rt ∧ meth.locks = false
section QR
variable {p : Program} {l : Launch} {e : Env} {R : Room} {s : State} {m : MethodId} {args : Array Value} {below : List Frame} {meth : Method} {c : Code} {H : Heap} {locs : List Loc} {cells slots : Nat} {Q : State → Prop}
variable {cc : ByteArray} {nL : Nat} {rt : Option FieldType} {own : String} {pc : Nat} {ls : Array Slot} {rest : List Value} {E : QE} {S : QM}
theorem qX.x (X : qX E p s m args meth c cc nL rt own) : p.tables.exec = Jvm.exec := X.1
theorem qX.b (X : qX E p s m args meth c cc nL rt own) : c.code = cc := X.2.1
theorem qX.ml (X : qX E p s m args meth c cc nL rt own) : c.maxLocals = nL := X.2.2.1
theorem qX.ow (X : qX E p s m args meth c cc nL rt own) : s.vm.findClass own = some m.cls := X.2.2.2.1
theorem qX.ts (X : qX E p s m args meth c cc nL rt own) : ∀ w ∈ qTB, w.before args s = true := X.2.2.2.2.1
theorem qX.K (X : qX E p s m args meth c cc nL rt own) : va_K (eG E) vwC (qTy E) s := X.2.2.2.2.2.1
theorem qX.Z (X : qX E p s m args meth c cc nL rt own) : qZS E (qAA E s.heap.size) s s.heap := X.2.2.2.2.2.2.1
theorem qX.r (X : qX E p s m args meth c cc nL rt own) : meth.sig.returnType = rt := X.2.2.2.2.2.2.2.1
theorem qX.k (X : qX E p s m args meth c cc nL rt own) : meth.locks = false := X.2.2.2.2.2.2.2.2
theorem q_geti (X : qX E p s m args meth c cc nL rt own) (hW : qWH E S s H locs) {C : String} {T : u_T} {N ci index : Nat} (hin : ∀ w ∈ u_ws C T N, w ∈ qTB) (hc : vwC[ci]? = some (C, T, N)) (c0 : Nat) {fs : List (Nat ⊕ (Nat × Nat))} (hd : dsT[c0]? = some (.inr (.inl (ci, fs)))) (k : Nat) (hk : k < N) (hlink : Cond.fieldLink own index C (T k).2.1 (T k).2.2.1 ∈ qTB) (hT : (T k).1 = C) {q : Nat × Nat} (hf : fs[k]? = some (.inr q)) (hdg : decode cc pc = .ok (.getfield index, 3))
    (kk : W p l e R s m args below meth c H locs cells slots Q (F0 m (pc + 3) ls (.int (S q.1 q.2) :: rest))) : W p l e R s m args below meth c H locs cells slots Q (F0 m pc ls (.ref (eA E c0) :: rest)) :=
  va_get (D := eG E) X.x X.b X.ts hin X.ow X.K hW.1 c0 (LW_at hd) hc k hk (X.ts _ hlink) (fun x h => by rw [hT] at h; exact h) (v := .int (S q.1 q.2)) (by rw [List.getElem?_map, hf]; rfl) hdg kk
theorem q_getr (X : qX E p s m args meth c cc nL rt own) (hW : qWH E S s H locs) {C : String} {T : u_T} {N ci index : Nat} (hin : ∀ w ∈ u_ws C T N, w ∈ qTB) (hc : vwC[ci]? = some (C, T, N)) (c0 : Nat) {fs : List (Nat ⊕ (Nat × Nat))} (hd : dsT[c0]? = some (.inr (.inl (ci, fs)))) (k : Nat) (hk : k < N) (hlink : Cond.fieldLink own index C (T k).2.1 (T k).2.2.1 ∈ qTB) (hT : (T k).1 = C) {c1 : Nat} (hf : fs[k]? = some (.inl c1)) (hdg : decode cc pc = .ok (.getfield index, 3))
    (kk : W p l e R s m args below meth c H locs cells slots Q (F0 m (pc + 3) ls (.ref (eA E c1) :: rest))) : W p l e R s m args below meth c H locs cells slots Q (F0 m pc ls (.ref (eA E c0) :: rest)) :=
  va_get (D := eG E) X.x X.b X.ts hin X.ow X.K hW.1 c0 (LW_at hd) hc k hk (X.ts _ hlink) (fun x h => by rw [hT] at h; exact h) (v := .ref (eA E c1)) (by rw [List.getElem?_map, hf]; rfl) hdg kk
theorem q_puti (X : qX E p s m args meth c cc nL rt own) (hW : qWH E S s H locs) {C : String} {T : u_T} {N ci index : Nat} {ty0 : Nat → FieldType} (hin : ∀ w ∈ u_ws C T N, w ∈ qTB) (hty : ∀ k, k < N → parseFieldDescriptor (T k).2.2.1 = some (ty0 k)) (hnm : ∀ a, a < N → ∀ b, b < N → a ≠ b → (T a).2.1 ≠ (T b).2.1) (hc : vwC[ci]? = some (C, T, N)) (c0 : Nat) {fs : List (Nat ⊕ (Nat × Nat))} (hd : dsT[c0]? = some (.inr (.inl (ci, fs)))) (k : Nat) (hk : k < N) (hlink : Cond.fieldLink own index C (T k).2.1 (T k).2.2.1 ∈ qTB) (hT : (T k).1 = C) (hfin : (T k).2.2.2 = false) {q : Nat × Nat} (hf : fs[k]? = some (.inr q)) {v : Int32} (hn : narrow (ty0 k) (.int v) = .int v) (hfit : fits (ty0 k) (.int v) = true) (hdg : decode cc pc = .ok (.putfield index, 3))
    (kk : ∀ (H : Heap) (locs : List Loc), qWH E (qst S q.1 q.2 v) s H locs → W p l e R s m args below meth c H locs cells slots Q (F0 m (pc + 3) ls rest)) : W p l e R s m args below meth c H locs cells slots Q (F0 m pc ls (.int v :: .ref (eA E c0) :: rest)) := by
  refine va_put (D := eG E) X.x X.b X.ts hin ty0 hty hnm X.ow X.K hW.1 hW.2.1 hW.2.2 c0 (LW_at hd) hc k hk (X.ts _ hlink) (fun x h => by rw [hT] at h; exact h) hfin (hty k hk) hn hfit (by rw [List.length_map]; exact (List.getElem?_eq_some_iff.mp hf).1) hdg (fun H1 locs1 hP hD hS => ?_)
  have e := LW_so (E := E) (S := S) (v := v) hd hf
  exact kk H1 locs1 ⟨by rw [← e]; exact hP, by rw [← e]; exact hD, hS⟩
theorem q_ald (X : qX E p s m args meth c cc nL rt own) (hW : qWH E S s H locs) (c0 : Nat) {q : Nat × (Nat × Nat)} (hd : dsT[c0]? = some (.inl q)) {i : Int32} (hin : vp_in i q.2.2) (hdg : decode cc pc = .ok (.iaload, 1))
    (kk : W p l e R s m args below meth c H locs cells slots Q (F0 m (pc + 1) ls (.int (S q.1 (q.2.1 + i.toNatClampNeg)) :: rest))) : W p l e R s m args below meth c H locs cells slots Q (F0 m pc ls (.int i :: .ref (eA E c0) :: rest)) := by
  have hlt : i.toNatClampNeg < q.2.2 := Nat.not_le.mp fun z => hin (Or.inr z)
  refine va_iald (D := eG E) X.x X.b X.K hW.1 c0 0 (LW_at hd) rfl hin hdg ?_
  rw [show ctn S q i.toNatClampNeg = S q.1 (q.2.1 + i.toNatClampNeg) from if_pos hlt]
  exact kk
theorem q_ast (X : qX E p s m args meth c cc nL rt own) (hW : qWH E S s H locs) (c0 : Nat) {q : Nat × (Nat × Nat)} (hd : dsT[c0]? = some (.inl q)) {i v : Int32} (hin : vp_in i q.2.2) (hdg : decode cc pc = .ok (.iastore, 1))
    (kk : ∀ (H : Heap) (locs : List Loc), qWH E (qst S q.1 (q.2.1 + i.toNatClampNeg) v) s H locs → W p l e R s m args below meth c H locs cells slots Q (F0 m (pc + 1) ls rest)) : W p l e R s m args below meth c H locs cells slots Q (F0 m pc ls (.int v :: .int i :: .ref (eA E c0) :: rest)) := by
  have hlt : i.toNatClampNeg < q.2.2 := Nat.not_le.mp fun z => hin (Or.inr z)
  refine va_iast (D := eG E) X.x X.b X.K hW.1 hW.2.1 hW.2.2 c0 0 (LW_at hd) rfl hin hdg (fun H1 locs1 hP hD hS => ?_)
  have e := LW_st (E := E) (S := S) (v := v) hd hlt
  exact kk H1 locs1 ⟨by rw [← e]; exact hP, by rw [← e]; exact hD, hS⟩
theorem q_alen (X : qX E p s m args meth c cc nL rt own) (hW : qWH E S s H locs) (c0 : Nat) {q : Nat × (Nat × Nat)} (hd : dsT[c0]? = some (.inl q)) {v : Int32} (hv : Int32.ofNat q.2.2 = v) (hdg : decode cc pc = .ok (.arraylength, 1))
    (kk : W p l e R s m args below meth c H locs cells slots Q (F0 m (pc + 1) ls (.int v :: rest))) : W p l e R s m args below meth c H locs cells slots Q (F0 m pc ls (.ref (eA E c0) :: rest)) :=
  va_alen (D := eG E) X.x X.b X.K hW.1 c0 0 (LW_at hd) (ty := .int) rfl hv hdg kk
theorem q_rlen (X : qX E p s m args meth c cc nL rt own) (hW : qWH E S s H locs) (c0 : Nat) {r : Nat × List Nat} (hd : dsT[c0]? = some (.inr (.inr r))) {ty : FieldType} (ht : (qTy E)[r.1]? = some (eC E r.1, ty)) {v : Int32} (hv : Int32.ofNat r.2.length = v) (hdg : decode cc pc = .ok (.arraylength, 1))
    (kk : W p l e R s m args below meth c H locs cells slots Q (F0 m (pc + 1) ls (.int v :: rest))) : W p l e R s m args below meth c H locs cells slots Q (F0 m pc ls (.ref (eA E c0) :: rest)) :=
  va_alen (D := eG E) X.x X.b X.K hW.1 c0 r.1 (LW_at hd) ht hv hdg kk
theorem q_aaq (X : qX E p s m args meth c cc nL rt own) (hW : qWH E S s H locs) (c0 : Nat) {r : Nat × List Nat} (hd : dsT[c0]? = some (.inr (.inr r))) {ty : FieldType} (ht : (qTy E)[r.1]? = some (eC E r.1, ty)) (hty : ty.isReference = true) {i : Int32} {c1 : Nat} (hin : vp_in i r.2.length) (h1 : r.2[i.toNatClampNeg]? = some c1) {a1 : Nat} (ha : (if r.1 = 3 then eK E else eA E) c1 = a1) (hdg : decode cc pc = .ok (.aaload, 1))
    (kk : W p l e R s m args below meth c H locs cells slots Q (F0 m (pc + 1) ls (.ref a1 :: rest))) : W p l e R s m args below meth c H locs cells slots Q (F0 m pc ls (.int i :: .ref (eA E c0) :: rest)) := by
  have hlt : i.toNatClampNeg < r.2.length := Nat.not_le.mp fun z => hin (Or.inr z)
  have hv : va_rf (rfn E r i.toNatClampNeg) = .ref a1 := by
    unfold rfn
    rw [h1]
    show Value.ref ((if r.1 = 3 then eK E else eA E) c1) = _
    rw [ha]
  refine W.aald (v := .ref a1) (ty := ty) X.x X.b (hW.1 c0 _ (LW_at hd)) ((X.K.2 r.1 _ ht).1 r.2.length (fun j => va_rf (rfn E r j))) hty (fun q => by cases q) (by show ¬ (i < 0 ∨ (arrV _ _ _).slots.size ≤ _); rw [arrV_size]; exact hin) (by show (arrV _ _ _).slots[_]? = _; rw [arrV_read _ _ hlt, hv]) rfl rfl hdg kk
theorem q_copy (X : qX E p s m args meth c cc nL rt own) (hls : ls.size = nL) (hW : qWH E S s H locs) {index : Nat} (hlink : Cond.methodLink own index arraycopyName ∈ qTB) (hnat : Cond.native arraycopyName ∈ qTB) (hstat : Cond.static arraycopyName ∈ qTB) (hini : Cond.initialized "java/lang/System" ∈ qTB) (c0 c1 : Nat) {q r : Nat × (Nat × Nat)} (hd0 : dsT[c0]? = some (.inl q)) (hd1 : dsT[c1]? = some (.inl r))
    {sp dp n : Int32} (h1 : ¬ sp < 0) (h2 : ¬ dp < 0) (h3 : ¬ n < 0) (h4 : sp.toNatClampNeg + n.toNatClampNeg ≤ q.2.2) (h5 : dp.toNatClampNeg + n.toNatClampNeg ≤ r.2.2) (hframes : 1 ≤ R.frames) (hlocals : (rest.map fun v => v.category).sum + (nativeFrameWords "java/lang/System" "arraycopy" 5 + 11) ≤ R.locals) (hdg : decode cc pc = .ok (.invokestatic index, 3))
    (kk : ∀ (H : Heap) (locs : List Loc), qWH E (qcp S q.1 (q.2.1 + sp.toNatClampNeg) r.1 (r.2.1 + dp.toNatClampNeg) n.toNatClampNeg) s H locs → W p l e R s m args below meth c H locs cells slots Q (F0 m (pc + 3) ls rest)) : W p l e R s m args below meth c H locs cells slots Q (F0 m pc ls (.int n :: .int dp :: .ref (eA E c1) :: .int sp :: .ref (eA E c0) :: rest)) := by
  refine va_copyi (D := eG E) X.x X.b (X.ml.trans hls.symm) X.ow (X.ts _ hlink) (X.ts _ hnat) (X.ts _ hstat) (X.ts _ hini) X.K hW.1 hW.2.1 hW.2.2 c0 c1 0 0 (LW_at hd0) (LW_at hd1) rfl rfl (ty := .int) rfl h1 h2 h3 h4 h5 (fun _ _ => rfl) hframes hlocals hdg (fun H1 locs1 hP hD hS => ?_)
  have e := LW_cp (E := E) (S := S) hd1 h4 h5
  exact kk H1 locs1 ⟨by rw [← e]; exact hP, by rw [← e]; exact hD, hS⟩
theorem q_gets (X : qX E p s m args meth c cc nL rt own) (hW : qWH E S s H locs) {C n : String} {t index : Nat} {zl : List Int32} (hZ : qZt C n t zl (qAA E s.heap.size) s s.heap) (hlink : Cond.fieldLink own index C n "[I" ∈ qTB) (hdg : decode cc pc = .ok (.getstatic index, 3))
    (kk : W p l e R s m args below meth c H locs cells slots Q (F0 m (pc + 3) ls (.ref t :: rest))) : W p l e R s m args below meth c H locs cells slots Q (F0 m pc ls rest) :=
  va_gets X.x X.b hZ.1 hW.2.2 X.ow (X.ts _ hlink) (fun _ h => h) hdg kk
theorem q_getsN (X : qX E p s m args meth c cc nL rt own) (hW : qWH E S s H locs) {C n host : String} {t index : Nat} {zl : List Int32} (hZ : qZt C n t zl (qAA E s.heap.size) s s.heap) (hlink : va_Nw (.fieldLinkNest own index C n "[I" host) s) (hdg : decode cc pc = .ok (.getstatic index, 3))
    (kk : W p l e R s m args below meth c H locs cells slots Q (F0 m (pc + 3) ls (.ref t :: rest))) : W p l e R s m args below meth c H locs cells slots Q (F0 m pc ls rest) :=
  va_getsN X.x X.b hZ.1 hW.2.2 X.ow (va_Nw.use rfl hlink) (fun _ h => h) hdg kk
theorem q_zald (X : qX E p s m args meth c cc nL rt own) (hW : qWH E S s H locs) {C n : String} {t : Nat} {zl : List Int32} (hZ : qZt C n t zl (qAA E s.heap.size) s s.heap) {i : Int32} (hin : vp_in i zl.length) (hdg : decode cc pc = .ok (.iaload, 1))
    (kk : W p l e R s m args below meth c H locs cells slots Q (F0 m (pc + 1) ls (.int (zl.getD i.toNatClampNeg 0) :: rest))) : W p l e R s m args below meth c H locs cells slots Q (F0 m pc ls (.int i :: .ref t :: rest)) :=
  va_ti X.x X.b hZ.2 hW.2.2 hin rfl hdg kk
theorem q_zlen (X : qX E p s m args meth c cc nL rt own) (hW : qWH E S s H locs) {C n : String} {t : Nat} {zl : List Int32} (hZ : qZt C n t zl (qAA E s.heap.size) s s.heap) {v : Int32} (hv : Int32.ofNat zl.length = v) (hdg : decode cc pc = .ok (.arraylength, 1))
    (kk : W p l e R s m args below meth c H locs cells slots Q (F0 m (pc + 1) ls (.int v :: rest))) : W p l e R s m args below meth c H locs cells slots Q (F0 m pc ls (.ref t :: rest)) :=
  va_tlen X.x X.b hZ.2 hW.2.2 hv hdg kk
theorem q_ldcs (X : qX E p s m args meth c cc nL rt own) {tx : String} {index i : Nat} (h : (own, index, tx, i) ∈ strT) (hdg : decode cc pc = .ok (.ldc index, 2))
    (kk : W p l e R s m args below meth c H locs cells slots Q (F0 m (pc + 2) ls (.ref (eK E i) :: rest))) : W p l e R s m args below meth c H locs cells slots Q (F0 m pc ls rest) :=
  va_ldcS X.x X.b X.ow (X.Z.2.2.2.2.2.2.1 _ h) hdg kk
/-! ends -/
theorem q_zret {ty : FieldType} (X : qX E p s m args meth c cc nL (some ty) own) {r v : Int32} {S' : QM} (hn : narrow ty (.int v) = .int v) (hW : qWH E S s H locs) (h : v = r ∧ S = S') (hdg : decode cc pc = .ok (.ireturn, 1)) :
    W p l e R s m args below meth c H locs 0 0 (MQ below (qQi E r S' s.heap.size) args s 0 0 (qAA E s.heap.size)) (F0 m pc ls [.int v]) := by
  obtain ⟨rfl, rfl⟩ := h
  exact W.zret X.x X.b X.r hn (fun t ht hw => ⟨⟨v, S, rfl, ⟨rfl, rfl⟩, by rw [ht]; exact hW.1, va_K.moved hw.alike X.K, hW.2.1⟩, hW.2.2.F ht⟩) hW.2.2.2.2 hdg X.k
theorem q_lret (X : qX E p s m args meth c cc nL (some .long) own) {r v : Int64} {S' : QM} (hW : qWH E S s H locs) (h : v = r ∧ S = S') (hdg : decode cc pc = .ok (.lreturn, 1)) :
    W p l e R s m args below meth c H locs 0 0 (MQ below (qQl E r S' s.heap.size) args s 0 0 (qAA E s.heap.size)) (F0 m pc ls [.long v]) := by
  obtain ⟨rfl, rfl⟩ := h
  exact W.lret X.x X.b X.r (fun t ht hw => ⟨⟨v, S, rfl, ⟨rfl, rfl⟩, by rw [ht]; exact hW.1, va_K.moved hw.alike X.K, hW.2.1⟩, hW.2.2.F ht⟩) hW.2.2.2.2 hdg X.k
theorem q_vret (X : qX E p s m args meth c cc nL none own) {S' : QM} (hW : qWH E S s H locs) (h : S = S') (hdg : decode cc pc = .ok (.return_, 1)) :
    W p l e R s m args below meth c H locs 0 0 (MQ below (qQv E S' s.heap.size) args s 0 0 (qAA E s.heap.size)) (F0 m pc ls []) := by
  subst h
  exact W.vret X.x X.b X.r (fun t ht hw => ⟨⟨S, rfl, rfl, by rw [ht]; exact hW.1, va_K.moved hw.alike X.K, hW.2.1⟩, hW.2.2.F ht⟩) hW.2.2.2.2 hdg X.k
end QR
