section QN2
variable {p : Program} {l : Launch} {e : Env} {R : Room} {s : State} {m : MethodId} {args : Array Value} {below : List Frame} {meth : Method} {c : Code} {H : Heap} {locs : List Loc} {cells slots : Nat} {Q : State → Prop}
variable {cc : ByteArray} {nL : Nat} {rt : Option FieldType} {own : String} {pc : Nat} {ls : Array Slot} {rest : List Value} {E : QE} {A : Nat → Prop} {ws : va_W}
theorem qneg {n : Nat} (h : n ≤ 1000) : ¬ nI n < 0 := fun z => by
  have := (nI_ltI (a := n) (b := 0) (by omega) (by omega)).mp z
  omega
theorem qvin {j n : Nat} (h : j < n) (hj : j ≤ 1000) : vp_in (nI j) n := fun z => by
  rcases z with z | z
  · exact qneg hj z
  · rw [nI_clamp (by omega)] at z; omega
theorem qN_ist (X : qXc E A p s m args meth c cc nL rt own) (hP : va_P (eG E) vwC ws H) (hD : va_D A ws) (hS : va_S A s.heap H locs) (q0 : Nat) {a n j : Nat} {f : Nat → Int32} {x : Int32} (ha : ws[q0]? = some (a, .inl (eC E 0, n, .inl f))) (hj : j < n) (hj2 : j ≤ 1000) (hdg : decode cc pc = .ok (.iastore, 1))
    (kk : ∀ (H : Heap) (locs : List Loc), va_P (eG E) vwC (ws.set q0 (a, .inl (eC E 0, n, .inl (upd f j x)))) H → va_D A (ws.set q0 (a, .inl (eC E 0, n, .inl (upd f j x)))) → va_S A s.heap H locs → W p l e R s m args below meth c H locs cells slots Q (F0 m (pc + 1) ls rest)) :
    W p l e R s m args below meth c H locs cells slots Q (F0 m pc ls (.int x :: .int (nI j) :: .ref a :: rest)) := by
  refine va_iast X.x X.b X.K hP hD hS q0 0 ha rfl (qvin hj hj2) hdg (fun H1 locs1 h1 h2 h3 => ?_)
  rw [nI_clamp (by omega)] at h1 h2
  exact kk H1 locs1 h1 h2 h3
theorem qN_ost (X : qXc E A p s m args meth c cc nL rt own) (hP : va_P (eG E) vwC ws H) (hD : va_D A ws) (hS : va_S A s.heap H locs) (q0 t0 qk ci : Nat) {a n j v : Nat} {cQ : ClassId} {r : vw_C} {vs : List Value} {f : Nat → Option Nat} (ha : ws[q0]? = some (a, .inl (cQ, n, .inr (.inr (.inr (.inr f)))))) (ht : (qTy E)[t0]? = some (cQ, .object r.1)) (hv : ws[qk]? = some (v, .inr (ci, vs))) (hc : vwC[ci]? = some r) (hj : j < n) (hj2 : j ≤ 1000) (hdg : decode cc pc = .ok (.aastore, 1))
    (kk : ∀ (H : Heap) (locs : List Loc), va_P (eG E) vwC (ws.set q0 (a, .inl (cQ, n, .inr (.inr (.inr (.inr (va_up f j (some v)))))))) H → va_D A (ws.set q0 (a, .inl (cQ, n, .inr (.inr (.inr (.inr (va_up f j (some v)))))))) → va_S A s.heap H locs → W p l e R s m args below meth c H locs cells slots Q (F0 m (pc + 1) ls rest)) :
    W p l e R s m args below meth c H locs cells slots Q (F0 m pc ls (.ref v :: .int (nI j) :: .ref a :: rest)) := by
  refine va_astq X.x X.b X.K hP hD hS q0 t0 qk ci ha ht hv hc (qvin hj hj2) hdg (fun H1 locs1 h1 h2 h3 => ?_)
  rw [nI_clamp (by omega)] at h1 h2
  exact kk H1 locs1 h1 h2 h3
/-- Object's constructor -/
theorem qN_obj (X : qXc E A p s m args meth c cc nL rt own) {idx a : Nat} (hl : Cond.methodLink own idx ⟨"java/lang/Object", "<init>", "()V"⟩ ∈ qTB) (hls : ls.size = nL) (hdg : decode cc pc = .ok (.invokespecial idx, 3)) (h1 : 1 ≤ R.frames) (h2 : 12 ≤ R.locals)
    (kk : W p l e R s m args below meth c H locs cells slots Q (F0 m (pc + 3) ls [])) : W p l e R s m args below meth c H locs cells slots Q (F0 m pc ls [.ref a]) := by
  refine W.objInit X.x X.b X.ow (X.ts _ hl) (X.ts _ (qTB_in (w := .instanceMethod ⟨"java/lang/Object", "<init>", "()V"⟩) (i := 86) (by decide +kernel) rfl)) (X.ts _ (qTB_in (w := .code ⟨"java/lang/Object", "<init>", "()V"⟩ object_method_1_code 1 none) (i := 87) (by decide +kernel) rfl)) rfl (by rw [X.ml]; exact hls) rfl hdg h1 h2 ?_
  exact kk
end QN2
/-- Arrays.fill over a row of its own -/
def qFP (E : QE) (a n : Nat) (f : Nat → Int32) (sz : Nat) (U : State) : Prop := U.heap.size = sz ∧ va_P (eG E) vwC [(a, .inl (eC E 0, n, .inl f))] U.heap ∧ va_K (eG E) vwC (qTy E) U ∧ va_D (fun _ => True) [(a, .inl (eC E 0, n, .inl f))]
def qFQ (E : QE) (a n : Nat) (f : Nat → Int32) (sz : Nat) (g : Nat → Int32) : Array Value → State → Outcome → State → Prop := va_Qv (fun w => w = ([(a, .inl (eC E 0, n, .inl g))] : va_W)) (fun (w : va_W) t => va_P (eG E) vwC w t.heap ∧ va_D (va_A [(a, .inl (eC E 0, n, .inl f))] sz) w) (va_A [(a, .inl (eC E 0, n, .inl f))] sz)
set_option maxHeartbeats 1000000 in
set_option maxRecDepth 20000 in
theorem c_Ja_fillW (l : Launch) (E : QE) (a n : Nat) (f : Nat → Int32) (x : Int32) (hn : n ≤ 1000) (sz : Nat) : Met l y_Ja_fill (qws y_Ja_fill prog_14_method_103_code 4 none) (qRm 1) (va_Pc [.ref a, .int x] (qFP E a n f sz)) (qFQ E a n f sz (fun j => if j < n then x else f j)) 0 0 (va_A [(a, .inl (eC E 0, n, .inl f))] sz) := by
  refine Met.ofW (cc := prog_14_method_103_code) (maxL := 4) (ret := none) (by decide) rfl ?_
  intro p e s m args below meth c s₁ B hml hv
  obtain ⟨rfl, hsz, hP, hK, hD0⟩ := hv
  subst hsz
  rw [lg_entry_eq]
  have hl := lv_entry ([.ref a, .int x]) (n := 4) (Nat.le_of_ble_eq_true rfl)
  generalize (lg_sl ([.ref a, .int x]) ++ List.replicate (4 - (lg_sl ([.ref a, .int x])).length) Slot.unset).toArray = ls at hl ⊢
  have hl : lv_has ls 4 [(0, .ref a), (1, .int x)] := hl
  have hD := hD0.self (sz := s.heap.size)
  have hx := B.exec
  have hb := B.bytes
  have hS : va_S (va_A [(a, .inl (eC E 0, n, .inl f))] s.heap.size) s.heap s.heap [] := va_S.rf
  refine lv_iconst (v := nI 0) hx hb d_Ja_fill_0 (by decide) ?_
  refine lv_istore_n (lv' := [(2, .int (nI 0)), (0, .ref a), (1, .int x)]) hx hb d_Ja_fill_1 rfl hl (by decide) rfl (fun ls hl => ?_)
  refine lv_aload_n hx hb d_Ja_fill_2 rfl (lv_at hl 1 rfl) ?_
  refine va_alen (v := nI n) hx hb hK hP 0 0 (by rfl) (by rfl) (by rfl) d_Ja_fill_3 ?_
  refine lv_istore_n (lv' := [(3, .int (nI n)), (2, .int (nI 0)), (0, .ref a), (1, .int x)]) hx hb d_Ja_fill_4 rfl hl (by decide) rfl (fun ls hl => ?_)
  have loop5 : ∀ (fu5 i : Nat) (g : Nat → Int32), i ≤ n → (∀ j, g j = if j < i then x else f j) → n - i < fu5 → ∀ (H : Heap) (locs : List Loc) (ls : Array Slot), va_P (eG E) vwC [(a, .inl (eC E 0, n, .inl g))] H → va_D (va_A [(a, .inl (eC E 0, n, .inl f))] s.heap.size) [(a, .inl (eC E 0, n, .inl g))] → va_S (va_A [(a, .inl (eC E 0, n, .inl f))] s.heap.size) s.heap H locs → lv_has ls 4 [(3, .int (nI n)), (2, .int (nI i)), (0, .ref a), (1, .int x)] →
      W p l e (qRm 1) s m #[.ref a, .int x] below meth c H locs 0 0 (MQ below (qFQ E a n f s.heap.size (fun j => if j < n then x else f j)) #[.ref a, .int x] s 0 0 (va_A [(a, .inl (eC E 0, n, .inl f))] s.heap.size)) (F0 m 5 ls []) := by
    intro fu5
    induction fu5 with
    | zero =>
      intro i g hi hg hfu
      exact absurd hfu (Nat.not_lt_zero _)
    | succ fu5 ih5 =>
      intro i g hi hg hfu H locs ls hP hD hS hl
      refine lv_iload_n hx hb d_Ja_fill_5 rfl (lv_at hl 1 rfl) ?_
      refine lv_iload_n hx hb d_Ja_fill_6 rfl (lv_at hl 0 rfl) ?_
      refine lv_icmp_ge (tgt := 20) hx hb d_Ja_fill_7 (by decide) (fun c7 => ?_) (fun c7 => ?_)
      · have c7 : n ≤ i := (nI_leI (a := n) (b := i) (by omega) (by omega)).mp c7
        refine W.vret hx hb B.returns (fun t ht hW => ⟨⟨_, rfl, rfl, ?_, ?_⟩, hS.F ht⟩) hS.2.2 d_Ja_fill_20 B.notSynchronized
        · have e : g = (fun j => if j < n then x else f j) := by
            funext j
            rw [hg, show i = n by omega]
          rw [ht, ← e]
          exact hP
        · exact hD.set (p := 0) (a := a) (e0 := .inl (eC E 0, n, .inl g)) (e := .inl (eC E 0, n, .inl (fun j => if j < n then x else f j))) rfl
      · have c7 : ¬ n ≤ i := fun z => c7 ((nI_leI (a := n) (b := i) (by omega) (by omega)).mpr z)
        refine lv_aload_n hx hb d_Ja_fill_10 rfl (lv_at hl 2 rfl) ?_
        refine lv_iload_n hx hb d_Ja_fill_11 rfl (lv_at hl 1 rfl) ?_
        refine lv_iload_n hx hb d_Ja_fill_12 rfl (lv_at hl 3 rfl) ?_
        refine va_iast hx hb hK hP hD hS 0 0 rfl rfl (qvin (n := n) (by omega) (by omega)) d_Ja_fill_13 (fun H locs hP hD hS => ?_)
        rw [nI_clamp (by omega)] at hP hD
        refine lv_iinc (v := nI (i + 1)) (lv' := [(2, .int (nI (i + 1))), (3, .int (nI n)), (0, .ref a), (1, .int x)]) hx hb d_Ja_fill_14 hl (k := 1) rfl (by rw [show Int32.ofInt 1 = nI 1 from by decide, nI_add]) (by decide) rfl (fun ls hl => ?_)
        refine lv_goto (tgt := 5) hx hb d_Ja_fill_17 (by decide) ?_
        refine ih5 (i + 1) (upd g i x) (by omega) (fun j => ?_) (by omega) _ _ _ hP hD hS (lv_sub hl [1, 0, 2, 3] rfl)
        by_cases z : j = i
        · rw [z, upd_at, if_pos (by omega)]
        · rw [upN z, hg]
          by_cases y : j < i
          · rw [if_pos y, if_pos (by omega)]
          · rw [if_neg y, if_neg (by omega)]
  exact loop5 (n - 0 + 1) 0 f (by omega) (fun j => by rw [if_neg (by omega)]) (Nat.lt_succ_self _) _ _ _ hP hD hS (lv_sub hl [0, 1, 2, 3] rfl)
