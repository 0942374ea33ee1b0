section QN3
variable {p : Program} {l : Launch} {e : Env} {R : Room} {s : State} {m : MethodId} {args : Array Value} {below : List Frame} {meth : Method} {c : Code} {H : Heap} {locs : List Loc} {cells slots : Nat} {Q : State → Prop}
variable {cc : ByteArray} {nL : Nat} {rt : Option FieldType} {own : String} {pc : Nat} {ls : Array Slot} {rest : List Value} {E : QE} {A : Nat → Prop} {ws : va_W}
theorem qN_range {α : Type} (ws : List α) (x : α) : (List.range ws.length).map (fun i => (ws ++ [x])[i]?) = ws.map some := by
  apply List.ext_getElem?
  intro k
  rw [List.getElem?_map, List.getElem?_map]
  by_cases hk : k < ws.length
  · rw [List.getElem?_range hk, List.getElem?_eq_getElem hk]
    show some ((ws ++ [x])[k]?) = _
    rw [List.getElem?_append_left hk, List.getElem?_eq_getElem hk]
    rfl
  · rw [List.getElem?_eq_none (by rw [List.length_range]; omega), List.getElem?_eq_none (by omega)]
    rfl
theorem qN_fill (X : qXc E A p s m args meth c cc nL rt own) {a n index : Nat} {f : Nat → Int32} {x : Int32} (hn : n ≤ 1000) (hP : va_P (eG E) vwC (ws ++ [(a, .inl (eC E 0, n, .inl f))]) H) (hD : va_D A (ws ++ [(a, .inl (eC E 0, n, .inl f))])) (hS : va_S A s.heap H locs) (hl : Cond.methodLink own index y_Ja_fill ∈ qTB) (hR : 1 + 1 ≤ R.frames ∧ 8 + (4 + 11) + 39 * 1 ≤ R.locals) (hls : ls.size = nL) (hrest : (rest.map fun v => v.category).sum ≤ 8) (hf : cells ≤ R.cells ∧ slots ≤ R.slots) (hdg : decode cc pc = .ok (.invokestatic index, 3))
    (kk : ∀ (H : Heap) (locs : List Loc), va_P (eG E) vwC (ws ++ [(a, .inl (eC E 0, n, .inl (fun j => if j < n then x else f j)))]) H → va_D A (ws ++ [(a, .inl (eC E 0, n, .inl (fun j => if j < n then x else f j)))]) → va_S A s.heap H locs → W p l e R s m args below meth c H locs cells slots Q (F0 m (pc + 3) ls rest)) :
    W p l e R s m args below meth c H locs cells slots Q (F0 m pc ls (.int x :: .ref a :: rest)) := by
  have hz : (ws ++ [(a, (.inl (eC E 0, n, .inl f) : va_E))])[ws.length]? = some (a, .inl (eC E 0, n, .inl f)) := by rw [List.getElem?_append_right (Nat.le_refl _), Nat.sub_self]; rfl
  have hPc : va_P (eG E) vwC [(a, .inl (eC E 0, n, .inl f))] H := hP.sub [ws.length] (by rw [List.filterMap_cons, hz]; rfl)
  have hDc : va_D A [(a, .inl (eC E 0, n, .inl f))] := hD.sub [ws.length] rfl (by rw [List.map_cons, hz]; rfl)
  have hFc := va_free (wc := [(a, .inl (eC E 0, n, .inl f))]) hD hS X.Af [ws.length] (by rw [List.map_cons, hz]; rfl)
  refine va_callv (va_runS (As := [.ref a, .int x]) (rest := rest) (Ts := qTB) ⟨X.x, X.b, X.ml, X.ow, X.ts⟩ (c_Ja_fillW l E a n f x hn H.size) ⟨callB_of 2 X.ts (qTB_code ok_Ja_fill.1.1) rfl rfl rfl (X.ts _ ok_Ja_fill.1.2.1) (X.ts _ hl) ok_Ja_fill.1.2.2 hR, X.ts _ ok_Ja_fill.2⟩ ⟨?_, fun U hU hw => ⟨rfl, by rw [hU], by rw [hU]; exact hPc, va_K.moved hw.alike X.K, hDc.weaken (fun _ _ _ _ => trivial)⟩⟩ rfl rfl hls rfl (lv_room hrest) hdg hf) hS (fun q _ h => hFc q h) hFc (fun u t H1 locs1 ht hvm hw hB hz1 hk1 hS => ?_)
  · intro a U g mk h
    obtain ⟨h0, h1, h2, h3, h4⟩ := h
    exact ⟨h0, h1, h2, va_K.moved (u := U) (U := U.calling g mk a) (Vm.Alike.refl U.vm) h3, h4⟩
  obtain ⟨hP1, hD1⟩ := hB
  rw [ht] at hP1
  obtain ⟨hP, hD⟩ := va_join (wc := [(a, .inl (eC E 0, n, .inl f))]) (wr := ws) (w1 := u) hP hD [ws.length] (List.range ws.length) (by rw [List.map_cons, hz]; rfl) (qN_range _ _) (qnd _) (fun i hi => by have := List.mem_range.mp hi; simp; omega) hk1 hFc hP1 hD1
  rw [hw] at hP hD
  exact kk H1 locs1 hP hD hS
end QN3
def cmL (E : QE) (a l t w z : Nat) : va_W := [(a, .inr (0, [.ref l, .ref t, .ref w, .ref z, .int (nI 0), .int (nI 0), .int (nI 0), .int (nI 1)]))] ++ [(l, .inl (eC E 0, 6, .inl (fun _ => 0)))] ++ qMW E t 8 3 ++ qMW E w 6 6 ++ [(z, .inl (eC E 0, 10, .inl (fun j => if j < 10 then (-1) else 0)))]
def shL (E : QE) (a n : Nat) : va_W := [(a, .inr (1, [.ref n, .int (nI 0), .int (nI 0)]))] ++ [(n, .inl (eC E 0, 40, .inl (fun _ => 0)))]
def tpL (E : QE) (a n : Nat) : va_W := [(a, .inr (2, [.ref n, .int (nI 0), .int (nI 0), .int (nI 0), .int (nI 0), .int (nI 0)]))] ++ [(n, .inl (eC E 0, 120, .inl (fun _ => 0)))]
