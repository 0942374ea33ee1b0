def qr (S : QM) (i : Nat) (r : Nat → Int32) : QM := fun a => if a = i then r else S a
theorem qr_at {S : QM} {i : Nat} {r : Nat → Int32} : qr S i r i = r := by simp [qr]
theorem qr_ne {S : QM} {i a : Nat} {r : Nat → Int32} (h : ¬ a = i) : qr S i r a = S a := by simp [qr, h]
theorem qr_qr {S : QM} {i : Nat} {r u : Nat → Int32} : qr (qr S i r) i u = qr S i u := by
  funext a
  by_cases h : a = i <;> simp [qr, h]
theorem qr_in {S : QM} {i j : Nat} {r u v : Nat → Int32} (h : ¬ j = i) : qr (qr (qr S i r) j u) i v = qr (qr S i v) j u := by
  funext a
  by_cases h1 : a = i
  · subst h1
    simp [qr, Ne.symm h]
  · by_cases h2 : a = j
    · subst h2
      simp [qr, h]
    · simp [qr, h1, h2]
theorem qr_sw {S : QM} {i j : Nat} {r u : Nat → Int32} (h : ¬ j = i) : qr (qr S i r) j u = qr (qr S j u) i r := by
  funext a
  by_cases h1 : a = i
  · subst h1
    simp [qr, Ne.symm h]
  · by_cases h2 : a = j
    · subst h2
      simp [qr, h]
    · simp [qr, h1, h2]
theorem qr_self {S : QM} {i : Nat} : qr S i (S i) = S := by
  funext a
  by_cases h : a = i
  · subst h
    simp [qr]
  · simp [qr, h]
theorem qst_qr {S : QM} {i j : Nat} {v : Int32} : qst S i j v = qr S i (upd (S i) j v) := by
  funext a
  by_cases h : a = i
  · subst h
    simp [qst, qr]
  · simp [qst, qr, h]
theorem upd_at {f : Nat → Int32} {k : Nat} {x : Int32} : upd f k x k = x := by simp [upd]
theorem upd_ne {f : Nat → Int32} {k j : Nat} {x : Int32} (h : ¬ j = k) : upd f k x j = f j := by simp [upd, h]
theorem q_tn {o j p : Nat} (h : j < 2147483648) (e : o + j = p) : o + (nI j).toNatClampNeg = p := by
  rw [nI_clamp (by omega)]
  exact e
theorem q_in {j n : Nat} (h : j < n) (hn : n < 2147483648) : vp_in (nI j) n := vp_in_nI h (by omega)
def b2i (P : Prop) [Decidable P] : Int32 := if P then nI 1 else nI 0
theorem b2i_t {P : Prop} [Decidable P] (h : P) : b2i P = nI 1 := if_pos h
theorem b2i_f {P : Prop} [Decidable P] (h : ¬ P) : b2i P = nI 0 := if_neg h
theorem b2i_e {P : Prop} [Decidable P] (h : b2i P = 0) : ¬ P := by
  intro hp
  rw [b2i_t hp] at h
  exact absurd h (by decide)
theorem b2i_n {P : Prop} [Decidable P] (h : ¬ b2i P = 0) : P := by
  by_cases hp : P
  · exact hp
  · exact absurd (b2i_f hp) h
theorem b2i_z {P : Prop} [Decidable P] : narrow .boolean (.int (b2i P)) = .int (b2i P) := by
  by_cases hp : P
  · rw [b2i_t hp]; rfl
  · rw [b2i_f hp]; rfl
theorem b2i_zf {P : Prop} [Decidable P] : fits .boolean (.int (b2i P)) = true := by
  by_cases hp : P
  · rw [b2i_t hp]; rfl
  · rw [b2i_f hp]; rfl
theorem b2i_c {P P' : Prop} [Decidable P] [Decidable P'] (h : P ↔ P') : b2i P = b2i P' := by
  by_cases hp : P
  · rw [b2i_t hp, b2i_t (h.mp hp)]
  · rw [b2i_f hp, b2i_f (fun z => hp (h.mpr z))]
section GR
variable {p : Program} {l : Launch} {e : Env} {R : Room} {s : State} {m : MethodId} {args : Array Value} {below : List Frame} {meth : Method} {c : Code} {H : Heap} {locs : List Loc} {cells slots : Nat} {Q : State → Prop}
variable {cc : ByteArray} {nL : Nat} {rt : Option FieldType} {own : String} {pc : Nat} {ls : Array Slot} {rest : List Value} {E : QE} {S : QM}
theorem g_geti (X : qX E p s m args meth c cc nL rt own) (hW : qWH E S s H locs) {C : String} {T : u_T} {N ci index : Nat} (hin : ∀ w ∈ u_ws C T N, w ∈ qTB) (hc : vwC[ci]? = some (C, T, N)) (c0 : Nat) {fs : List (Nat ⊕ (Nat × Nat))} (hd : dsT[c0]? = some (.inr (.inl (ci, fs)))) (k : Nat) (hk : k < N) (hlink : Cond.fieldLink own index C (T k).2.1 (T k).2.2.1 ∈ qTB) (hT : (T k).1 = C) {r0 p0 : Nat} (hf : fs[k]? = some (.inr (r0, p0))) {v : Int32} (hv : S r0 p0 = v) (hdg : decode cc pc = .ok (.getfield index, 3))
    (kk : W p l e R s m args below meth c H locs cells slots Q (F0 m (pc + 3) ls (.int v :: rest))) : W p l e R s m args below meth c H locs cells slots Q (F0 m pc ls (.ref (eA E c0) :: rest)) := by
  subst hv
  exact q_geti X hW hin hc c0 hd k hk hlink hT hf hdg kk
theorem g_puti (X : qX E p s m args meth c cc nL rt own) (hW : qWH E S s H locs) {C : String} {T : u_T} {N ci index : Nat} {ty0 : Nat → FieldType} (hin : ∀ w ∈ u_ws C T N, w ∈ qTB) (hty : ∀ k, k < N → parseFieldDescriptor (T k).2.2.1 = some (ty0 k)) (hnm : ∀ a, a < N → ∀ b, b < N → a ≠ b → (T a).2.1 ≠ (T b).2.1) (hc : vwC[ci]? = some (C, T, N)) (c0 : Nat) {fs : List (Nat ⊕ (Nat × Nat))} (hd : dsT[c0]? = some (.inr (.inl (ci, fs)))) (k : Nat) (hk : k < N) (hlink : Cond.fieldLink own index C (T k).2.1 (T k).2.2.1 ∈ qTB) (hT : (T k).1 = C) (hfin : (T k).2.2.2 = false) {r0 p0 : Nat} (hf : fs[k]? = some (.inr (r0, p0))) {v : Int32} (hn : narrow (ty0 k) (.int v) = .int v) (hfit : fits (ty0 k) (.int v) = true) {ρ : Nat → Int32} (hr : S r0 = ρ) (hdg : decode cc pc = .ok (.putfield index, 3))
    (kk : ∀ (H : Heap) (locs : List Loc), qWH E (qr S r0 (upd ρ p0 v)) s H locs → W p l e R s m args below meth c H locs cells slots Q (F0 m (pc + 3) ls rest)) : W p l e R s m args below meth c H locs cells slots Q (F0 m pc ls (.int v :: .ref (eA E c0) :: rest)) := by
  subst hr
  refine q_puti X hW hin hty hnm hc c0 hd k hk hlink hT hfin hf hn hfit hdg (fun H locs h => ?_)
  rw [qst_qr] at h
  exact kk H locs h
theorem g_ald (X : qX E p s m args meth c cc nL rt own) (hW : qWH E S s H locs) {c0 r0 o n : Nat} (hd : dsT[c0]? = some (.inl (r0, (o, n)))) {i : Int32} (hin : vp_in i n) {p0 : Nat} (hp : o + i.toNatClampNeg = p0) {v : Int32} (hv : S r0 p0 = v) (hdg : decode cc pc = .ok (.iaload, 1))
    (kk : W p l e R s m args below meth c H locs cells slots Q (F0 m (pc + 1) ls (.int v :: rest))) : W p l e R s m args below meth c H locs cells slots Q (F0 m pc ls (.int i :: .ref (eA E c0) :: rest)) := by
  subst hv
  subst hp
  exact q_ald X hW c0 hd hin hdg kk
theorem g_ast (X : qX E p s m args meth c cc nL rt own) (hW : qWH E S s H locs) {c0 r0 o n : Nat} (hd : dsT[c0]? = some (.inl (r0, (o, n)))) {i v : Int32} (hin : vp_in i n) {p0 : Nat} (hp : o + i.toNatClampNeg = p0) {ρ : Nat → Int32} (hr : S r0 = ρ) (hdg : decode cc pc = .ok (.iastore, 1))
    (kk : ∀ (H : Heap) (locs : List Loc), qWH E (qr S r0 (upd ρ p0 v)) s H locs → W p l e R s m args below meth c H locs cells slots Q (F0 m (pc + 1) ls rest)) : W p l e R s m args below meth c H locs cells slots Q (F0 m pc ls (.int v :: .int i :: .ref (eA E c0) :: rest)) := by
  subst hr
  subst hp
  refine q_ast X hW c0 hd hin hdg (fun H locs h => ?_)
  rw [qst_qr] at h
  exact kk H locs h
theorem g_zald (X : qX E p s m args meth c cc nL rt own) (hW : qWH E S s H locs) {C n : String} {t : Nat} {zl : List Int32} (hZ : qZt C n t zl (qAA E s.heap.size) s s.heap) {i : Int32} (hin : vp_in i zl.length) {p0 : Nat} (hp : 0 + i.toNatClampNeg = p0) (hdg : decode cc pc = .ok (.iaload, 1))
    (kk : W p l e R s m args below meth c H locs cells slots Q (F0 m (pc + 1) ls (.int (zl.getD p0 0) :: rest))) : W p l e R s m args below meth c H locs cells slots Q (F0 m pc ls (.int i :: .ref t :: rest)) := by
  subst hp
  refine q_zald X hW hZ hin hdg ?_
  rw [Nat.zero_add] at kk
  exact kk
theorem g_aaq (X : qX E p s m args meth c cc nL rt own) (hW : qWH E S s H locs) {c0 : Nat} {r : Nat × List Nat} (hd : dsT[c0]? = some (.inr (.inr r))) {ty : FieldType} (ht : (qTy E)[r.1]? = some (eC E r.1, ty)) (hty : ty.isReference = true) (h3 : ¬ r.1 = 3) {i : Int32} {c1 j : Nat} (hin : vp_in i r.2.length) (hj : 0 + i.toNatClampNeg = j) (h1 : r.2[j]? = some c1) (hdg : decode cc pc = .ok (.aaload, 1))
    (kk : W p l e R s m args below meth c H locs cells slots Q (F0 m (pc + 1) ls (.ref (eA E c1) :: rest))) : W p l e R s m args below meth c H locs cells slots Q (F0 m pc ls (.int i :: .ref (eA E c0) :: rest)) := by
  subst hj
  rw [Nat.zero_add] at h1
  exact q_aaq X hW c0 hd ht hty hin h1 (by rw [if_neg h3]) hdg kk
end GR
/-! the layout at a common k, a thing t, a walker w, a sheet j -/
abbrev cB (k : Nat) : Nat := 1 + 19 * k
theorem ds_cm {k : Nat} (hk : k < 3) : dsT[cB k]? = some (.inr (.inl (0, [.inl (cB k + 1), .inl (cB k + 2), .inl (cB k + 3), .inl (cB k + 4), .inr (k, 1), .inr (k, 3), .inr (k, 0), .inr (k, 2)]))) := by
  rcases (show k = 0 ∨ k = 1 ∨ k = 2 by omega) with rfl | rfl | rfl <;> rfl
theorem ds_ls {k : Nat} (hk : k < 3) : dsT[cB k + 1]? = some (.inl (k, (4, 6))) := by
  rcases (show k = 0 ∨ k = 1 ∨ k = 2 by omega) with rfl | rfl | rfl <;> rfl
def cTs (k : Nat) : List Nat := [cB k + 5, cB k + 6, cB k + 7, cB k + 8, cB k + 9, cB k + 10, cB k + 11, cB k + 12]
def cWs (k : Nat) : List Nat := [cB k + 13, cB k + 14, cB k + 15, cB k + 16, cB k + 17, cB k + 18]
theorem ds_th {k : Nat} (hk : k < 3) : dsT[cB k + 2]? = some (.inr (.inr (2, cTs k))) := by
  rcases (show k = 0 ∨ k = 1 ∨ k = 2 by omega) with rfl | rfl | rfl <;> rfl
theorem ds_wk {k : Nat} (hk : k < 3) : dsT[cB k + 3]? = some (.inr (.inr (2, cWs k))) := by
  rcases (show k = 0 ∨ k = 1 ∨ k = 2 by omega) with rfl | rfl | rfl <;> rfl
theorem ds_sp {k : Nat} (hk : k < 3) : dsT[cB k + 4]? = some (.inl (k, (10, 10))) := by
  rcases (show k = 0 ∨ k = 1 ∨ k = 2 by omega) with rfl | rfl | rfl <;> rfl
theorem cTs_at {k t : Nat} (ht : t < 8) : (cTs k)[t]? = some (cB k + 5 + t) := by
  rcases (show t = 0 ∨ t = 1 ∨ t = 2 ∨ t = 3 ∨ t = 4 ∨ t = 5 ∨ t = 6 ∨ t = 7 by omega) with rfl | rfl | rfl | rfl | rfl | rfl | rfl | rfl <;> rfl
theorem cWs_at {k w : Nat} (hw : w < 6) : (cWs k)[w]? = some (cB k + 13 + w) := by
  rcases (show w = 0 ∨ w = 1 ∨ w = 2 ∨ w = 3 ∨ w = 4 ∨ w = 5 by omega) with rfl | rfl | rfl | rfl | rfl | rfl <;> rfl
theorem ds_tB : ∀ k, k < 3 → ∀ t, t < 8 → dsT[cB k + 5 + t]? = some (.inl (k, (20 + 3 * t, 3))) := by
  intro k hk t ht
  rcases (show k = 0 ∨ k = 1 ∨ k = 2 by omega) with rfl | rfl | rfl <;> rcases (show t = 0 ∨ t = 1 ∨ t = 2 ∨ t = 3 ∨ t = 4 ∨ t = 5 ∨ t = 6 ∨ t = 7 by omega) with rfl | rfl | rfl | rfl | rfl | rfl | rfl | rfl <;> rfl
theorem ds_wB : ∀ k, k < 3 → ∀ w, w < 6 → dsT[cB k + 13 + w]? = some (.inl (k, (44 + 6 * w, 6))) := by
  intro k hk t ht
  rcases (show k = 0 ∨ k = 1 ∨ k = 2 by omega) with rfl | rfl | rfl <;> rcases (show t = 0 ∨ t = 1 ∨ t = 2 ∨ t = 3 ∨ t = 4 ∨ t = 5 by omega) with rfl | rfl | rfl | rfl | rfl | rfl <;> rfl
theorem ds_t {k t : Nat} (hk : k < 3) (ht : t < 8) : dsT[cB k + 5 + t]? = some (.inl (k, (20 + 3 * t, 3))) := ds_tB k hk t ht
theorem ds_w {k w : Nat} (hk : k < 3) (hw : w < 6) : dsT[cB k + 13 + w]? = some (.inl (k, (44 + 6 * w, 6))) := ds_wB k hk w hw
theorem ds_X : dsT[0]? = some (.inr (.inl (3, [.inl 1, .inl 20, .inl 39, .inr (3, 3), .inl 58, .inl 60, .inl 69]))) := rfl
theorem ds_T : dsT[58]? = some (.inr (.inl (2, [.inl 59, .inr (4, 1), .inr (4, 2), .inr (4, 3), .inr (4, 4), .inr (4, 5)]))) := rfl
theorem ds_tb : dsT[59]? = some (.inl (5, (0, 120))) := rfl
theorem ds_ss : dsT[60]? = some (.inr (.inr (1, [61, 62, 63, 64]))) := rfl
theorem ss_at {j : Nat} (h : j < 4) : ([61, 62, 63, 64] : List Nat)[j]? = some (61 + j) := by
  rcases (show j = 0 ∨ j = 1 ∨ j = 2 ∨ j = 3 by omega) with rfl | rfl | rfl | rfl <;> rfl
theorem ds_sB : ∀ j, j < 4 → dsT[61 + j]? = some (.inr (.inl (1, [.inl (65 + j), .inr (6 + j, 1), .inr (6 + j, 2)]))) := by
  intro j hj
  rcases (show j = 0 ∨ j = 1 ∨ j = 2 ∨ j = 3 by omega) with rfl | rfl | rfl | rfl <;> rfl
theorem ds_nB : ∀ j, j < 4 → dsT[65 + j]? = some (.inl (10 + j, (0, 40))) := by
  intro j hj
  rcases (show j = 0 ∨ j = 1 ∨ j = 2 ∨ j = 3 by omega) with rfl | rfl | rfl | rfl <;> rfl
theorem ds_s {j : Nat} (h : j < 4) : dsT[61 + j]? = some (.inr (.inl (1, [.inl (65 + j), .inr (6 + j, 1), .inr (6 + j, 2)]))) := ds_sB j h
theorem ds_n {j : Nat} (h : j < 4) : dsT[65 + j]? = some (.inl (10 + j, (0, 40))) := ds_nB j h
theorem ds_f : dsT[69]? = some (.inl (14, (0, 7))) := rfl
theorem ds_R : dsT[70]? = some (.inr (.inl (4, [.inl 71, .inl 72, .inl 73, .inr (15, 3), .inl 74, .inl 75, .inr (15, 6), .inr (15, 7), .inr (15, 8), .inr (15, 9), .inr (15, 10), .inr (15, 11), .inl 76, .inl 77, .inr (15, 14), .inr (15, 15), .inr (15, 16), .inl 78, .inl 79, .inl 80, .inl 81]))) := rfl
theorem ds_71 : dsT[71]? = some (.inl (16, (0, 80))) := rfl
theorem ds_72 : dsT[72]? = some (.inl (17, (0, 80))) := rfl
theorem ds_73 : dsT[73]? = some (.inl (18, (0, 80))) := rfl
theorem ds_74 : dsT[74]? = some (.inl (19, (0, 8))) := rfl
theorem ds_75 : dsT[75]? = some (.inl (20, (0, 120))) := rfl
theorem ds_76 : dsT[76]? = some (.inr (.inr (3, [0, 1, 2, 3, 4, 5, 6]))) := rfl
theorem ds_77 : dsT[77]? = some (.inl (21, (0, 600))) := rfl
theorem ds_78 : dsT[78]? = some (.inl (22, (0, 4))) := rfl
theorem ds_79 : dsT[79]? = some (.inl (23, (0, 4))) := rfl
theorem ds_80 : dsT[80]? = some (.inl (24, (0, 160))) := rfl
theorem ds_81 : dsT[81]? = some (.inl (25, (0, 40))) := rfl
section GT
variable {p : Program} {l : Launch} {e : Env} {R : Room} {s : State} {m : MethodId} {args : Array Value} {below : List Frame} {meth : Method} {c : Code} {H : Heap} {locs : List Loc} {cells slots : Nat} {Q : State → Prop}
variable {cc : ByteArray} {nL : Nat} {rt : Option FieldType} {own : String} {pc : Nat} {ls : Array Slot} {rest : List Value} {E : QE} {S : QM}
theorem g_th {k t : Nat} (hk : k < 3) (X : qX E p s m args meth c cc nL rt own) (hW : qWH E S s H locs) (ht : t < 8) (hdg : decode cc pc = .ok (.aaload, 1))
    (kk : W p l e R s m args below meth c H locs cells slots Q (F0 m (pc + 1) ls (.ref (eA E (cB k + 5 + t)) :: rest))) : W p l e R s m args below meth c H locs cells slots Q (F0 m pc ls (.int (nI t) :: .ref (eA E (cB k + 2)) :: rest)) :=
  g_aaq X hW (ds_th hk) (ty := .array .int) rfl rfl (show ¬ (2 : Nat) = 3 by decide) (show vp_in (nI t) 8 from q_in ht (by decide)) (q_tn (by omega) (Nat.zero_add _)) (cTs_at ht) hdg kk
theorem g_wk {k t : Nat} (hk : k < 3) (X : qX E p s m args meth c cc nL rt own) (hW : qWH E S s H locs) (ht : t < 6) (hdg : decode cc pc = .ok (.aaload, 1))
    (kk : W p l e R s m args below meth c H locs cells slots Q (F0 m (pc + 1) ls (.ref (eA E (cB k + 13 + t)) :: rest))) : W p l e R s m args below meth c H locs cells slots Q (F0 m pc ls (.int (nI t) :: .ref (eA E (cB k + 3)) :: rest)) :=
  g_aaq X hW (ds_wk hk) (ty := .array .int) rfl rfl (show ¬ (2 : Nat) = 3 by decide) (show vp_in (nI t) 6 from q_in ht (by decide)) (q_tn (by omega) (Nat.zero_add _)) (cWs_at ht) hdg kk
theorem g_ss {t : Nat} (X : qX E p s m args meth c cc nL rt own) (hW : qWH E S s H locs) (ht : t < 4) (hdg : decode cc pc = .ok (.aaload, 1))
    (kk : W p l e R s m args below meth c H locs cells slots Q (F0 m (pc + 1) ls (.ref (eA E (61 + t)) :: rest))) : W p l e R s m args below meth c H locs cells slots Q (F0 m pc ls (.int (nI t) :: .ref (eA E 60) :: rest)) :=
  g_aaq X hW ds_ss (ty := .object "CarelessMist$Sheet") rfl rfl (show ¬ (1 : Nat) = 3 by decide) (show vp_in (nI t) 4 from q_in ht (by decide)) (q_tn (by omega) (Nat.zero_add _)) (ss_at ht) hdg kk
theorem q_kn {t : Nat} (X : qX E p s m args meth c cc nL rt own) (hW : qWH E S s H locs) (ht : t < 7) (hdg : decode cc pc = .ok (.aaload, 1))
    (kk : W p l e R s m args below meth c H locs cells slots Q (F0 m (pc + 1) ls (.ref (eK E t) :: rest))) : W p l e R s m args below meth c H locs cells slots Q (F0 m pc ls (.int (nI t) :: .ref (eA E 76) :: rest)) := by
  refine q_aaq X hW 76 ds_76 (ty := .object "java/lang/String") rfl rfl (c1 := t) (show vp_in (nI t) 7 from q_in ht (by decide)) ?_ (a1 := eK E t) (by rw [if_pos rfl]) hdg kk
  rw [nI_clamp (by omega)]
  rcases (show t = 0 ∨ t = 1 ∨ t = 2 ∨ t = 3 ∨ t = 4 ∨ t = 5 ∨ t = 6 by omega) with rfl | rfl | rfl | rfl | rfl | rfl | rfl <;> rfl
theorem q_ldcsW (X : qX E p s m args meth c cc nL rt own) {tx : String} {index i : Nat} (h : (own, index, tx, i) ∈ strT) (hdg : decode cc pc = .ok (.ldc_w index, 3))
    (kk : W p l e R s m args below meth c H locs cells slots Q (F0 m (pc + 3) ls (.ref (eK E i) :: rest))) : W p l e R s m args below meth c H locs cells slots Q (F0 m pc ls rest) := by
  have hZ := X.Z.2.2.2.2.2.2.1 _ h
  intro T hT Xs
  obtain ⟨t, a1, b1⟩ := kk T hT Xs
  obtain ⟨k, cf, i', a', hk, hcf, hcp, -, hr, hev'⟩ := Cond.stringRef_spec X.ow hZ.1
  cases hZ.2.symm.trans hev'
  obtain ⟨k', hk', he⟩ := Xs.warmed.alike.2.2 _ _ hk
  have hr' : k'.resolved[index]? = some (some (.string (eK E i))) := by
    rcases Xs.warmed.entry hk hk' index with h | ⟨h, -⟩
    · rw [h]; exact hr
    · rw [hr] at h; cases h
  refine ⟨t, ?_, b1⟩
  jvm_step Xs.here [X.x, X.b, hdg, ldc_w.wp_string (e := e) (s := T) (f := F0 m pc ls rest) Xs.here.top hk' (by rw [he]; exact hcf) hcp hr']
  exact a1
theorem g_copy (X : qX E p s m args meth c cc nL rt own) (hls : ls.size = nL) (hW : qWH E S s H locs) {index : Nat} (hlink : Cond.methodLink own index arraycopyName ∈ qTB) (hnat : Cond.native arraycopyName ∈ qTB) (hstat : Cond.static arraycopyName ∈ qTB) (hini : Cond.initialized "java/lang/System" ∈ qTB) {c0 c1 r0 o0 n0 r1 o1 n1 : Nat} (hd0 : dsT[c0]? = some (.inl (r0, (o0, n0)))) (hd1 : dsT[c1]? = some (.inl (r1, (o1, n1))))
    {sp dp n : Nat} (h1 : sp < 2147483648) (h2 : dp < 2147483648) (h3 : n < 2147483648) (h4 : sp + n ≤ n0) (h5 : dp + n ≤ n1) (hframes : 1 ≤ R.frames) (hlocals : (rest.map fun v => v.category).sum + (nativeFrameWords "java/lang/System" "arraycopy" 5 + 11) ≤ R.locals) (hdg : decode cc pc = .ok (.invokestatic index, 3))
    (kk : ∀ (H : Heap) (locs : List Loc), qWH E (qcp S r0 (o0 + sp) r1 (o1 + dp) n) s H locs → W p l e R s m args below meth c H locs cells slots Q (F0 m (pc + 3) ls rest)) : W p l e R s m args below meth c H locs cells slots Q (F0 m pc ls (.int (nI n) :: .int (nI dp) :: .ref (eA E c1) :: .int (nI sp) :: .ref (eA E c0) :: rest)) := by
  have e1 : (nI sp).toNatClampNeg = sp := nI_clamp (by omega)
  have e2 : (nI dp).toNatClampNeg = dp := nI_clamp (by omega)
  have e3 : (nI n).toNatClampNeg = n := nI_clamp (by omega)
  refine q_copy X hls hW hlink hnat hstat hini c0 c1 hd0 hd1 (nI_pos (by omega)) (nI_pos (by omega)) (nI_pos (by omega)) (by rw [e1, e3]; exact h4) (by rw [e2, e3]; exact h5) hframes hlocals hdg (fun H locs h => ?_)
  rw [e1, e2, e3] at h
  exact kk H locs h
end GT
def cpy (f : Nat → Int32) (o : Nat) (g : Nat → Int32) (q n : Nat) : Nat → Int32 := fun p => if q ≤ p ∧ p < q + n then f (o + (p - q)) else g p
theorem qcp_qr {S : QM} {r0 o0 r1 o1 n : Nat} : qcp S r0 o0 r1 o1 n = qr S r1 (cpy (S r0) o0 (S r1) o1 n) := by
  funext a p
  unfold qcp qr cpy
  by_cases h : a = r1
  · subst h
    simp
  · rw [if_neg h, if_neg h]
