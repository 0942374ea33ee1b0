/-! the joint invariant of both sides -/
def Ja (S : QM) : Prop := WF (S 0) ∧ WF (S 16) ∧ eqv (S 0) (S 16)
def Jb (S : QM) : Prop := WF (S 2)
def Jk (S : QM) : Prop := S 3 3 = S 15 3 ∧ (¬ S 15 3 = 0 → WF (S 1) ∧ WF (S 17) ∧ eqv (S 1) (S 17))
def Jf (S : QM) : Prop := (∀ i, i < 7 → S 19 (i + 1) = S 14 i) ∧ S 19 0 = stsS (S 14)
def Jt (S : QM) : Prop := S 5 = S 20 ∧ ∃ len, len ≤ 120 ∧ S 4 1 = nI len ∧ S 15 6 = nI len ∧ ∀ i, i < len → 0 ≤ S 20 i
def Js (S : QM) : Prop := ∀ j, j < 4 → S 22 j = S (6 + j) 1 ∧ S 23 j = S (6 + j) 2 ∧ (∃ sz, sz ≤ 40 ∧ S (6 + j) 2 = nI sz) ∧ ∀ k, k < 40 → S (10 + j) k = S 24 (40 * j + k)
def qJ (S : QM) : Prop := Ja S ∧ Jb S ∧ Jk S ∧ Jf S ∧ Jt S ∧ Js S
theorem qJ.w0 {S : QM} (h : qJ S) : WF (S 0) := h.1.1
theorem qJ.w16 {S : QM} (h : qJ S) : WF (S 16) := h.1.2.1
theorem qJ.e {S : QM} (h : qJ S) : eqv (S 0) (S 16) := h.1.2.2
theorem qJ.w2 {S : QM} (h : qJ S) : WF (S 2) := h.2.1
theorem qJ.k {S : QM} (h : qJ S) : Jk S := h.2.2.1
theorem qJ.f {S : QM} (h : qJ S) : Jf S := h.2.2.2.1
theorem qJ.t {S : QM} (h : qJ S) : Jt S := h.2.2.2.2.1
theorem qJ.s {S : QM} (h : qJ S) : Js S := h.2.2.2.2.2
theorem Ja_c {S v : QM} (h : Ja S) (e0 : v 0 = S 0) (e1 : v 16 = S 16) : Ja v := by
  unfold Ja
  rw [e0, e1]
  exact h
theorem Jb_c {S v : QM} (h : Jb S) (e : v 2 = S 2) : Jb v := by
  unfold Jb
  rw [e]
  exact h
theorem Jk_c {S v : QM} (h : Jk S) (e1 : v 1 = S 1) (e3 : v 3 = S 3) (e15 : v 15 = S 15) (e17 : v 17 = S 17) : Jk v := by
  unfold Jk
  rw [e1, e3, e15, e17]
  exact h
theorem Jf_c {S v : QM} (h : Jf S) (e1 : v 14 = S 14) (e2 : v 19 = S 19) : Jf v := by
  unfold Jf
  rw [e1, e2]
  exact h
theorem Jt_c {S v : QM} (h : Jt S) (e4 : v 4 = S 4) (e5 : v 5 = S 5) (e15 : v 15 = S 15) (e20 : v 20 = S 20) : Jt v := by
  unfold Jt
  rw [e4, e5, e15, e20]
  exact h
theorem Js_c {S v : QM} (h : Js S) (e : ∀ r, (6 ≤ r ∧ r ≤ 13) ∨ r = 22 ∨ r = 23 ∨ r = 24 → v r = S r) : Js v := by
  intro j hj
  rw [e 22 (by omega), e 23 (by omega), e 24 (by omega), e (6 + j) (by omega), e (10 + j) (by omega)]
  exact h j hj
/-- a finding on both sides -/
theorem Jf_up {S v : QM} (h : Jf S) {k : Nat} (hk : k < 7) (e1 : v 14 = fnS (S 14) k) (e2 : v 19 = fnR (S 19) k) : Jf v := by
  unfold Jf
  rw [e1, e2, stsS_f hk, fnR_0, h.2]
  exact ⟨fnR_s h.1, rfl⟩
theorem J_fn {S : QM} (h : qJ S) (k : Nat) (hk : k < 7) : qJ (qr (qr S 14 (fnS (S 14) k)) 19 (fnR (S 19) k)) :=
  ⟨Ja_c h.1 rfl rfl, Jb_c h.w2 rfl, Jk_c h.k rfl rfl rfl rfl, Jf_up h.f hk rfl rfl, Jt_c h.t rfl rfl rfl rfl, Js_c h.s (fun r hr => by rw [qr_ne (by omega), qr_ne (by omega)])⟩
/-- both commons change -/
theorem J_row {S : QM} (h : qJ S) {ρ ν : Nat → Int32} (h0 : WF ρ) (h1 : WF ν) (h2 : eqv ρ ν) : qJ (qr (qr S 0 ρ) 16 ν) :=
  ⟨⟨h0, h1, h2⟩, Jb_c h.w2 rfl, Jk_c h.k rfl rfl rfl rfl, Jf_c h.f rfl rfl, Jt_c h.t rfl rfl rfl rfl, Js_c h.s (fun r hr => by rw [qr_ne (by omega), qr_ne (by omega)])⟩
/-- one side tries on its third common, the other looks ahead and puts back -/
theorem J_any {S u v : QM} (h : qJ S) (hu : any S 2 WF u) (hv : bhG u (S 16) v) : qJ v := by
  obtain ⟨τ, hτ, rfl⟩ := hu
  obtain ⟨μ, α, hm, rfl⟩ := hv
  refine ⟨⟨h.w0, hm.wf h.w16, h.e.tr (hm.eqv h.w16).sy⟩, hτ, Jk_c h.k rfl rfl rfl rfl, Jf_c h.f rfl rfl, Jt_c h.t rfl rfl rfl rfl, Js_c h.s (fun r hr => by rw [qr_ne (by omega), qr_ne (by omega), qr_ne (by omega)])⟩
theorem J_anyR {S u v : QM} (h : qJ S) (hu : any S 2 WF u) (hv : any u 16 (fun τ => eq80 τ (S 16)) v) : qJ v := by
  obtain ⟨τ, hτ, rfl⟩ := hu
  obtain ⟨μ, hm, rfl⟩ := hv
  refine ⟨⟨h.w0, hm.wf h.w16, h.e.tr (hm.eqv h.w16).sy⟩, hτ, Jk_c h.k rfl rfl rfl rfl, Jf_c h.f rfl rfl, Jt_c h.t rfl rfl rfl rfl, Js_c h.s (fun r hr => by rw [qr_ne (by omega), qr_ne (by omega)])⟩
/-- the same, and a finding -/
theorem J_anyF {S u v : QM} (h : qJ S) {k : Nat} (hk : k < 7) (hu : any (qr S 14 (fnS (S 14) k)) 2 WF u) (hv : bhG (qr u 19 (fnR (S 19) k)) (S 16) v) : qJ v := by
  obtain ⟨τ, hτ, rfl⟩ := hu
  obtain ⟨μ, α, hm, rfl⟩ := hv
  refine ⟨⟨h.w0, hm.wf h.w16, h.e.tr (hm.eqv h.w16).sy⟩, hτ, Jk_c h.k rfl rfl rfl rfl, Jf_up h.f hk rfl rfl, Jt_c h.t rfl rfl rfl rfl, Js_c h.s (fun r hr => by rw [qr_ne (by omega), qr_ne (by omega), qr_ne (by omega), qr_ne (by omega), qr_ne (by omega)])⟩
theorem J_S0 : qJ S0 := by
  have w : ∀ r, r = 0 ∨ r = 1 ∨ r = 2 ∨ r = 16 → WF (S0 r) := by
    intro r hr
    have e0 : S0 r 0 = nI 0 := by rw [S0_k hr, if_neg (by decide), if_neg (by decide)]; rfl
    have e1 : S0 r 1 = nI 0 := by rw [S0_k hr, if_neg (by decide), if_neg (by decide)]; rfl
    have e3 : S0 r 3 = nI 0 := by rw [S0_k hr, if_neg (by decide), if_neg (by decide)]; rfl
    have n0 : nD (S0 r) = 0 := by unfold nD; rw [e0]; rfl
    have n1 : nT (S0 r) = 0 := by unfold nT; rw [e1]; rfl
    have n3 : nW (S0 r) = 0 := by unfold nW; rw [e3]; rfl
    refine ⟨⟨by rw [n0]; exact e0, by omega⟩, ⟨by rw [n1]; exact e1, by omega⟩, ⟨by rw [n3]; exact e3, by omega⟩, fun t ht => absurd ht (by omega), fun t ht => absurd ht (by omega), fun i hi => Or.inl ?_⟩
    rw [S0_k hr, if_neg (by omega), if_pos (by omega)]
  have z : ∀ r p, ¬ (r = 0 ∨ r = 1 ∨ r = 2 ∨ r = 16) → S0 r p = 0 := fun r p h => S0_z h
  refine ⟨⟨w 0 (by decide), w 16 (by decide), ?_⟩, w 2 (by decide), ⟨by rw [z 3 3 (by decide), z 15 3 (by decide)], fun h => absurd (z 15 3 (by decide)) h⟩, ⟨fun i hi => by rw [z 19 _ (by decide), z 14 _ (by decide)], ?_⟩, ⟨by funext p; rw [z 5 p (by decide), z 20 p (by decide)], 0, by decide, z 4 1 (by decide), z 15 6 (by decide), fun i hi => absurd hi (Nat.not_lt_zero _)⟩, fun j hj => ⟨by rw [z 22 _ (by decide), z _ 1 (by omega)], by rw [z 23 _ (by decide), z _ 2 (by omega)], ⟨0, by decide, z _ 2 (by omega)⟩, fun k hk => by rw [z 24 _ (by decide), z _ k (by omega)]⟩⟩
  · have e : S0 0 = S0 16 := by
      funext p
      rw [S0_k (by decide), S0_k (by decide)]
    rw [e]
    exact eqv.rf
  · rw [z 19 0 (by decide)]
    have e : S0 14 = fun _ => 0 := by funext p; exact z 14 p (by decide)
    rw [e]
    decide +kernel
/-! putting two contracts together -/
theorem qOp_xx {E : QE} {l : Launch} {y1 y2 : MethodName} {b1 b2 : ByteArray} {n1 n2 d1 d2 : Nat} {as : List Value} {J : QM → Prop} {S u v : QM} {r : Int32} (hc : qCI E l y1 b1 n1 .int d1 (.ref (eA E 0) :: as) S r u) (hr : qCI E l y2 b2 n2 .int d2 (.ref (eA E 70) :: as) u r v) (hJ : J v) (h1 : d1 ≤ 11) (h2 : d2 ≤ 11) : qOpI E l y1 b1 n1 y2 b2 n2 as J S :=
  ⟨d1, d2, r, _, h1, h2, qCPi_I hc, fun w hw => by subst hw; exact ⟨_, qCPi_I hr, fun z hz => by subst hz; exact hJ⟩⟩
theorem qOp_pp {E : QE} {l : Launch} {y1 y2 : MethodName} {b1 b2 : ByteArray} {n1 n2 d1 d2 : Nat} {as : List Value} {J : QM → Prop} {S : QM} {r : Int32} {P : QM → Prop} {P' : QM → QM → Prop} (hc : qCPi E l y1 b1 n1 .int d1 (.ref (eA E 0) :: as) S r P) (hr : ∀ u, P u → qCPi E l y2 b2 n2 .int d2 (.ref (eA E 70) :: as) u r (P' u)) (hJ : ∀ u, P u → ∀ v, P' u v → J v) (h1 : d1 ≤ 11) (h2 : d2 ≤ 11) : qOpI E l y1 b1 n1 y2 b2 n2 as J S :=
  ⟨d1, d2, r, P, h1, h2, hc, fun w hw => ⟨_, hr w hw, hJ w hw⟩⟩
theorem qOp_ll {E : QE} {l : Launch} {y1 y2 : MethodName} {b1 b2 : ByteArray} {n1 n2 d1 d2 : Nat} {as : List Value} {J : QM → Prop} {S : QM} {r : Int64} {P : QM → Prop} {P' : QM → QM → Prop} (hc : qCPl E l y1 b1 n1 d1 (.ref (eA E 0) :: as) S r P) (hr : ∀ u, P u → qCPl E l y2 b2 n2 d2 (.ref (eA E 70) :: as) u r (P' u)) (hJ : ∀ u, P u → ∀ v, P' u v → J v) (h1 : d1 ≤ 11) (h2 : d2 ≤ 11) : qOpL E l y1 b1 n1 y2 b2 n2 as J S :=
  ⟨d1, d2, r, P, h1, h2, hc, fun w hw => ⟨_, hr w hw, hJ w hw⟩⟩
