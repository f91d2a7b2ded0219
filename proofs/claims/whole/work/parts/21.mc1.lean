/-! the reference's small methods -/
theorem xrI_mk {K : Int32 → xM → Prop} {r : Int32} {M : xM} : xrI K (some (.int r)) M = K r M := rfl
theorem xrL_mk {K : Int64 → xM → Prop} {r : Int64} {M : xM} : xrL K (some (.long r)) M = K r M := rfl
theorem xrR_mk {K : Nat → xM → Prop} {r : Nat} {M : xM} : xrR K (some (.ref r)) M = K r M := rfl
theorem xrV_mk {K : xM → Prop} {M : xM} : xrV K none M = K M := rfl
theorem n0 : nI 0 = 0 := rfl
theorem n1 : nI 1 = 1 := rfl
theorem n0p {P : Prop} : (True → P) = P := propext ⟨fun h => h trivial, fun h _ => h⟩
theorem nI_cl {n : Nat} (h : n < 2 ^ 31) : (nI n).toNatClampNeg = n := nI_clamp h
theorem vpi {n N : Nat} (h : n < N) (hN : N < 2 ^ 31) : vp_in (nI n) N = True := propext ⟨fun _ => trivial, fun _ => vp_in_nI h hN⟩
theorem i10 : ((1 : Int32) = 0) = False := by decide
theorem i11 : ((0 : Int32) = 0) = True := by decide
theorem i01 : (nI 0 = 0 ∨ nI 0 = 1) = True := by decide
theorem i02 : (nI 1 = 0 ∨ nI 1 = 1) = True := by decide
theorem mA_mA {σ : mS} {k : Nat} {f g : Nat → Int32} : mA (mA σ k f) k g = mA σ k g := by
  unfold mA
  simp only [Prod.mk.injEq, and_true, true_and]
  funext i
  split <;> rfl
theorem mV_mV {σ : mS} {f g : Nat → Int64} : mV (mV σ f) g = mV σ g := rfl
theorem mF_mF {σ : mS} {j : Nat} {v w : Int32} : mF (mF σ j v) j w = mF σ j w := by
  unfold mF
  simp only [Prod.mk.injEq, and_true]
  funext i
  split <;> rfl
theorem o01 {x : Int32} (h : x = 0 ∨ x = 1) {P : Prop} (hp : P) : (x = 0 ∨ x = 1) ∧ P := ⟨h, hp⟩
theorem nI_rng {x : Int32} {n : Nat} (h0 : 0 ≤ x) (h1 : x ≤ nI n) (hn : n < 2 ^ 31) : ∃ r, r ≤ n ∧ x = nI r := by
  have h0' : ¬ x < 0 := Int32.not_lt.mpr h0
  exact nI_of2 (M := nI n) (nI_toInt hn) h0' h1
/-- within bounds -/
def iv (x lo hi : Int32) : Prop := lo ≤ x ∧ x ≤ hi
/-- a room -/
def rm (R : Nat) (x : Int32) : Prop := ∃ r, r < R ∧ x = nI r
section MC1
variable {sa : Nat → Nat} {d : Nat} {Q : xQ} {q : Nat} {M0 M : xM} {σ : mS} {R : Nat}
theorem c_M_isIn {v lo hi : Int32} (h1 : iv v lo hi → Q (some (.int 1)) M) (h0 : ¬ iv v lo hi → Q (some (.int 0)) M) : xEv xP (xprim sa) (d + 1) m_M_isIn [.int v, .int lo, .int hi] M Q := by
  refine t_M_isIn ?_
  by_cases a : v < lo
  · rw [if_pos a]
    exact o01 (Or.inl rfl) (h0 (fun h => absurd h.1 (Int32.not_le.mpr a)))
  · rw [if_neg a]
    by_cases b : hi < v
    · rw [if_pos b]
      exact o01 (Or.inl rfl) (h0 (fun h => absurd h.2 (Int32.not_le.mpr b)))
    · rw [if_neg b]
      exact o01 (Or.inr rfl) (h1 ⟨Int32.not_lt.mp a, Int32.not_lt.mp b⟩)
theorem c_M_isRoom (hR : σ.1 2 = nI R) (hR3 : 3 ≤ R) (hR9 : R ≤ 9) {v : Int32} (h1 : ∀ r, r < R → v = nI r → Q (some (.int 1)) (mM q M0 σ)) (h0 : ¬ rm R v → Q (some (.int 0)) (mM q M0 σ)) : xEv xP (xprim sa) (d + 2) m_M_isRoom [.ref q, .int v] (mM q M0 σ) Q := by
  refine t_M_isRoom ?_
  simp (disch := omega) only [xrI_mk, xrV_mk, xrL_mk, xrR_mk, mg_0, mg_1, mp_2, mg_2, mg_3, mg_4, mp_5, mg_5, mp_6, mg_6, mp_7, mg_7, mp_8, mg_8, mp_9, mg_9, mp_10, mg_10, mp_11, mg_11, mp_12, mg_12, mp_13, mg_13, mp_14, mg_14, mp_15, mg_15, mp_16, mg_16, mg_17, mp_18, mg_18, mp_19, mg_19, mp_20, mg_20, mp_21, mg_21, mg_22, mg_23, mg_24, mg_25, mg_26, mg_27, mg_28, mg_29, mg_30, mg_31, mg_32, mg_33, mg_34, mp_35, mg_35, mp_36, mg_36, mg_37, mg_38, mg_39, ma_1, ms_1, ma_2, ms_2, ma_3, ms_3, ma_4, ms_4, ma_5, ms_5, ma_6, ms_6, ma_9, ms_9, ma_10, ms_10, ma_11, ms_11, ma_12, ms_12, ma_13, ms_13, ma_14, ms_14, ma_15, ms_15, ma_16, ms_16, ma_17, ms_17, ma_18, ms_18, ma_19, ms_19, ma_20, ms_20, ma_21, ms_21, mo_q', ma_L, ms_L, ma_Z, ms_Z, mF_1, mF_2, mWd_1, mWd_w, mWd_2, mA_1, mA_w, mA_a, mA_v, mV_1, mV_w, mV_a, mV_v, mA_mA, mV_mV, mF_mF, nI_add, nI_cl, vpi, i01, i02, i10, i11, ↓reduceIte, not_true_eq_false, not_false_eq_true, and_true, true_and, ne_eq, Nat.reduceAdd, Nat.reduceMul, Nat.reduceSub, Nat.reduceEqDiff, reduceCtorEq, Nat.add_zero, Nat.zero_add, n0p, ite_true, ite_false, if_true, if_false, hR]
  rw [show nI R - nI 1 = nI (R - 1) from pk_sub (by omega)]
  refine c_M_isIn (fun a => ?_) (fun a => ?_)
  · obtain ⟨r, hr, rfl⟩ := nI_rng a.1 a.2 (by omega)
    exact o01 (Or.inr rfl) (h1 r (by omega) rfl)
  · exact o01 (Or.inl rfl) (h0 (fun ⟨r, hr, e⟩ => a (by rw [e]; exact ⟨nI_le (by omega) (by omega), nI_le (by omega) (by omega)⟩)))
theorem c_M_elder (hR : σ.1 2 = nI R) (hR3 : 3 ≤ R) (hR9 : R ≤ 9) {v k f : Int32}
    (h1 : ∀ r, r < R → v = nI r → iv k 0 (nI 2) → iv f 0 (nI 9) → Q (some (.int 1)) (mM q M0 (mA σ 1 (upd (upd (σ.2.2.1 1) (10 + r) k) (20 + r) f))))
    (h0 : ¬ (rm R v ∧ iv k 0 (nI 2) ∧ iv f 0 (nI 9)) → Q (some (.int 0)) (mM q M0 σ)) : xEv xP (xprim sa) (d + 3) m_M_elder [.ref q, .int v, .int k, .int f] (mM q M0 σ) Q := by
  refine t_M_elder ⟨mo_q, c_M_isRoom hR hR3 hR9 (fun r hr e => ?_) (fun a => ?_)⟩
  · subst e
    simp (disch := omega) only [xrI_mk, xrV_mk, xrL_mk, xrR_mk, mg_0, mg_1, mp_2, mg_2, mg_3, mg_4, mp_5, mg_5, mp_6, mg_6, mp_7, mg_7, mp_8, mg_8, mp_9, mg_9, mp_10, mg_10, mp_11, mg_11, mp_12, mg_12, mp_13, mg_13, mp_14, mg_14, mp_15, mg_15, mp_16, mg_16, mg_17, mp_18, mg_18, mp_19, mg_19, mp_20, mg_20, mp_21, mg_21, mg_22, mg_23, mg_24, mg_25, mg_26, mg_27, mg_28, mg_29, mg_30, mg_31, mg_32, mg_33, mg_34, mp_35, mg_35, mp_36, mg_36, mg_37, mg_38, mg_39, ma_1, ms_1, ma_2, ms_2, ma_3, ms_3, ma_4, ms_4, ma_5, ms_5, ma_6, ms_6, ma_9, ms_9, ma_10, ms_10, ma_11, ms_11, ma_12, ms_12, ma_13, ms_13, ma_14, ms_14, ma_15, ms_15, ma_16, ms_16, ma_17, ms_17, ma_18, ms_18, ma_19, ms_19, ma_20, ms_20, ma_21, ms_21, mo_q', ma_L, ms_L, ma_Z, ms_Z, mF_1, mF_2, mWd_1, mWd_w, mWd_2, mA_1, mA_w, mA_a, mA_v, mV_1, mV_w, mV_a, mV_v, mA_mA, mV_mV, mF_mF, nI_add, nI_cl, vpi, i01, i02, i10, i11, ↓reduceIte, not_true_eq_false, not_false_eq_true, and_true, true_and, ne_eq, Nat.reduceAdd, Nat.reduceMul, Nat.reduceSub, Nat.reduceEqDiff, reduceCtorEq, Nat.add_zero, Nat.zero_add, n0p, ite_true, ite_false, if_true, if_false]
    refine c_M_isIn (fun a => ?_) (fun a => ?_)
    · simp (disch := omega) only [xrI_mk, xrV_mk, xrL_mk, xrR_mk, mg_0, mg_1, mp_2, mg_2, mg_3, mg_4, mp_5, mg_5, mp_6, mg_6, mp_7, mg_7, mp_8, mg_8, mp_9, mg_9, mp_10, mg_10, mp_11, mg_11, mp_12, mg_12, mp_13, mg_13, mp_14, mg_14, mp_15, mg_15, mp_16, mg_16, mg_17, mp_18, mg_18, mp_19, mg_19, mp_20, mg_20, mp_21, mg_21, mg_22, mg_23, mg_24, mg_25, mg_26, mg_27, mg_28, mg_29, mg_30, mg_31, mg_32, mg_33, mg_34, mp_35, mg_35, mp_36, mg_36, mg_37, mg_38, mg_39, ma_1, ms_1, ma_2, ms_2, ma_3, ms_3, ma_4, ms_4, ma_5, ms_5, ma_6, ms_6, ma_9, ms_9, ma_10, ms_10, ma_11, ms_11, ma_12, ms_12, ma_13, ms_13, ma_14, ms_14, ma_15, ms_15, ma_16, ms_16, ma_17, ms_17, ma_18, ms_18, ma_19, ms_19, ma_20, ms_20, ma_21, ms_21, mo_q', ma_L, ms_L, ma_Z, ms_Z, mF_1, mF_2, mWd_1, mWd_w, mWd_2, mA_1, mA_w, mA_a, mA_v, mV_1, mV_w, mV_a, mV_v, mA_mA, mV_mV, mF_mF, nI_add, nI_cl, vpi, i01, i02, i10, i11, ↓reduceIte, not_true_eq_false, not_false_eq_true, and_true, true_and, ne_eq, Nat.reduceAdd, Nat.reduceMul, Nat.reduceSub, Nat.reduceEqDiff, reduceCtorEq, Nat.add_zero, Nat.zero_add, n0p, ite_true, ite_false, if_true, if_false]
      refine c_M_isIn (fun a2 => ?_) (fun a2 => ?_)
      · simp (disch := omega) only [xrI_mk, xrV_mk, xrL_mk, xrR_mk, mg_0, mg_1, mp_2, mg_2, mg_3, mg_4, mp_5, mg_5, mp_6, mg_6, mp_7, mg_7, mp_8, mg_8, mp_9, mg_9, mp_10, mg_10, mp_11, mg_11, mp_12, mg_12, mp_13, mg_13, mp_14, mg_14, mp_15, mg_15, mp_16, mg_16, mg_17, mp_18, mg_18, mp_19, mg_19, mp_20, mg_20, mp_21, mg_21, mg_22, mg_23, mg_24, mg_25, mg_26, mg_27, mg_28, mg_29, mg_30, mg_31, mg_32, mg_33, mg_34, mp_35, mg_35, mp_36, mg_36, mg_37, mg_38, mg_39, ma_1, ms_1, ma_2, ms_2, ma_3, ms_3, ma_4, ms_4, ma_5, ms_5, ma_6, ms_6, ma_9, ms_9, ma_10, ms_10, ma_11, ms_11, ma_12, ms_12, ma_13, ms_13, ma_14, ms_14, ma_15, ms_15, ma_16, ms_16, ma_17, ms_17, ma_18, ms_18, ma_19, ms_19, ma_20, ms_20, ma_21, ms_21, mo_q', ma_L, ms_L, ma_Z, ms_Z, mF_1, mF_2, mWd_1, mWd_w, mWd_2, mA_1, mA_w, mA_a, mA_v, mV_1, mV_w, mV_a, mV_v, mA_mA, mV_mV, mF_mF, nI_add, nI_cl, vpi, i01, i02, i10, i11, ↓reduceIte, not_true_eq_false, not_false_eq_true, and_true, true_and, ne_eq, Nat.reduceAdd, Nat.reduceMul, Nat.reduceSub, Nat.reduceEqDiff, reduceCtorEq, Nat.add_zero, Nat.zero_add, n0p, ite_true, ite_false, if_true, if_false]
        exact h1 r hr rfl a a2
      · simp (disch := omega) only [xrI_mk, xrV_mk, xrL_mk, xrR_mk, mg_0, mg_1, mp_2, mg_2, mg_3, mg_4, mp_5, mg_5, mp_6, mg_6, mp_7, mg_7, mp_8, mg_8, mp_9, mg_9, mp_10, mg_10, mp_11, mg_11, mp_12, mg_12, mp_13, mg_13, mp_14, mg_14, mp_15, mg_15, mp_16, mg_16, mg_17, mp_18, mg_18, mp_19, mg_19, mp_20, mg_20, mp_21, mg_21, mg_22, mg_23, mg_24, mg_25, mg_26, mg_27, mg_28, mg_29, mg_30, mg_31, mg_32, mg_33, mg_34, mp_35, mg_35, mp_36, mg_36, mg_37, mg_38, mg_39, ma_1, ms_1, ma_2, ms_2, ma_3, ms_3, ma_4, ms_4, ma_5, ms_5, ma_6, ms_6, ma_9, ms_9, ma_10, ms_10, ma_11, ms_11, ma_12, ms_12, ma_13, ms_13, ma_14, ms_14, ma_15, ms_15, ma_16, ms_16, ma_17, ms_17, ma_18, ms_18, ma_19, ms_19, ma_20, ms_20, ma_21, ms_21, mo_q', ma_L, ms_L, ma_Z, ms_Z, mF_1, mF_2, mWd_1, mWd_w, mWd_2, mA_1, mA_w, mA_a, mA_v, mV_1, mV_w, mV_a, mV_v, mA_mA, mV_mV, mF_mF, nI_add, nI_cl, vpi, i01, i02, i10, i11, ↓reduceIte, not_true_eq_false, not_false_eq_true, and_true, true_and, ne_eq, Nat.reduceAdd, Nat.reduceMul, Nat.reduceSub, Nat.reduceEqDiff, reduceCtorEq, Nat.add_zero, Nat.zero_add, n0p, ite_true, ite_false, if_true, if_false]
        exact h0 (fun h => a2 h.2.2)
    · simp (disch := omega) only [xrI_mk, xrV_mk, xrL_mk, xrR_mk, mg_0, mg_1, mp_2, mg_2, mg_3, mg_4, mp_5, mg_5, mp_6, mg_6, mp_7, mg_7, mp_8, mg_8, mp_9, mg_9, mp_10, mg_10, mp_11, mg_11, mp_12, mg_12, mp_13, mg_13, mp_14, mg_14, mp_15, mg_15, mp_16, mg_16, mg_17, mp_18, mg_18, mp_19, mg_19, mp_20, mg_20, mp_21, mg_21, mg_22, mg_23, mg_24, mg_25, mg_26, mg_27, mg_28, mg_29, mg_30, mg_31, mg_32, mg_33, mg_34, mp_35, mg_35, mp_36, mg_36, mg_37, mg_38, mg_39, ma_1, ms_1, ma_2, ms_2, ma_3, ms_3, ma_4, ms_4, ma_5, ms_5, ma_6, ms_6, ma_9, ms_9, ma_10, ms_10, ma_11, ms_11, ma_12, ms_12, ma_13, ms_13, ma_14, ms_14, ma_15, ms_15, ma_16, ms_16, ma_17, ms_17, ma_18, ms_18, ma_19, ms_19, ma_20, ms_20, ma_21, ms_21, mo_q', ma_L, ms_L, ma_Z, ms_Z, mF_1, mF_2, mWd_1, mWd_w, mWd_2, mA_1, mA_w, mA_a, mA_v, mV_1, mV_w, mV_a, mV_v, mA_mA, mV_mV, mF_mF, nI_add, nI_cl, vpi, i01, i02, i10, i11, ↓reduceIte, not_true_eq_false, not_false_eq_true, and_true, true_and, ne_eq, Nat.reduceAdd, Nat.reduceMul, Nat.reduceSub, Nat.reduceEqDiff, reduceCtorEq, Nat.add_zero, Nat.zero_add, n0p, ite_true, ite_false, if_true, if_false]
      exact h0 (fun h => a h.2.1)
  · simp (disch := omega) only [xrI_mk, xrV_mk, xrL_mk, xrR_mk, mg_0, mg_1, mp_2, mg_2, mg_3, mg_4, mp_5, mg_5, mp_6, mg_6, mp_7, mg_7, mp_8, mg_8, mp_9, mg_9, mp_10, mg_10, mp_11, mg_11, mp_12, mg_12, mp_13, mg_13, mp_14, mg_14, mp_15, mg_15, mp_16, mg_16, mg_17, mp_18, mg_18, mp_19, mg_19, mp_20, mg_20, mp_21, mg_21, mg_22, mg_23, mg_24, mg_25, mg_26, mg_27, mg_28, mg_29, mg_30, mg_31, mg_32, mg_33, mg_34, mp_35, mg_35, mp_36, mg_36, mg_37, mg_38, mg_39, ma_1, ms_1, ma_2, ms_2, ma_3, ms_3, ma_4, ms_4, ma_5, ms_5, ma_6, ms_6, ma_9, ms_9, ma_10, ms_10, ma_11, ms_11, ma_12, ms_12, ma_13, ms_13, ma_14, ms_14, ma_15, ms_15, ma_16, ms_16, ma_17, ms_17, ma_18, ms_18, ma_19, ms_19, ma_20, ms_20, ma_21, ms_21, mo_q', ma_L, ms_L, ma_Z, ms_Z, mF_1, mF_2, mWd_1, mWd_w, mWd_2, mA_1, mA_w, mA_a, mA_v, mV_1, mV_w, mV_a, mV_v, mA_mA, mV_mV, mF_mF, nI_add, nI_cl, vpi, i01, i02, i10, i11, ↓reduceIte, not_true_eq_false, not_false_eq_true, and_true, true_and, ne_eq, Nat.reduceAdd, Nat.reduceMul, Nat.reduceSub, Nat.reduceEqDiff, reduceCtorEq, Nat.add_zero, Nat.zero_add, n0p, ite_true, ite_false, if_true, if_false]
    exact h0 (fun h => a h.1)
theorem c_M_stuck (hR : σ.1 2 = nI R) (hR3 : 3 ≤ R) (hR9 : R ≤ 9) {v b : Int32}
    (h1 : ∀ r, r < R → v = nI r → Q (some (.int 1)) (mM q M0 (mA σ 1 (upd (σ.2.2.1 1) (30 + r) (if b = 0 then 0 else 1)))))
    (h0 : ¬ rm R v → Q (some (.int 0)) (mM q M0 σ)) : xEv xP (xprim sa) (d + 3) m_M_stuck [.ref q, .int v, .int b] (mM q M0 σ) Q := by
  refine t_M_stuck ⟨mo_q, c_M_isRoom hR hR3 hR9 (fun r hr e => ?_) (fun a => ?_)⟩
  · subst e
    have h1 := h1 r hr rfl
    simp (disch := omega) only [xrI_mk, xrV_mk, xrL_mk, xrR_mk, mg_0, mg_1, mp_2, mg_2, mg_3, mg_4, mp_5, mg_5, mp_6, mg_6, mp_7, mg_7, mp_8, mg_8, mp_9, mg_9, mp_10, mg_10, mp_11, mg_11, mp_12, mg_12, mp_13, mg_13, mp_14, mg_14, mp_15, mg_15, mp_16, mg_16, mg_17, mp_18, mg_18, mp_19, mg_19, mp_20, mg_20, mp_21, mg_21, mg_22, mg_23, mg_24, mg_25, mg_26, mg_27, mg_28, mg_29, mg_30, mg_31, mg_32, mg_33, mg_34, mp_35, mg_35, mp_36, mg_36, mg_37, mg_38, mg_39, ma_1, ms_1, ma_2, ms_2, ma_3, ms_3, ma_4, ms_4, ma_5, ms_5, ma_6, ms_6, ma_9, ms_9, ma_10, ms_10, ma_11, ms_11, ma_12, ms_12, ma_13, ms_13, ma_14, ms_14, ma_15, ms_15, ma_16, ms_16, ma_17, ms_17, ma_18, ms_18, ma_19, ms_19, ma_20, ms_20, ma_21, ms_21, mo_q', ma_L, ms_L, ma_Z, ms_Z, mF_1, mF_2, mWd_1, mWd_w, mWd_2, mA_1, mA_w, mA_a, mA_v, mV_1, mV_w, mV_a, mV_v, mA_mA, mV_mV, mF_mF, nI_add, nI_cl, vpi, i01, i02, i10, i11, ↓reduceIte, not_true_eq_false, not_false_eq_true, and_true, true_and, ne_eq, Nat.reduceAdd, Nat.reduceMul, Nat.reduceSub, Nat.reduceEqDiff, reduceCtorEq, Nat.add_zero, Nat.zero_add, n0p, ite_true, ite_false, if_true, if_false]
    by_cases hb : b = 0
    · rw [if_pos hb] at h1 ⊢
      exact h1
    · rw [if_neg hb] at h1 ⊢
      exact h1
  · simp (disch := omega) only [xrI_mk, xrV_mk, xrL_mk, xrR_mk, mg_0, mg_1, mp_2, mg_2, mg_3, mg_4, mp_5, mg_5, mp_6, mg_6, mp_7, mg_7, mp_8, mg_8, mp_9, mg_9, mp_10, mg_10, mp_11, mg_11, mp_12, mg_12, mp_13, mg_13, mp_14, mg_14, mp_15, mg_15, mp_16, mg_16, mg_17, mp_18, mg_18, mp_19, mg_19, mp_20, mg_20, mp_21, mg_21, mg_22, mg_23, mg_24, mg_25, mg_26, mg_27, mg_28, mg_29, mg_30, mg_31, mg_32, mg_33, mg_34, mp_35, mg_35, mp_36, mg_36, mg_37, mg_38, mg_39, ma_1, ms_1, ma_2, ms_2, ma_3, ms_3, ma_4, ms_4, ma_5, ms_5, ma_6, ms_6, ma_9, ms_9, ma_10, ms_10, ma_11, ms_11, ma_12, ms_12, ma_13, ms_13, ma_14, ms_14, ma_15, ms_15, ma_16, ms_16, ma_17, ms_17, ma_18, ms_18, ma_19, ms_19, ma_20, ms_20, ma_21, ms_21, mo_q', ma_L, ms_L, ma_Z, ms_Z, mF_1, mF_2, mWd_1, mWd_w, mWd_2, mA_1, mA_w, mA_a, mA_v, mV_1, mV_w, mV_a, mV_v, mA_mA, mV_mV, mF_mF, nI_add, nI_cl, vpi, i01, i02, i10, i11, ↓reduceIte, not_true_eq_false, not_false_eq_true, and_true, true_and, ne_eq, Nat.reduceAdd, Nat.reduceMul, Nat.reduceSub, Nat.reduceEqDiff, reduceCtorEq, Nat.add_zero, Nat.zero_add, n0p, ite_true, ite_false, if_true, if_false]
    exact h0 a
theorem c_M_lies (hR : σ.1 2 = nI R) (hR3 : 3 ≤ R) (hR9 : R ≤ 9) {v a b c : Int32}
    (h1 : ∀ r, r < R → v = nI r → iv a (-1) (nI 99) → iv b (-1) (nI 99) → Q (some (.int 1)) (mM q M0 (mA σ 1 (upd (upd (upd (σ.2.2.1 1) (40 + 3 * r) a) (40 + 3 * r + 1) b) (40 + 3 * r + 2) (if c = 0 then 0 else 1)))))
    (h0 : ¬ (rm R v ∧ iv a (-1) (nI 99) ∧ iv b (-1) (nI 99)) → Q (some (.int 0)) (mM q M0 σ)) : xEv xP (xprim sa) (d + 3) m_M_lies [.ref q, .int v, .int a, .int b, .int c] (mM q M0 σ) Q := by
  refine t_M_lies ⟨mo_q, c_M_isRoom hR hR3 hR9 (fun r hr e => ?_) (fun a => ?_)⟩
  · subst e
    simp (disch := omega) only [xrI_mk, xrV_mk, xrL_mk, xrR_mk, mg_0, mg_1, mp_2, mg_2, mg_3, mg_4, mp_5, mg_5, mp_6, mg_6, mp_7, mg_7, mp_8, mg_8, mp_9, mg_9, mp_10, mg_10, mp_11, mg_11, mp_12, mg_12, mp_13, mg_13, mp_14, mg_14, mp_15, mg_15, mp_16, mg_16, mg_17, mp_18, mg_18, mp_19, mg_19, mp_20, mg_20, mp_21, mg_21, mg_22, mg_23, mg_24, mg_25, mg_26, mg_27, mg_28, mg_29, mg_30, mg_31, mg_32, mg_33, mg_34, mp_35, mg_35, mp_36, mg_36, mg_37, mg_38, mg_39, ma_1, ms_1, ma_2, ms_2, ma_3, ms_3, ma_4, ms_4, ma_5, ms_5, ma_6, ms_6, ma_9, ms_9, ma_10, ms_10, ma_11, ms_11, ma_12, ms_12, ma_13, ms_13, ma_14, ms_14, ma_15, ms_15, ma_16, ms_16, ma_17, ms_17, ma_18, ms_18, ma_19, ms_19, ma_20, ms_20, ma_21, ms_21, mo_q', ma_L, ms_L, ma_Z, ms_Z, mF_1, mF_2, mWd_1, mWd_w, mWd_2, mA_1, mA_w, mA_a, mA_v, mV_1, mV_w, mV_a, mV_v, mA_mA, mV_mV, mF_mF, nI_add, nI_cl, vpi, i01, i02, i10, i11, ↓reduceIte, not_true_eq_false, not_false_eq_true, and_true, true_and, ne_eq, Nat.reduceAdd, Nat.reduceMul, Nat.reduceSub, Nat.reduceEqDiff, reduceCtorEq, Nat.add_zero, Nat.zero_add, n0p, ite_true, ite_false, if_true, if_false]
    refine c_M_isIn (fun ha => ?_) (fun ha => ?_)
    · simp (disch := omega) only [xrI_mk, xrV_mk, xrL_mk, xrR_mk, mg_0, mg_1, mp_2, mg_2, mg_3, mg_4, mp_5, mg_5, mp_6, mg_6, mp_7, mg_7, mp_8, mg_8, mp_9, mg_9, mp_10, mg_10, mp_11, mg_11, mp_12, mg_12, mp_13, mg_13, mp_14, mg_14, mp_15, mg_15, mp_16, mg_16, mg_17, mp_18, mg_18, mp_19, mg_19, mp_20, mg_20, mp_21, mg_21, mg_22, mg_23, mg_24, mg_25, mg_26, mg_27, mg_28, mg_29, mg_30, mg_31, mg_32, mg_33, mg_34, mp_35, mg_35, mp_36, mg_36, mg_37, mg_38, mg_39, ma_1, ms_1, ma_2, ms_2, ma_3, ms_3, ma_4, ms_4, ma_5, ms_5, ma_6, ms_6, ma_9, ms_9, ma_10, ms_10, ma_11, ms_11, ma_12, ms_12, ma_13, ms_13, ma_14, ms_14, ma_15, ms_15, ma_16, ms_16, ma_17, ms_17, ma_18, ms_18, ma_19, ms_19, ma_20, ms_20, ma_21, ms_21, mo_q', ma_L, ms_L, ma_Z, ms_Z, mF_1, mF_2, mWd_1, mWd_w, mWd_2, mA_1, mA_w, mA_a, mA_v, mV_1, mV_w, mV_a, mV_v, mA_mA, mV_mV, mF_mF, nI_add, nI_cl, vpi, i01, i02, i10, i11, ↓reduceIte, not_true_eq_false, not_false_eq_true, and_true, true_and, ne_eq, Nat.reduceAdd, Nat.reduceMul, Nat.reduceSub, Nat.reduceEqDiff, reduceCtorEq, Nat.add_zero, Nat.zero_add, n0p, ite_true, ite_false, if_true, if_false]
      refine c_M_isIn (fun hb => ?_) (fun hb => ?_)
      · have h1 := h1 r hr rfl ha hb
        simp (disch := omega) only [xrI_mk, xrV_mk, xrL_mk, xrR_mk, mg_0, mg_1, mp_2, mg_2, mg_3, mg_4, mp_5, mg_5, mp_6, mg_6, mp_7, mg_7, mp_8, mg_8, mp_9, mg_9, mp_10, mg_10, mp_11, mg_11, mp_12, mg_12, mp_13, mg_13, mp_14, mg_14, mp_15, mg_15, mp_16, mg_16, mg_17, mp_18, mg_18, mp_19, mg_19, mp_20, mg_20, mp_21, mg_21, mg_22, mg_23, mg_24, mg_25, mg_26, mg_27, mg_28, mg_29, mg_30, mg_31, mg_32, mg_33, mg_34, mp_35, mg_35, mp_36, mg_36, mg_37, mg_38, mg_39, ma_1, ms_1, ma_2, ms_2, ma_3, ms_3, ma_4, ms_4, ma_5, ms_5, ma_6, ms_6, ma_9, ms_9, ma_10, ms_10, ma_11, ms_11, ma_12, ms_12, ma_13, ms_13, ma_14, ms_14, ma_15, ms_15, ma_16, ms_16, ma_17, ms_17, ma_18, ms_18, ma_19, ms_19, ma_20, ms_20, ma_21, ms_21, mo_q', ma_L, ms_L, ma_Z, ms_Z, mF_1, mF_2, mWd_1, mWd_w, mWd_2, mA_1, mA_w, mA_a, mA_v, mV_1, mV_w, mV_a, mV_v, mA_mA, mV_mV, mF_mF, nI_add, nI_cl, vpi, i01, i02, i10, i11, ↓reduceIte, not_true_eq_false, not_false_eq_true, and_true, true_and, ne_eq, Nat.reduceAdd, Nat.reduceMul, Nat.reduceSub, Nat.reduceEqDiff, reduceCtorEq, Nat.add_zero, Nat.zero_add, n0p, ite_true, ite_false, if_true, if_false, pk_mul]
        by_cases hc : c = 0
        · rw [if_pos hc] at h1 ⊢
          exact h1
        · rw [if_neg hc] at h1 ⊢
          exact h1
      · simp (disch := omega) only [xrI_mk, xrV_mk, xrL_mk, xrR_mk, mg_0, mg_1, mp_2, mg_2, mg_3, mg_4, mp_5, mg_5, mp_6, mg_6, mp_7, mg_7, mp_8, mg_8, mp_9, mg_9, mp_10, mg_10, mp_11, mg_11, mp_12, mg_12, mp_13, mg_13, mp_14, mg_14, mp_15, mg_15, mp_16, mg_16, mg_17, mp_18, mg_18, mp_19, mg_19, mp_20, mg_20, mp_21, mg_21, mg_22, mg_23, mg_24, mg_25, mg_26, mg_27, mg_28, mg_29, mg_30, mg_31, mg_32, mg_33, mg_34, mp_35, mg_35, mp_36, mg_36, mg_37, mg_38, mg_39, ma_1, ms_1, ma_2, ms_2, ma_3, ms_3, ma_4, ms_4, ma_5, ms_5, ma_6, ms_6, ma_9, ms_9, ma_10, ms_10, ma_11, ms_11, ma_12, ms_12, ma_13, ms_13, ma_14, ms_14, ma_15, ms_15, ma_16, ms_16, ma_17, ms_17, ma_18, ms_18, ma_19, ms_19, ma_20, ms_20, ma_21, ms_21, mo_q', ma_L, ms_L, ma_Z, ms_Z, mF_1, mF_2, mWd_1, mWd_w, mWd_2, mA_1, mA_w, mA_a, mA_v, mV_1, mV_w, mV_a, mV_v, mA_mA, mV_mV, mF_mF, nI_add, nI_cl, vpi, i01, i02, i10, i11, ↓reduceIte, not_true_eq_false, not_false_eq_true, and_true, true_and, ne_eq, Nat.reduceAdd, Nat.reduceMul, Nat.reduceSub, Nat.reduceEqDiff, reduceCtorEq, Nat.add_zero, Nat.zero_add, n0p, ite_true, ite_false, if_true, if_false]
        exact h0 (fun h => hb h.2.2)
    · simp (disch := omega) only [xrI_mk, xrV_mk, xrL_mk, xrR_mk, mg_0, mg_1, mp_2, mg_2, mg_3, mg_4, mp_5, mg_5, mp_6, mg_6, mp_7, mg_7, mp_8, mg_8, mp_9, mg_9, mp_10, mg_10, mp_11, mg_11, mp_12, mg_12, mp_13, mg_13, mp_14, mg_14, mp_15, mg_15, mp_16, mg_16, mg_17, mp_18, mg_18, mp_19, mg_19, mp_20, mg_20, mp_21, mg_21, mg_22, mg_23, mg_24, mg_25, mg_26, mg_27, mg_28, mg_29, mg_30, mg_31, mg_32, mg_33, mg_34, mp_35, mg_35, mp_36, mg_36, mg_37, mg_38, mg_39, ma_1, ms_1, ma_2, ms_2, ma_3, ms_3, ma_4, ms_4, ma_5, ms_5, ma_6, ms_6, ma_9, ms_9, ma_10, ms_10, ma_11, ms_11, ma_12, ms_12, ma_13, ms_13, ma_14, ms_14, ma_15, ms_15, ma_16, ms_16, ma_17, ms_17, ma_18, ms_18, ma_19, ms_19, ma_20, ms_20, ma_21, ms_21, mo_q', ma_L, ms_L, ma_Z, ms_Z, mF_1, mF_2, mWd_1, mWd_w, mWd_2, mA_1, mA_w, mA_a, mA_v, mV_1, mV_w, mV_a, mV_v, mA_mA, mV_mV, mF_mF, nI_add, nI_cl, vpi, i01, i02, i10, i11, ↓reduceIte, not_true_eq_false, not_false_eq_true, and_true, true_and, ne_eq, Nat.reduceAdd, Nat.reduceMul, Nat.reduceSub, Nat.reduceEqDiff, reduceCtorEq, Nat.add_zero, Nat.zero_add, n0p, ite_true, ite_false, if_true, if_false]
      exact h0 (fun h => ha h.2.1)
  · simp (disch := omega) only [xrI_mk, xrV_mk, xrL_mk, xrR_mk, mg_0, mg_1, mp_2, mg_2, mg_3, mg_4, mp_5, mg_5, mp_6, mg_6, mp_7, mg_7, mp_8, mg_8, mp_9, mg_9, mp_10, mg_10, mp_11, mg_11, mp_12, mg_12, mp_13, mg_13, mp_14, mg_14, mp_15, mg_15, mp_16, mg_16, mg_17, mp_18, mg_18, mp_19, mg_19, mp_20, mg_20, mp_21, mg_21, mg_22, mg_23, mg_24, mg_25, mg_26, mg_27, mg_28, mg_29, mg_30, mg_31, mg_32, mg_33, mg_34, mp_35, mg_35, mp_36, mg_36, mg_37, mg_38, mg_39, ma_1, ms_1, ma_2, ms_2, ma_3, ms_3, ma_4, ms_4, ma_5, ms_5, ma_6, ms_6, ma_9, ms_9, ma_10, ms_10, ma_11, ms_11, ma_12, ms_12, ma_13, ms_13, ma_14, ms_14, ma_15, ms_15, ma_16, ms_16, ma_17, ms_17, ma_18, ms_18, ma_19, ms_19, ma_20, ms_20, ma_21, ms_21, mo_q', ma_L, ms_L, ma_Z, ms_Z, mF_1, mF_2, mWd_1, mWd_w, mWd_2, mA_1, mA_w, mA_a, mA_v, mV_1, mV_w, mV_a, mV_v, mA_mA, mV_mV, mF_mF, nI_add, nI_cl, vpi, i01, i02, i10, i11, ↓reduceIte, not_true_eq_false, not_false_eq_true, and_true, true_and, ne_eq, Nat.reduceAdd, Nat.reduceMul, Nat.reduceSub, Nat.reduceEqDiff, reduceCtorEq, Nat.add_zero, Nat.zero_add, n0p, ite_true, ite_false, if_true, if_false]
    exact h0 (fun h => a h.1)
theorem c_M_bar {v b : Int32}
    (h1 : ∀ r, r < 100 → v = nI r → Q (some (.int 1)) (mM q M0 (mA σ 1 (upd (σ.2.2.1 1) (70 + r) (if b = 0 then 0 else 1)))))
    (h0 : ¬ rm 100 v → Q (some (.int 0)) (mM q M0 σ)) : xEv xP (xprim sa) (d + 2) m_M_bar [.ref q, .int v, .int b] (mM q M0 σ) Q := by
  refine t_M_bar (c_M_isIn (fun a => ?_) (fun a => ?_))
  · obtain ⟨r, hr, rfl⟩ := nI_rng a.1 a.2 (by omega)
    have h1 := h1 r (by omega) rfl
    simp (disch := omega) only [xrI_mk, xrV_mk, xrL_mk, xrR_mk, mg_0, mg_1, mp_2, mg_2, mg_3, mg_4, mp_5, mg_5, mp_6, mg_6, mp_7, mg_7, mp_8, mg_8, mp_9, mg_9, mp_10, mg_10, mp_11, mg_11, mp_12, mg_12, mp_13, mg_13, mp_14, mg_14, mp_15, mg_15, mp_16, mg_16, mg_17, mp_18, mg_18, mp_19, mg_19, mp_20, mg_20, mp_21, mg_21, mg_22, mg_23, mg_24, mg_25, mg_26, mg_27, mg_28, mg_29, mg_30, mg_31, mg_32, mg_33, mg_34, mp_35, mg_35, mp_36, mg_36, mg_37, mg_38, mg_39, ma_1, ms_1, ma_2, ms_2, ma_3, ms_3, ma_4, ms_4, ma_5, ms_5, ma_6, ms_6, ma_9, ms_9, ma_10, ms_10, ma_11, ms_11, ma_12, ms_12, ma_13, ms_13, ma_14, ms_14, ma_15, ms_15, ma_16, ms_16, ma_17, ms_17, ma_18, ms_18, ma_19, ms_19, ma_20, ms_20, ma_21, ms_21, mo_q', ma_L, ms_L, ma_Z, ms_Z, mF_1, mF_2, mWd_1, mWd_w, mWd_2, mA_1, mA_w, mA_a, mA_v, mV_1, mV_w, mV_a, mV_v, mA_mA, mV_mV, mF_mF, nI_add, nI_cl, vpi, i01, i02, i10, i11, ↓reduceIte, not_true_eq_false, not_false_eq_true, and_true, true_and, ne_eq, Nat.reduceAdd, Nat.reduceMul, Nat.reduceSub, Nat.reduceEqDiff, reduceCtorEq, Nat.add_zero, Nat.zero_add, n0p, ite_true, ite_false, if_true, if_false]
    by_cases hb : b = 0
    · rw [if_pos hb] at h1 ⊢
      exact h1
    · rw [if_neg hb] at h1 ⊢
      exact h1
  · simp (disch := omega) only [xrI_mk, xrV_mk, xrL_mk, xrR_mk, mg_0, mg_1, mp_2, mg_2, mg_3, mg_4, mp_5, mg_5, mp_6, mg_6, mp_7, mg_7, mp_8, mg_8, mp_9, mg_9, mp_10, mg_10, mp_11, mg_11, mp_12, mg_12, mp_13, mg_13, mp_14, mg_14, mp_15, mg_15, mp_16, mg_16, mg_17, mp_18, mg_18, mp_19, mg_19, mp_20, mg_20, mp_21, mg_21, mg_22, mg_23, mg_24, mg_25, mg_26, mg_27, mg_28, mg_29, mg_30, mg_31, mg_32, mg_33, mg_34, mp_35, mg_35, mp_36, mg_36, mg_37, mg_38, mg_39, ma_1, ms_1, ma_2, ms_2, ma_3, ms_3, ma_4, ms_4, ma_5, ms_5, ma_6, ms_6, ma_9, ms_9, ma_10, ms_10, ma_11, ms_11, ma_12, ms_12, ma_13, ms_13, ma_14, ms_14, ma_15, ms_15, ma_16, ms_16, ma_17, ms_17, ma_18, ms_18, ma_19, ms_19, ma_20, ms_20, ma_21, ms_21, mo_q', ma_L, ms_L, ma_Z, ms_Z, mF_1, mF_2, mWd_1, mWd_w, mWd_2, mA_1, mA_w, mA_a, mA_v, mV_1, mV_w, mV_a, mV_v, mA_mA, mV_mV, mF_mF, nI_add, nI_cl, vpi, i01, i02, i10, i11, ↓reduceIte, not_true_eq_false, not_false_eq_true, and_true, true_and, ne_eq, Nat.reduceAdd, Nat.reduceMul, Nat.reduceSub, Nat.reduceEqDiff, reduceCtorEq, Nat.add_zero, Nat.zero_add, n0p, ite_true, ite_false, if_true, if_false]
    exact h0 (fun ⟨r, hr, e⟩ => a (by rw [e]; exact ⟨nI_le (by omega) (by omega), nI_le (by omega) (by omega)⟩))
theorem c_M_leftOf (hR : σ.1 2 = nI R) (hR3 : 3 ≤ R) (hR9 : R ≤ 9) {r : Nat} (hr : r < R) (h : Q (some (.int (nI (if r = 0 then R - 1 else r - 1)))) (mM q M0 σ)) : xEv xP (xprim sa) (d + 1) m_M_leftOf [.ref q, .int (nI r)] (mM q M0 σ) Q := by
  refine t_M_leftOf ?_
  by_cases h0 : r = 0
  · subst h0
    rw [if_neg (by decide)]
    simp (disch := omega) only [xrI_mk, xrV_mk, xrL_mk, xrR_mk, mg_0, mg_1, mp_2, mg_2, mg_3, mg_4, mp_5, mg_5, mp_6, mg_6, mp_7, mg_7, mp_8, mg_8, mp_9, mg_9, mp_10, mg_10, mp_11, mg_11, mp_12, mg_12, mp_13, mg_13, mp_14, mg_14, mp_15, mg_15, mp_16, mg_16, mg_17, mp_18, mg_18, mp_19, mg_19, mp_20, mg_20, mp_21, mg_21, mg_22, mg_23, mg_24, mg_25, mg_26, mg_27, mg_28, mg_29, mg_30, mg_31, mg_32, mg_33, mg_34, mp_35, mg_35, mp_36, mg_36, mg_37, mg_38, mg_39, ma_1, ms_1, ma_2, ms_2, ma_3, ms_3, ma_4, ms_4, ma_5, ms_5, ma_6, ms_6, ma_9, ms_9, ma_10, ms_10, ma_11, ms_11, ma_12, ms_12, ma_13, ms_13, ma_14, ms_14, ma_15, ms_15, ma_16, ms_16, ma_17, ms_17, ma_18, ms_18, ma_19, ms_19, ma_20, ms_20, ma_21, ms_21, mo_q', ma_L, ms_L, ma_Z, ms_Z, mF_1, mF_2, mWd_1, mWd_w, mWd_2, mA_1, mA_w, mA_a, mA_v, mV_1, mV_w, mV_a, mV_v, mA_mA, mV_mV, mF_mF, nI_add, nI_cl, vpi, i01, i02, i10, i11, ↓reduceIte, not_true_eq_false, not_false_eq_true, and_true, true_and, ne_eq, Nat.reduceAdd, Nat.reduceMul, Nat.reduceSub, Nat.reduceEqDiff, reduceCtorEq, Nat.add_zero, Nat.zero_add, n0p, ite_true, ite_false, if_true, if_false, hR]
    rw [if_pos rfl] at h
    rw [show nI R - nI 1 = nI (R - 1) from pk_sub (by omega)]
    exact h
  · rw [if_pos (nI_ne0 (by omega) (by omega))]
    rw [if_neg h0] at h
    rw [show nI r - nI 1 = nI (r - 1) from pk_sub (by omega)]
    exact h
theorem c_M_rightOf (hR : σ.1 2 = nI R) (hR3 : 3 ≤ R) (hR9 : R ≤ 9) {r : Nat} (hr : r < R) (h : Q (some (.int (nI (if r + 1 = R then 0 else r + 1)))) (mM q M0 σ)) : xEv xP (xprim sa) (d + 1) m_M_rightOf [.ref q, .int (nI r)] (mM q M0 σ) Q := by
  refine t_M_rightOf ?_
  simp (disch := omega) only [xrI_mk, xrV_mk, xrL_mk, xrR_mk, mg_0, mg_1, mp_2, mg_2, mg_3, mg_4, mp_5, mg_5, mp_6, mg_6, mp_7, mg_7, mp_8, mg_8, mp_9, mg_9, mp_10, mg_10, mp_11, mg_11, mp_12, mg_12, mp_13, mg_13, mp_14, mg_14, mp_15, mg_15, mp_16, mg_16, mg_17, mp_18, mg_18, mp_19, mg_19, mp_20, mg_20, mp_21, mg_21, mg_22, mg_23, mg_24, mg_25, mg_26, mg_27, mg_28, mg_29, mg_30, mg_31, mg_32, mg_33, mg_34, mp_35, mg_35, mp_36, mg_36, mg_37, mg_38, mg_39, ma_1, ms_1, ma_2, ms_2, ma_3, ms_3, ma_4, ms_4, ma_5, ms_5, ma_6, ms_6, ma_9, ms_9, ma_10, ms_10, ma_11, ms_11, ma_12, ms_12, ma_13, ms_13, ma_14, ms_14, ma_15, ms_15, ma_16, ms_16, ma_17, ms_17, ma_18, ms_18, ma_19, ms_19, ma_20, ms_20, ma_21, ms_21, mo_q', ma_L, ms_L, ma_Z, ms_Z, mF_1, mF_2, mWd_1, mWd_w, mWd_2, mA_1, mA_w, mA_a, mA_v, mV_1, mV_w, mV_a, mV_v, mA_mA, mV_mV, mF_mF, nI_add, nI_cl, vpi, i01, i02, i10, i11, ↓reduceIte, not_true_eq_false, not_false_eq_true, and_true, true_and, ne_eq, Nat.reduceAdd, Nat.reduceMul, Nat.reduceSub, Nat.reduceEqDiff, reduceCtorEq, Nat.add_zero, Nat.zero_add, n0p, ite_true, ite_false, if_true, if_false, hR]
  rw [show nI R - nI 1 = nI (R - 1) from pk_sub (by omega)]
  by_cases h0 : r + 1 = R
  · rw [if_neg (not_not_intro (by rw [show R - 1 = r by omega]))]
    rw [if_pos h0] at h
    exact h
  · rw [if_pos (fun e => h0 (by have := (nI_eq (by omega) (by omega)).mp e; omega))]
    rw [if_neg h0] at h
    exact h
end MC1
