/-! the reference works a clause -/
theorem nlT {a b : Nat} (h : a < b) (hb : b < 2 ^ 31) : (nI a < nI b) = True := eq_true (nI_lt h hb)
theorem nlF {a b : Nat} (h : b ≤ a) (ha : a < 2 ^ 31) : (nI a < nI b) = False := eq_false (nI_nlt h ha)
theorem nleT {a b : Nat} (h : a ≤ b) (hb : b < 2 ^ 31) : (nI a ≤ nI b) = True := eq_true (nI_le h hb)
theorem nleF {a b : Nat} (h : b < a) (ha : a < 2 ^ 31) : (nI a ≤ nI b) = False := eq_false (nI_ge h ha)
theorem neT {a b : Nat} (h : a = b) : (nI a = nI b) = True := eq_true (by rw [h])
theorem neF {a b : Nat} (h : a ≠ b) (ha : a < 2 ^ 31) (hb : b < 2 ^ 31) : (nI a = nI b) = False := eq_false (fun e => h ((nI_eq ha hb).mp e))
theorem n0F {a : Nat} (h : 0 < a) (ha : a < 2 ^ 31) : (nI a = 0) = False := eq_false (nI_ne0 h ha)
theorem n0T : (nI 0 = 0) = True := eq_true rfl
theorem nIm1 {a : Nat} (h : 1 ≤ a) : nI a + (-1 : Int32) = nI (a - 1) := by
  rw [show a = (a - 1) + 1 by omega, pk_m1]
  rfl
theorem nIm2 {a : Nat} (h : 2 ≤ a) : nI a + (-2 : Int32) = nI (a - 2) := by
  rw [show (-2 : Int32) = (-1) + (-1) from rfl, ← Int32.add_assoc, nIm1 (by omega), nIm1 (by omega), show a - 1 - 1 = a - 2 by omega]
theorem nlZ {a : Nat} (h : a < 2 ^ 31) : (nI a < 0) = False := eq_false (nI_pos h)
theorem nleZ {a : Nat} (h : a < 2 ^ 31) : (0 ≤ nI a) = True := eq_true (nI_pos' h)
theorem nar_0 : vp_nar .boolean 0 = 0 := rfl
theorem nar_1 : vp_nar .boolean 1 = 1 := rfl
theorem nar_n0 : vp_nar .boolean (nI 0) = nI 0 := rfl
theorem nar_n1 : vp_nar .boolean (nI 1) = nI 1 := rfl
/-- the same but for the arrays of S and the values -/
def sm (S : List Nat) (σ σ' : mS) : Prop := σ'.1 = σ.1 ∧ σ'.2.1 = σ.2.1 ∧ ∀ k, k ∉ S → σ'.2.2.1 k = σ.2.2.1 k
theorem sm_r {S : List Nat} {σ : mS} : sm S σ σ := ⟨rfl, rfl, fun _ _ => rfl⟩
theorem sm_t {S : List Nat} {σ σ' σ'' : mS} (h : sm S σ σ') (h' : sm S σ' σ'') : sm S σ σ'' := ⟨h'.1.trans h.1, h'.2.1.trans h.2.1, fun k hk => (h'.2.2 k hk).trans (h.2.2 k hk)⟩
theorem sm_w {S S' : List Nat} {σ σ' : mS} (h : sm S σ σ') (hs : ∀ k, k ∈ S → k ∈ S') : sm S' σ σ' := ⟨h.1, h.2.1, fun k hk => h.2.2 k (fun a => hk (hs k a))⟩
theorem sm_A {S : List Nat} {σ : mS} {k : Nat} {f : Nat → Int32} (h : k ∈ S) : sm S σ (mA σ k f) := ⟨rfl, rfl, fun j hj => by
  show (if j = k then f else σ.2.2.1 j) = _
  have e : ¬ j = k := fun e => hj (e ▸ h)
  exact if_neg e⟩
theorem sm_V {S : List Nat} {σ : mS} {f : Nat → Int64} : sm S σ (mV σ f) := ⟨rfl, rfl, fun _ _ => rfl⟩
/-- the code l from place i on -/
def cAt (T : Nat → Int32) (c i : Nat) (l : List (Nat × Int32)) : Prop := ∀ j p, l[j]? = some p → T (c + 2 * (i + j)) = nI p.1 ∧ T (c + 2 * (i + j) + 1) = p.2
theorem cAt_l {T : Nat → Int32} {c i : Nat} {a b : List (Nat × Int32)} (h : cAt T c i (a ++ b)) : cAt T c i a := fun j p hp => h j p (by
  have hj : j < a.length := by
    rcases Nat.lt_or_ge j a.length with h | h
    · exact h
    · rw [List.getElem?_eq_none h] at hp; exact nomatch hp
  rw [List.getElem?_append_left hj]; exact hp)
theorem cAt_r {T : Nat → Int32} {c i : Nat} {a b : List (Nat × Int32)} (h : cAt T c i (a ++ b)) : cAt T c (i + a.length) b := fun j p hp => by
  have := h (a.length + j) p (by rw [List.getElem?_append_right (by omega), Nat.add_sub_cancel_left]; exact hp)
  rw [show i + a.length + j = i + (a.length + j) by omega]
  exact this
theorem cAt_1 {T : Nat → Int32} {c i : Nat} {p : Nat × Int32} (h : cAt T c i [p]) : T (c + 2 * i) = nI p.1 ∧ T (c + 2 * i + 1) = p.2 := h 0 p rfl
theorem opZ_21 (x y : Int) : opZ 21 x y = b2z (¬ x = 0 ∧ ¬ y = 0) := by
  unfold opZ
  iterate 10 rw [if_neg (by decide)]
  exact if_pos rfl
theorem opZ_22 (x y : Int) : opZ 22 x y = b2z (¬ x = 0 ∨ ¬ y = 0) := by
  unfold opZ
  iterate 11 rw [if_neg (by decide)]
section MC5
variable {sa : Nat → Nat} {d : Nat} {Q : xQ} {q : Nat} {M0 M : xM} {σ : mS} {R : Nat}
def wK (sa : Nat → Nat) (d : Nat) (Q : xQ) (q : Nat) (M0 : xM) (x c : Nat) (σ : mS) (n m i : Nat) : Prop := K_M_work sa d Q 1 [some (.ref q), none, some (.int (nI x)), some (.int (nI c)), some (.int (nI n)), some (.int (nI m)), some (.int (nI i)), none, none] [] (mM q M0 σ) (0, 0)
variable {x c e n m i : Nat} {v : Int32}
theorem ws0 (hx : σ.2.2.1 3 (x + 2) = nI e) (hi : i < e) (hc : c + 2 * e ≤ 2580) (hx2 : x + 2 < 2580) (h1 : σ.2.2.1 3 (c + 2 * i) = nI 0) (h2 : σ.2.2.1 3 (c + 2 * i + 1) = v) (hn : n < 330) (h : wK sa d Q q M0 x c (mV σ (vp_updL σ.2.2.2 n v.toInt64)) (n + 1) m (i + 1)) : wK sa d Q q M0 x c σ n m i := by
  refine t_M_work_1 ?_
  simp (disch := omega) only [↓i01, ↓i02, ↓xrI_mk, ↓xrV_mk, ↓xrL_mk, ↓xrR_mk, ↓mg_0, ↓mg_1, ↓mp_2, ↓mg_2, ↓mg_3, ↓mg_4, ↓mp_5, ↓mg_5, ↓mp_6, ↓mg_6, ↓mp_7, ↓mg_7, ↓mp_8, ↓mg_8, ↓mp_9, ↓mg_9, ↓mp_10, ↓mg_10, ↓mp_11, ↓mg_11, ↓mp_12, ↓mg_12, ↓mp_13, ↓mg_13, ↓mp_14, ↓mg_14, ↓mp_15, ↓mg_15, ↓mp_16, ↓mg_16, ↓mg_17, ↓mp_18, ↓mg_18, ↓mp_19, ↓mg_19, ↓mp_20, ↓mg_20, ↓mp_21, ↓mg_21, ↓mg_22, ↓mg_23, ↓mg_24, ↓mg_25, ↓mg_26, ↓mg_27, ↓mg_28, ↓mg_29, ↓mg_30, ↓mg_31, ↓mg_32, ↓mg_33, ↓mg_34, ↓mp_35, ↓mg_35, ↓mp_36, ↓mg_36, ↓mg_37, ↓mg_38, ↓mg_39, ↓ma_1, ↓ms_1, ↓ma_2, ↓ms_2, ↓ma_3, ↓ms_3, ↓ma_4, ↓ms_4, ↓ma_5, ↓ms_5, ↓ma_6, ↓ms_6, ↓ma_9, ↓ms_9, ↓ma_10, ↓ms_10, ↓ma_11, ↓ms_11, ↓ma_12, ↓ms_12, ↓ma_13, ↓ms_13, ↓ma_14, ↓ms_14, ↓ma_15, ↓ms_15, ↓ma_16, ↓ms_16, ↓ma_17, ↓ms_17, ↓ma_18, ↓ms_18, ↓ma_19, ↓ms_19, ↓ma_20, ↓ms_20, ↓ma_21, ↓ms_21, ↓mo_q', ↓ma_L, ↓ms_L, ↓ma_Z, ↓ms_Z, mF_1, mF_2, mWd_1, mWd_w, mWd_2, mA_1, mA_w, mA_a, mA_v, mV_1, mV_w, mV_a, mV_v, mA_mA, mV_mV, mF_mF, nI_add, nI_cl, vpi, i01, i02, i10, i11, ↓reduceIte, not_true_eq_false, not_false_eq_true, and_true, true_and, ne_eq, Nat.reduceAdd, Nat.reduceMul, Nat.reduceSub, Nat.reduceEqDiff, reduceCtorEq, Nat.add_zero, Nat.zero_add, n0p, ite_true, ite_false, if_true, if_false, nlT, nlF, nleT, nleF, neT, neF, n0F, n0T, pk_sub, pk_mul, nIm1, nIm2, nlZ, nleZ, upd_s, upd_n, pk_uLs, pk_uLn, nar_0, nar_1, nar_n0, nar_n1, hx, h1, h2]
  exact h
theorem ws1 (hx : σ.2.2.1 3 (x + 2) = nI e) (hi : i < e) (hc : c + 2 * e ≤ 2580) (hx2 : x + 2 < 2580) (h1 : σ.2.2.1 3 (c + 2 * i) = nI 1) {k : Nat} (h2 : σ.2.2.1 3 (c + 2 * i + 1) = nI k) (hk : k < 8) (hn : n < 330) (h : wK sa d Q q M0 x c (mV σ (vp_updL σ.2.2.2 n (σ.2.2.1 6 k).toInt64)) (n + 1) m (i + 1)) : wK sa d Q q M0 x c σ n m i := by
  refine t_M_work_1 ?_
  simp (disch := omega) only [↓i01, ↓i02, ↓xrI_mk, ↓xrV_mk, ↓xrL_mk, ↓xrR_mk, ↓mg_0, ↓mg_1, ↓mp_2, ↓mg_2, ↓mg_3, ↓mg_4, ↓mp_5, ↓mg_5, ↓mp_6, ↓mg_6, ↓mp_7, ↓mg_7, ↓mp_8, ↓mg_8, ↓mp_9, ↓mg_9, ↓mp_10, ↓mg_10, ↓mp_11, ↓mg_11, ↓mp_12, ↓mg_12, ↓mp_13, ↓mg_13, ↓mp_14, ↓mg_14, ↓mp_15, ↓mg_15, ↓mp_16, ↓mg_16, ↓mg_17, ↓mp_18, ↓mg_18, ↓mp_19, ↓mg_19, ↓mp_20, ↓mg_20, ↓mp_21, ↓mg_21, ↓mg_22, ↓mg_23, ↓mg_24, ↓mg_25, ↓mg_26, ↓mg_27, ↓mg_28, ↓mg_29, ↓mg_30, ↓mg_31, ↓mg_32, ↓mg_33, ↓mg_34, ↓mp_35, ↓mg_35, ↓mp_36, ↓mg_36, ↓mg_37, ↓mg_38, ↓mg_39, ↓ma_1, ↓ms_1, ↓ma_2, ↓ms_2, ↓ma_3, ↓ms_3, ↓ma_4, ↓ms_4, ↓ma_5, ↓ms_5, ↓ma_6, ↓ms_6, ↓ma_9, ↓ms_9, ↓ma_10, ↓ms_10, ↓ma_11, ↓ms_11, ↓ma_12, ↓ms_12, ↓ma_13, ↓ms_13, ↓ma_14, ↓ms_14, ↓ma_15, ↓ms_15, ↓ma_16, ↓ms_16, ↓ma_17, ↓ms_17, ↓ma_18, ↓ms_18, ↓ma_19, ↓ms_19, ↓ma_20, ↓ms_20, ↓ma_21, ↓ms_21, ↓mo_q', ↓ma_L, ↓ms_L, ↓ma_Z, ↓ms_Z, mF_1, mF_2, mWd_1, mWd_w, mWd_2, mA_1, mA_w, mA_a, mA_v, mV_1, mV_w, mV_a, mV_v, mA_mA, mV_mV, mF_mF, nI_add, nI_cl, vpi, i01, i02, i10, i11, ↓reduceIte, not_true_eq_false, not_false_eq_true, and_true, true_and, ne_eq, Nat.reduceAdd, Nat.reduceMul, Nat.reduceSub, Nat.reduceEqDiff, reduceCtorEq, Nat.add_zero, Nat.zero_add, n0p, ite_true, ite_false, if_true, if_false, nlT, nlF, nleT, nleF, neT, neF, n0F, n0T, pk_sub, pk_mul, nIm1, nIm2, nlZ, nleZ, upd_s, upd_n, pk_uLs, pk_uLn, nar_0, nar_1, nar_n0, nar_n1, hx, h1, h2]
  exact h
theorem ws2 (hx : σ.2.2.1 3 (x + 2) = nI e) (hi : i < e) (hc : c + 2 * e ≤ 2580) (hx2 : x + 2 < 2580) (h1 : σ.2.2.1 3 (c + 2 * i) = nI 2) (hn0 : 0 < n) (hn : n < 330) (h : wK sa d Q q M0 x c (mV σ (vp_updL σ.2.2.2 (n - 1) (-(σ.2.2.2 (n - 1))))) n m (i + 1)) : wK sa d Q q M0 x c σ n m i := by
  refine t_M_work_1 ?_
  simp (disch := omega) only [↓i01, ↓i02, ↓xrI_mk, ↓xrV_mk, ↓xrL_mk, ↓xrR_mk, ↓mg_0, ↓mg_1, ↓mp_2, ↓mg_2, ↓mg_3, ↓mg_4, ↓mp_5, ↓mg_5, ↓mp_6, ↓mg_6, ↓mp_7, ↓mg_7, ↓mp_8, ↓mg_8, ↓mp_9, ↓mg_9, ↓mp_10, ↓mg_10, ↓mp_11, ↓mg_11, ↓mp_12, ↓mg_12, ↓mp_13, ↓mg_13, ↓mp_14, ↓mg_14, ↓mp_15, ↓mg_15, ↓mp_16, ↓mg_16, ↓mg_17, ↓mp_18, ↓mg_18, ↓mp_19, ↓mg_19, ↓mp_20, ↓mg_20, ↓mp_21, ↓mg_21, ↓mg_22, ↓mg_23, ↓mg_24, ↓mg_25, ↓mg_26, ↓mg_27, ↓mg_28, ↓mg_29, ↓mg_30, ↓mg_31, ↓mg_32, ↓mg_33, ↓mg_34, ↓mp_35, ↓mg_35, ↓mp_36, ↓mg_36, ↓mg_37, ↓mg_38, ↓mg_39, ↓ma_1, ↓ms_1, ↓ma_2, ↓ms_2, ↓ma_3, ↓ms_3, ↓ma_4, ↓ms_4, ↓ma_5, ↓ms_5, ↓ma_6, ↓ms_6, ↓ma_9, ↓ms_9, ↓ma_10, ↓ms_10, ↓ma_11, ↓ms_11, ↓ma_12, ↓ms_12, ↓ma_13, ↓ms_13, ↓ma_14, ↓ms_14, ↓ma_15, ↓ms_15, ↓ma_16, ↓ms_16, ↓ma_17, ↓ms_17, ↓ma_18, ↓ms_18, ↓ma_19, ↓ms_19, ↓ma_20, ↓ms_20, ↓ma_21, ↓ms_21, ↓mo_q', ↓ma_L, ↓ms_L, ↓ma_Z, ↓ms_Z, mF_1, mF_2, mWd_1, mWd_w, mWd_2, mA_1, mA_w, mA_a, mA_v, mV_1, mV_w, mV_a, mV_v, mA_mA, mV_mV, mF_mF, nI_add, nI_cl, vpi, i01, i02, i10, i11, ↓reduceIte, not_true_eq_false, not_false_eq_true, and_true, true_and, ne_eq, Nat.reduceAdd, Nat.reduceMul, Nat.reduceSub, Nat.reduceEqDiff, reduceCtorEq, Nat.add_zero, Nat.zero_add, n0p, ite_true, ite_false, if_true, if_false, nlT, nlF, nleT, nleF, neT, neF, n0F, n0T, pk_sub, pk_mul, nIm1, nIm2, nlZ, nleZ, upd_s, upd_n, pk_uLs, pk_uLn, nar_0, nar_1, nar_n0, nar_n1, hx, h1]
  exact h
theorem ws3 (hx : σ.2.2.1 3 (x + 2) = nI e) (hi : i < e) (hc : c + 2 * e ≤ 2580) (hx2 : x + 2 < 2580) {k : Nat} (hk3 : 3 ≤ k) (hk6 : k ≤ 6) (h1 : σ.2.2.1 3 (c + 2 * i) = nI k) (hn0 : 2 ≤ n) (hn : n < 330) (b1 : bnd (σ.2.2.2 (n - 2)).toInt) (b2 : bnd (σ.2.2.2 (n - 1)).toInt) (h : ∀ r : Int64, r.toInt = opZ k (σ.2.2.2 (n - 2)).toInt (σ.2.2.2 (n - 1)).toInt → wK sa (d + 2) Q q M0 x c (mV σ (vp_updL σ.2.2.2 (n - 2) r)) (n - 1) m (i + 1)) : wK sa (d + 2) Q q M0 x c σ n m i := by
  refine t_M_work_1 ?_
  simp (disch := omega) only [↓i01, ↓i02, ↓xrI_mk, ↓xrV_mk, ↓xrL_mk, ↓xrR_mk, ↓mg_0, ↓mg_1, ↓mp_2, ↓mg_2, ↓mg_3, ↓mg_4, ↓mp_5, ↓mg_5, ↓mp_6, ↓mg_6, ↓mp_7, ↓mg_7, ↓mp_8, ↓mg_8, ↓mp_9, ↓mg_9, ↓mp_10, ↓mg_10, ↓mp_11, ↓mg_11, ↓mp_12, ↓mg_12, ↓mp_13, ↓mg_13, ↓mp_14, ↓mg_14, ↓mp_15, ↓mg_15, ↓mp_16, ↓mg_16, ↓mg_17, ↓mp_18, ↓mg_18, ↓mp_19, ↓mg_19, ↓mp_20, ↓mg_20, ↓mp_21, ↓mg_21, ↓mg_22, ↓mg_23, ↓mg_24, ↓mg_25, ↓mg_26, ↓mg_27, ↓mg_28, ↓mg_29, ↓mg_30, ↓mg_31, ↓mg_32, ↓mg_33, ↓mg_34, ↓mp_35, ↓mg_35, ↓mp_36, ↓mg_36, ↓mg_37, ↓mg_38, ↓mg_39, ↓ma_1, ↓ms_1, ↓ma_2, ↓ms_2, ↓ma_3, ↓ms_3, ↓ma_4, ↓ms_4, ↓ma_5, ↓ms_5, ↓ma_6, ↓ms_6, ↓ma_9, ↓ms_9, ↓ma_10, ↓ms_10, ↓ma_11, ↓ms_11, ↓ma_12, ↓ms_12, ↓ma_13, ↓ms_13, ↓ma_14, ↓ms_14, ↓ma_15, ↓ms_15, ↓ma_16, ↓ms_16, ↓ma_17, ↓ms_17, ↓ma_18, ↓ms_18, ↓ma_19, ↓ms_19, ↓ma_20, ↓ms_20, ↓ma_21, ↓ms_21, ↓mo_q', ↓ma_L, ↓ms_L, ↓ma_Z, ↓ms_Z, mF_1, mF_2, mWd_1, mWd_w, mWd_2, mA_1, mA_w, mA_a, mA_v, mV_1, mV_w, mV_a, mV_v, mA_mA, mV_mV, mF_mF, nI_add, nI_cl, vpi, i01, i02, i10, i11, ↓reduceIte, not_true_eq_false, not_false_eq_true, and_true, true_and, ne_eq, Nat.reduceAdd, Nat.reduceMul, Nat.reduceSub, Nat.reduceEqDiff, reduceCtorEq, Nat.add_zero, Nat.zero_add, n0p, ite_true, ite_false, if_true, if_false, nlT, nlF, nleT, nleF, neT, neF, n0F, n0T, pk_sub, pk_mul, nIm1, nIm2, nlZ, nleZ, upd_s, upd_n, pk_uLs, pk_uLn, nar_0, nar_1, nar_n0, nar_n1, hx, h1]
  refine c_M_two hk3 hk6 b1 b2 (fun r hr => ?_)
  simp (disch := omega) only [↓i01, ↓i02, ↓xrI_mk, ↓xrV_mk, ↓xrL_mk, ↓xrR_mk, ↓mg_0, ↓mg_1, ↓mp_2, ↓mg_2, ↓mg_3, ↓mg_4, ↓mp_5, ↓mg_5, ↓mp_6, ↓mg_6, ↓mp_7, ↓mg_7, ↓mp_8, ↓mg_8, ↓mp_9, ↓mg_9, ↓mp_10, ↓mg_10, ↓mp_11, ↓mg_11, ↓mp_12, ↓mg_12, ↓mp_13, ↓mg_13, ↓mp_14, ↓mg_14, ↓mp_15, ↓mg_15, ↓mp_16, ↓mg_16, ↓mg_17, ↓mp_18, ↓mg_18, ↓mp_19, ↓mg_19, ↓mp_20, ↓mg_20, ↓mp_21, ↓mg_21, ↓mg_22, ↓mg_23, ↓mg_24, ↓mg_25, ↓mg_26, ↓mg_27, ↓mg_28, ↓mg_29, ↓mg_30, ↓mg_31, ↓mg_32, ↓mg_33, ↓mg_34, ↓mp_35, ↓mg_35, ↓mp_36, ↓mg_36, ↓mg_37, ↓mg_38, ↓mg_39, ↓ma_1, ↓ms_1, ↓ma_2, ↓ms_2, ↓ma_3, ↓ms_3, ↓ma_4, ↓ms_4, ↓ma_5, ↓ms_5, ↓ma_6, ↓ms_6, ↓ma_9, ↓ms_9, ↓ma_10, ↓ms_10, ↓ma_11, ↓ms_11, ↓ma_12, ↓ms_12, ↓ma_13, ↓ms_13, ↓ma_14, ↓ms_14, ↓ma_15, ↓ms_15, ↓ma_16, ↓ms_16, ↓ma_17, ↓ms_17, ↓ma_18, ↓ms_18, ↓ma_19, ↓ms_19, ↓ma_20, ↓ms_20, ↓ma_21, ↓ms_21, ↓mo_q', ↓ma_L, ↓ms_L, ↓ma_Z, ↓ms_Z, mF_1, mF_2, mWd_1, mWd_w, mWd_2, mA_1, mA_w, mA_a, mA_v, mV_1, mV_w, mV_a, mV_v, mA_mA, mV_mV, mF_mF, nI_add, nI_cl, vpi, i01, i02, i10, i11, ↓reduceIte, not_true_eq_false, not_false_eq_true, and_true, true_and, ne_eq, Nat.reduceAdd, Nat.reduceMul, Nat.reduceSub, Nat.reduceEqDiff, reduceCtorEq, Nat.add_zero, Nat.zero_add, n0p, ite_true, ite_false, if_true, if_false, nlT, nlF, nleT, nleF, neT, neF, n0F, n0T, pk_sub, pk_mul, nIm1, nIm2, nlZ, nleZ, upd_s, upd_n, pk_uLs, pk_uLn, nar_0, nar_1, nar_n0, nar_n1]
  exact h r hr
theorem nar_b {p : Prop} [Decidable p] : vp_nar .boolean (if p then 0 else 1) = if p then 0 else 1 := by
  split <;> rfl
theorem ws10 (hx : σ.2.2.1 3 (x + 2) = nI e) (hi : i < e) (hc : c + 2 * e ≤ 2580) (hx2 : x + 2 < 2580) {k : Nat} (hk3 : 10 ≤ k) (hk6 : k ≤ 15) (h1 : σ.2.2.1 3 (c + 2 * i) = nI k) (hn0 : 2 ≤ n) (hn : n < 330) (hm : m < 330) (h : wK sa (d + 2) Q q M0 x c (mA σ 8 (upd (σ.2.2.1 8) m (if opZ k (σ.2.2.2 (n - 2)).toInt (σ.2.2.2 (n - 1)).toInt = 0 then 0 else 1))) (n - 2) (m + 1) (i + 1)) : wK sa (d + 2) Q q M0 x c σ n m i := by
  refine t_M_work_1 ?_
  simp (disch := omega) only [↓i01, ↓i02, ↓xrI_mk, ↓xrV_mk, ↓xrL_mk, ↓xrR_mk, ↓mg_0, ↓mg_1, ↓mp_2, ↓mg_2, ↓mg_3, ↓mg_4, ↓mp_5, ↓mg_5, ↓mp_6, ↓mg_6, ↓mp_7, ↓mg_7, ↓mp_8, ↓mg_8, ↓mp_9, ↓mg_9, ↓mp_10, ↓mg_10, ↓mp_11, ↓mg_11, ↓mp_12, ↓mg_12, ↓mp_13, ↓mg_13, ↓mp_14, ↓mg_14, ↓mp_15, ↓mg_15, ↓mp_16, ↓mg_16, ↓mg_17, ↓mp_18, ↓mg_18, ↓mp_19, ↓mg_19, ↓mp_20, ↓mg_20, ↓mp_21, ↓mg_21, ↓mg_22, ↓mg_23, ↓mg_24, ↓mg_25, ↓mg_26, ↓mg_27, ↓mg_28, ↓mg_29, ↓mg_30, ↓mg_31, ↓mg_32, ↓mg_33, ↓mg_34, ↓mp_35, ↓mg_35, ↓mp_36, ↓mg_36, ↓mg_37, ↓mg_38, ↓mg_39, ↓ma_1, ↓ms_1, ↓ma_2, ↓ms_2, ↓ma_3, ↓ms_3, ↓ma_4, ↓ms_4, ↓ma_5, ↓ms_5, ↓ma_6, ↓ms_6, ↓ma_9, ↓ms_9, ↓ma_10, ↓ms_10, ↓ma_11, ↓ms_11, ↓ma_12, ↓ms_12, ↓ma_13, ↓ms_13, ↓ma_14, ↓ms_14, ↓ma_15, ↓ms_15, ↓ma_16, ↓ms_16, ↓ma_17, ↓ms_17, ↓ma_18, ↓ms_18, ↓ma_19, ↓ms_19, ↓ma_20, ↓ms_20, ↓ma_21, ↓ms_21, ↓mo_q', ↓ma_L, ↓ms_L, ↓ma_Z, ↓ms_Z, mF_1, mF_2, mWd_1, mWd_w, mWd_2, mA_1, mA_w, mA_a, mA_v, mV_1, mV_w, mV_a, mV_v, mA_mA, mV_mV, mF_mF, nI_add, nI_cl, vpi, i01, i02, i10, i11, ↓reduceIte, not_true_eq_false, not_false_eq_true, and_true, true_and, ne_eq, Nat.reduceAdd, Nat.reduceMul, Nat.reduceSub, Nat.reduceEqDiff, reduceCtorEq, Nat.add_zero, Nat.zero_add, n0p, ite_true, ite_false, if_true, if_false, nlT, nlF, nleT, nleF, neT, neF, n0F, n0T, pk_sub, pk_mul, nIm1, nIm2, nlZ, nleZ, upd_s, upd_n, pk_uLs, pk_uLn, nar_0, nar_1, nar_n0, nar_n1, hx, h1]
  refine c_M_isAsked hk3 hk6 ?_
  simp (disch := omega) only [↓i01, ↓i02, ↓xrI_mk, ↓xrV_mk, ↓xrL_mk, ↓xrR_mk, ↓mg_0, ↓mg_1, ↓mp_2, ↓mg_2, ↓mg_3, ↓mg_4, ↓mp_5, ↓mg_5, ↓mp_6, ↓mg_6, ↓mp_7, ↓mg_7, ↓mp_8, ↓mg_8, ↓mp_9, ↓mg_9, ↓mp_10, ↓mg_10, ↓mp_11, ↓mg_11, ↓mp_12, ↓mg_12, ↓mp_13, ↓mg_13, ↓mp_14, ↓mg_14, ↓mp_15, ↓mg_15, ↓mp_16, ↓mg_16, ↓mg_17, ↓mp_18, ↓mg_18, ↓mp_19, ↓mg_19, ↓mp_20, ↓mg_20, ↓mp_21, ↓mg_21, ↓mg_22, ↓mg_23, ↓mg_24, ↓mg_25, ↓mg_26, ↓mg_27, ↓mg_28, ↓mg_29, ↓mg_30, ↓mg_31, ↓mg_32, ↓mg_33, ↓mg_34, ↓mp_35, ↓mg_35, ↓mp_36, ↓mg_36, ↓mg_37, ↓mg_38, ↓mg_39, ↓ma_1, ↓ms_1, ↓ma_2, ↓ms_2, ↓ma_3, ↓ms_3, ↓ma_4, ↓ms_4, ↓ma_5, ↓ms_5, ↓ma_6, ↓ms_6, ↓ma_9, ↓ms_9, ↓ma_10, ↓ms_10, ↓ma_11, ↓ms_11, ↓ma_12, ↓ms_12, ↓ma_13, ↓ms_13, ↓ma_14, ↓ms_14, ↓ma_15, ↓ms_15, ↓ma_16, ↓ms_16, ↓ma_17, ↓ms_17, ↓ma_18, ↓ms_18, ↓ma_19, ↓ms_19, ↓ma_20, ↓ms_20, ↓ma_21, ↓ms_21, ↓mo_q', ↓ma_L, ↓ms_L, ↓ma_Z, ↓ms_Z, mF_1, mF_2, mWd_1, mWd_w, mWd_2, mA_1, mA_w, mA_a, mA_v, mV_1, mV_w, mV_a, mV_v, mA_mA, mV_mV, mF_mF, nI_add, nI_cl, vpi, i01, i02, i10, i11, ↓reduceIte, not_true_eq_false, not_false_eq_true, and_true, true_and, ne_eq, Nat.reduceAdd, Nat.reduceMul, Nat.reduceSub, Nat.reduceEqDiff, reduceCtorEq, Nat.add_zero, Nat.zero_add, n0p, ite_true, ite_false, if_true, if_false, nlT, nlF, nleT, nleF, neT, neF, n0F, n0T, pk_sub, pk_mul, nIm1, nIm2, nlZ, nleZ, upd_s, upd_n, pk_uLs, pk_uLn, nar_0, nar_1, nar_n0, nar_n1, nar_b]
  rw [show n - 2 + 1 = n - 1 by omega]
  exact h
theorem ws20 (hx : σ.2.2.1 3 (x + 2) = nI e) (hi : i < e) (hc : c + 2 * e ≤ 2580) (hx2 : x + 2 < 2580) (h1 : σ.2.2.1 3 (c + 2 * i) = nI 20) (hm0 : 1 ≤ m) (hm : m < 330) (h : wK sa d Q q M0 x c (mA σ 8 (upd (σ.2.2.1 8) (m - 1) (if σ.2.2.1 8 (m - 1) = 0 then 1 else 0))) n m (i + 1)) : wK sa d Q q M0 x c σ n m i := by
  refine t_M_work_1 ?_
  simp (disch := omega) only [↓i01, ↓i02, ↓xrI_mk, ↓xrV_mk, ↓xrL_mk, ↓xrR_mk, ↓mg_0, ↓mg_1, ↓mp_2, ↓mg_2, ↓mg_3, ↓mg_4, ↓mp_5, ↓mg_5, ↓mp_6, ↓mg_6, ↓mp_7, ↓mg_7, ↓mp_8, ↓mg_8, ↓mp_9, ↓mg_9, ↓mp_10, ↓mg_10, ↓mp_11, ↓mg_11, ↓mp_12, ↓mg_12, ↓mp_13, ↓mg_13, ↓mp_14, ↓mg_14, ↓mp_15, ↓mg_15, ↓mp_16, ↓mg_16, ↓mg_17, ↓mp_18, ↓mg_18, ↓mp_19, ↓mg_19, ↓mp_20, ↓mg_20, ↓mp_21, ↓mg_21, ↓mg_22, ↓mg_23, ↓mg_24, ↓mg_25, ↓mg_26, ↓mg_27, ↓mg_28, ↓mg_29, ↓mg_30, ↓mg_31, ↓mg_32, ↓mg_33, ↓mg_34, ↓mp_35, ↓mg_35, ↓mp_36, ↓mg_36, ↓mg_37, ↓mg_38, ↓mg_39, ↓ma_1, ↓ms_1, ↓ma_2, ↓ms_2, ↓ma_3, ↓ms_3, ↓ma_4, ↓ms_4, ↓ma_5, ↓ms_5, ↓ma_6, ↓ms_6, ↓ma_9, ↓ms_9, ↓ma_10, ↓ms_10, ↓ma_11, ↓ms_11, ↓ma_12, ↓ms_12, ↓ma_13, ↓ms_13, ↓ma_14, ↓ms_14, ↓ma_15, ↓ms_15, ↓ma_16, ↓ms_16, ↓ma_17, ↓ms_17, ↓ma_18, ↓ms_18, ↓ma_19, ↓ms_19, ↓ma_20, ↓ms_20, ↓ma_21, ↓ms_21, ↓mo_q', ↓ma_L, ↓ms_L, ↓ma_Z, ↓ms_Z, mF_1, mF_2, mWd_1, mWd_w, mWd_2, mA_1, mA_w, mA_a, mA_v, mV_1, mV_w, mV_a, mV_v, mA_mA, mV_mV, mF_mF, nI_add, nI_cl, vpi, i01, i02, i10, i11, ↓reduceIte, not_true_eq_false, not_false_eq_true, and_true, true_and, ne_eq, Nat.reduceAdd, Nat.reduceMul, Nat.reduceSub, Nat.reduceEqDiff, reduceCtorEq, Nat.add_zero, Nat.zero_add, n0p, ite_true, ite_false, if_true, if_false, nlT, nlF, nleT, nleF, neT, neF, n0F, n0T, pk_sub, pk_mul, nIm1, nIm2, nlZ, nleZ, upd_s, upd_n, pk_uLs, pk_uLn, nar_0, nar_1, nar_n0, nar_n1, hx, h1]
  by_cases hz : σ.2.2.1 8 (m - 1) = 0
  · rw [if_pos hz] at h
    rw [if_neg (not_not_intro hz)]
    exact h
  · rw [if_neg hz] at h
    rw [if_pos hz]
    exact h
theorem ws21 (hx : σ.2.2.1 3 (x + 2) = nI e) (hi : i < e) (hc : c + 2 * e ≤ 2580) (hx2 : x + 2 < 2580) (h1 : σ.2.2.1 3 (c + 2 * i) = nI 21) (hm0 : 2 ≤ m) (hm : m < 330) (h : wK sa d Q q M0 x c (mA σ 8 (upd (σ.2.2.1 8) (m - 2) (if ¬ σ.2.2.1 8 (m - 2) = 0 ∧ ¬ σ.2.2.1 8 (m - 1) = 0 then 1 else 0))) n (m - 1) (i + 1)) : wK sa d Q q M0 x c σ n m i := by
  refine t_M_work_1 ?_
  simp (disch := omega) only [↓i01, ↓i02, ↓xrI_mk, ↓xrV_mk, ↓xrL_mk, ↓xrR_mk, ↓mg_0, ↓mg_1, ↓mp_2, ↓mg_2, ↓mg_3, ↓mg_4, ↓mp_5, ↓mg_5, ↓mp_6, ↓mg_6, ↓mp_7, ↓mg_7, ↓mp_8, ↓mg_8, ↓mp_9, ↓mg_9, ↓mp_10, ↓mg_10, ↓mp_11, ↓mg_11, ↓mp_12, ↓mg_12, ↓mp_13, ↓mg_13, ↓mp_14, ↓mg_14, ↓mp_15, ↓mg_15, ↓mp_16, ↓mg_16, ↓mg_17, ↓mp_18, ↓mg_18, ↓mp_19, ↓mg_19, ↓mp_20, ↓mg_20, ↓mp_21, ↓mg_21, ↓mg_22, ↓mg_23, ↓mg_24, ↓mg_25, ↓mg_26, ↓mg_27, ↓mg_28, ↓mg_29, ↓mg_30, ↓mg_31, ↓mg_32, ↓mg_33, ↓mg_34, ↓mp_35, ↓mg_35, ↓mp_36, ↓mg_36, ↓mg_37, ↓mg_38, ↓mg_39, ↓ma_1, ↓ms_1, ↓ma_2, ↓ms_2, ↓ma_3, ↓ms_3, ↓ma_4, ↓ms_4, ↓ma_5, ↓ms_5, ↓ma_6, ↓ms_6, ↓ma_9, ↓ms_9, ↓ma_10, ↓ms_10, ↓ma_11, ↓ms_11, ↓ma_12, ↓ms_12, ↓ma_13, ↓ms_13, ↓ma_14, ↓ms_14, ↓ma_15, ↓ms_15, ↓ma_16, ↓ms_16, ↓ma_17, ↓ms_17, ↓ma_18, ↓ms_18, ↓ma_19, ↓ms_19, ↓ma_20, ↓ms_20, ↓ma_21, ↓ms_21, ↓mo_q', ↓ma_L, ↓ms_L, ↓ma_Z, ↓ms_Z, mF_1, mF_2, mWd_1, mWd_w, mWd_2, mA_1, mA_w, mA_a, mA_v, mV_1, mV_w, mV_a, mV_v, mA_mA, mV_mV, mF_mF, nI_add, nI_cl, vpi, i01, i02, i10, i11, ↓reduceIte, not_true_eq_false, not_false_eq_true, and_true, true_and, ne_eq, Nat.reduceAdd, Nat.reduceMul, Nat.reduceSub, Nat.reduceEqDiff, reduceCtorEq, Nat.add_zero, Nat.zero_add, n0p, ite_true, ite_false, if_true, if_false, nlT, nlF, nleT, nleF, neT, neF, n0F, n0T, pk_sub, pk_mul, nIm1, nIm2, nlZ, nleZ, upd_s, upd_n, pk_uLs, pk_uLn, nar_0, nar_1, nar_n0, nar_n1, hx, h1]
  rw [show m - 1 - 1 = m - 2 by omega]
  by_cases hz : σ.2.2.1 8 (m - 2) = 0
  · rw [if_neg (fun a => a.1 hz)] at h
    rw [if_pos hz]
    exact h
  · rw [if_neg hz]
    by_cases hy : σ.2.2.1 8 (m - 1) = 0
    · rw [if_neg (fun a => a.2 hy)] at h
      rw [if_pos hy]
      exact h
    · rw [if_pos ⟨hz, hy⟩] at h
      rw [if_neg hy]
      exact h
theorem ws22 (hx : σ.2.2.1 3 (x + 2) = nI e) (hi : i < e) (hc : c + 2 * e ≤ 2580) (hx2 : x + 2 < 2580) (h1 : σ.2.2.1 3 (c + 2 * i) = nI 22) (hm0 : 2 ≤ m) (hm : m < 330) (h : wK sa d Q q M0 x c (mA σ 8 (upd (σ.2.2.1 8) (m - 2) (if ¬ σ.2.2.1 8 (m - 2) = 0 ∨ ¬ σ.2.2.1 8 (m - 1) = 0 then 1 else 0))) n (m - 1) (i + 1)) : wK sa d Q q M0 x c σ n m i := by
  refine t_M_work_1 ?_
  simp (disch := omega) only [↓i01, ↓i02, ↓xrI_mk, ↓xrV_mk, ↓xrL_mk, ↓xrR_mk, ↓mg_0, ↓mg_1, ↓mp_2, ↓mg_2, ↓mg_3, ↓mg_4, ↓mp_5, ↓mg_5, ↓mp_6, ↓mg_6, ↓mp_7, ↓mg_7, ↓mp_8, ↓mg_8, ↓mp_9, ↓mg_9, ↓mp_10, ↓mg_10, ↓mp_11, ↓mg_11, ↓mp_12, ↓mg_12, ↓mp_13, ↓mg_13, ↓mp_14, ↓mg_14, ↓mp_15, ↓mg_15, ↓mp_16, ↓mg_16, ↓mg_17, ↓mp_18, ↓mg_18, ↓mp_19, ↓mg_19, ↓mp_20, ↓mg_20, ↓mp_21, ↓mg_21, ↓mg_22, ↓mg_23, ↓mg_24, ↓mg_25, ↓mg_26, ↓mg_27, ↓mg_28, ↓mg_29, ↓mg_30, ↓mg_31, ↓mg_32, ↓mg_33, ↓mg_34, ↓mp_35, ↓mg_35, ↓mp_36, ↓mg_36, ↓mg_37, ↓mg_38, ↓mg_39, ↓ma_1, ↓ms_1, ↓ma_2, ↓ms_2, ↓ma_3, ↓ms_3, ↓ma_4, ↓ms_4, ↓ma_5, ↓ms_5, ↓ma_6, ↓ms_6, ↓ma_9, ↓ms_9, ↓ma_10, ↓ms_10, ↓ma_11, ↓ms_11, ↓ma_12, ↓ms_12, ↓ma_13, ↓ms_13, ↓ma_14, ↓ms_14, ↓ma_15, ↓ms_15, ↓ma_16, ↓ms_16, ↓ma_17, ↓ms_17, ↓ma_18, ↓ms_18, ↓ma_19, ↓ms_19, ↓ma_20, ↓ms_20, ↓ma_21, ↓ms_21, ↓mo_q', ↓ma_L, ↓ms_L, ↓ma_Z, ↓ms_Z, mF_1, mF_2, mWd_1, mWd_w, mWd_2, mA_1, mA_w, mA_a, mA_v, mV_1, mV_w, mV_a, mV_v, mA_mA, mV_mV, mF_mF, nI_add, nI_cl, vpi, i01, i02, i10, i11, ↓reduceIte, not_true_eq_false, not_false_eq_true, and_true, true_and, ne_eq, Nat.reduceAdd, Nat.reduceMul, Nat.reduceSub, Nat.reduceEqDiff, reduceCtorEq, Nat.add_zero, Nat.zero_add, n0p, ite_true, ite_false, if_true, if_false, nlT, nlF, nleT, nleF, neT, neF, n0F, n0T, pk_sub, pk_mul, nIm1, nIm2, nlZ, nleZ, upd_s, upd_n, pk_uLs, pk_uLn, nar_0, nar_1, nar_n0, nar_n1, hx, h1]
  rw [show m - 1 - 1 = m - 2 by omega]
  by_cases hz : σ.2.2.1 8 (m - 2) = 0
  · rw [if_neg (not_not_intro hz)]
    by_cases hy : σ.2.2.1 8 (m - 1) = 0
    · rw [if_neg (fun a => a.elim (fun b => b hz) (fun b => b hy))] at h
      rw [if_pos hy]
      exact h
    · rw [if_pos (Or.inr hy)] at h
      rw [if_neg hy]
      exact h
  · rw [if_pos (Or.inl hz)] at h
    rw [if_pos hz]
    exact h
theorem ws23 (hx : σ.2.2.1 3 (x + 2) = nI e) (hi : i < e) (hc : c + 2 * e ≤ 2580) (hx2 : x + 2 < 2580) (h1 : σ.2.2.1 3 (c + 2 * i) = nI 23) (hn0 : 2 ≤ n) (hn : n < 330) (hm0 : 1 ≤ m) (hm : m < 330) (h : wK sa d Q q M0 x c (mV σ (vp_updL σ.2.2.2 (n - 2) (if σ.2.2.1 8 (m - 1) = 0 then σ.2.2.2 (n - 1) else σ.2.2.2 (n - 2)))) (n - 1) (m - 1) (i + 1)) : wK sa d Q q M0 x c σ n m i := by
  refine t_M_work_1 ?_
  simp (disch := omega) only [↓i01, ↓i02, ↓xrI_mk, ↓xrV_mk, ↓xrL_mk, ↓xrR_mk, ↓mg_0, ↓mg_1, ↓mp_2, ↓mg_2, ↓mg_3, ↓mg_4, ↓mp_5, ↓mg_5, ↓mp_6, ↓mg_6, ↓mp_7, ↓mg_7, ↓mp_8, ↓mg_8, ↓mp_9, ↓mg_9, ↓mp_10, ↓mg_10, ↓mp_11, ↓mg_11, ↓mp_12, ↓mg_12, ↓mp_13, ↓mg_13, ↓mp_14, ↓mg_14, ↓mp_15, ↓mg_15, ↓mp_16, ↓mg_16, ↓mg_17, ↓mp_18, ↓mg_18, ↓mp_19, ↓mg_19, ↓mp_20, ↓mg_20, ↓mp_21, ↓mg_21, ↓mg_22, ↓mg_23, ↓mg_24, ↓mg_25, ↓mg_26, ↓mg_27, ↓mg_28, ↓mg_29, ↓mg_30, ↓mg_31, ↓mg_32, ↓mg_33, ↓mg_34, ↓mp_35, ↓mg_35, ↓mp_36, ↓mg_36, ↓mg_37, ↓mg_38, ↓mg_39, ↓ma_1, ↓ms_1, ↓ma_2, ↓ms_2, ↓ma_3, ↓ms_3, ↓ma_4, ↓ms_4, ↓ma_5, ↓ms_5, ↓ma_6, ↓ms_6, ↓ma_9, ↓ms_9, ↓ma_10, ↓ms_10, ↓ma_11, ↓ms_11, ↓ma_12, ↓ms_12, ↓ma_13, ↓ms_13, ↓ma_14, ↓ms_14, ↓ma_15, ↓ms_15, ↓ma_16, ↓ms_16, ↓ma_17, ↓ms_17, ↓ma_18, ↓ms_18, ↓ma_19, ↓ms_19, ↓ma_20, ↓ms_20, ↓ma_21, ↓ms_21, ↓mo_q', ↓ma_L, ↓ms_L, ↓ma_Z, ↓ms_Z, mF_1, mF_2, mWd_1, mWd_w, mWd_2, mA_1, mA_w, mA_a, mA_v, mV_1, mV_w, mV_a, mV_v, mA_mA, mV_mV, mF_mF, nI_add, nI_cl, vpi, i01, i02, i10, i11, ↓reduceIte, not_true_eq_false, not_false_eq_true, and_true, true_and, ne_eq, Nat.reduceAdd, Nat.reduceMul, Nat.reduceSub, Nat.reduceEqDiff, reduceCtorEq, Nat.add_zero, Nat.zero_add, n0p, ite_true, ite_false, if_true, if_false, nlT, nlF, nleT, nleF, neT, neF, n0F, n0T, pk_sub, pk_mul, nIm1, nIm2, nlZ, nleZ, upd_s, upd_n, pk_uLs, pk_uLn, nar_0, nar_1, nar_n0, nar_n1, hx, h1]
  rw [show n - 1 - 1 = n - 2 by omega]
  by_cases hz : σ.2.2.1 8 (m - 1) = 0
  · rw [if_pos hz] at h ⊢
    exact h
  · rw [if_neg hz] at h ⊢
    exact h
theorem pf_pos : ∀ (t : Term) (s : Bool), wf t s → 1 ≤ (pf t).length
  | .int v, s, _ => Nat.le_refl 1
  | .arg k, s, _ => Nat.le_refl 1
  | .sub (.index k) a, s, _ => by
    show 1 ≤ (pf a ++ [(k, 0)]).length
    rw [List.length_append]; exact Nat.le_add_left 1 _
  | .add (.index k) (.elem a b), s, _ => by
    show 1 ≤ (pf a ++ (pf b ++ [(k, 0)])).length
    rw [List.length_append, List.length_append, ← Nat.add_assoc]; exact Nat.le_add_left 1 _
  | .mul g (.elem a b), s, _ => by
    show 1 ≤ (pf g ++ (pf a ++ (pf b ++ [(23, 0)]))).length
    rw [List.length_append, List.length_append, List.length_append, ← Nat.add_assoc, ← Nat.add_assoc]; exact Nat.le_add_left 1 _
/-- what a sum or a question leaves -/
def wR (s : Bool) (z : Int) (n m : Nat) (σ : mS) : Prop := match s with
  | true => σ.2.2.1 8 m = (if z = 0 then 0 else 1)
  | false => (σ.2.2.2 n).toInt = z
theorem wk_t {env : Nat → Int} (he : ∀ j, j < 8 → bnd (env j)) {x c e : Nat} (hc : c + 2 * e ≤ 2580) (hx2 : x + 2 < 2580) (he3 : e < 320) {T : Nat → Int32} (hx : T (x + 2) = nI e) : ∀ (t : Term) (s : Bool), wf t s → ∀ (σ : mS) (i n m : Nat), σ.2.2.1 3 = T → (∀ j, j < 8 → (σ.2.2.1 6 j).toInt = env j) → cAt T c i (pf t) → i + (pf t).length ≤ e → n ≤ i → m ≤ i →
    (∀ σ' : mS, sm [8] σ σ' → (∀ j, j < n → σ'.2.2.2 j = σ.2.2.2 j) → (∀ j, j < m → σ'.2.2.1 8 j = σ.2.2.1 8 j) → wR s (tv env t) n m σ' → wK sa (d + 2) Q q M0 x c σ' (cond s n (n + 1)) (cond s (m + 1) m) (i + (pf t).length)) → wK sa (d + 2) Q q M0 x c σ n m i
  | .int v, s, hw, σ, i, n, m, hT, hE, hC, hL, hn, hm, h => by
    have hw1 := hw.1
    subst hw1
    have h1 := cAt_1 hC
    have hL : i + 1 ≤ e := hL
    subst hT
    refine ws0 hx (by omega) hc hx2 h1.1 h1.2 (by omega) (h _ sm_V (fun j hj => pk_uLn (by omega)) (fun _ _ => rfl) ?_)
    show (vp_updL σ.2.2.2 n v.toInt64 n).toInt = v.toInt
    rw [pk_uLs, Int32.toInt_toInt64]
  | .arg k, s, hw, σ, i, n, m, hT, hE, hC, hL, hn, hm, h => by
    have hw1 := hw.1
    have hk : k < 8 := hw.2
    subst hw1
    have h1 := cAt_1 hC
    have hL : i + 1 ≤ e := hL
    subst hT
    refine ws1 hx (by omega) hc hx2 h1.1 h1.2 hk (by omega) (h _ sm_V (fun j hj => pk_uLn (by omega)) (fun _ _ => rfl) ?_)
    show (vp_updL σ.2.2.2 n _ n).toInt = env k
    rw [pk_uLs, Int32.toInt_toInt64, hE k hk]
  | .sub (.index k) a, s, hw, σ, i, n, m, hT, hE, hC, hL, hn, hm, h => by
    have h1 := cAt_1 (cAt_r (show cAt T c i (pf a ++ [(k, 0)]) from hC))
    have hl : i + (pf (.sub (.index k) a)).length = i + (pf a).length + 1 := by
      show i + (pf a ++ [(k, 0)]).length = _
      rw [List.length_append]; rfl
    rw [hl] at hL h
    cases s with
    | false =>
      have hk : k = 2 := hw.1
      subst hk
      have ha : wf a false := hw.2
      have pa := pf_pos a false ha
      refine wk_t he hc hx2 he3 hx a false ha σ i n m hT hE (cAt_l hC) (by omega) hn hm (fun σ' g1 g2 g3 g4 => ?_)
      have hT' : σ'.2.2.1 3 = T := (g1.2.2 3 (by decide)).trans hT
      refine ws2 (by rw [hT']; exact hx) (by omega) hc hx2 (by rw [hT']; exact h1.1) (by show 0 < n + 1; omega) (by show n + 1 < 330; omega) ?_
      refine h (mV σ' (vp_updL σ'.2.2.2 n (-(σ'.2.2.2 n)))) (sm_t g1 sm_V) (fun j hj => ?_) g3 ?_
      · exact (pk_uLn (by show j ≠ n; omega)).trans (g2 j hj)
      · show (vp_updL σ'.2.2.2 n (-(σ'.2.2.2 n)) n).toInt = (if 2 = 2 then - tv env a else _)
        have g4 : (σ'.2.2.2 n).toInt = tv env a := g4
        rw [pk_uLs, if_pos rfl, l_neg (by rw [g4]; exact tv_bnd he a false ha), g4]
    | true =>
      have hk : k = 20 := hw.1
      subst hk
      have ha : wf a true := hw.2
      have pa := pf_pos a true ha
      refine wk_t he hc hx2 he3 hx a true ha σ i n m hT hE (cAt_l hC) (by omega) hn hm (fun σ' g1 g2 g3 g4 => ?_)
      have hT' : σ'.2.2.1 3 = T := (g1.2.2 3 (by decide)).trans hT
      refine ws20 (by rw [hT']; exact hx) (by omega) hc hx2 (by rw [hT']; exact h1.1) (by show 1 ≤ m + 1; omega) (by show m + 1 < 330; omega) ?_
      have g4 : σ'.2.2.1 8 m = (if tv env a = 0 then 0 else 1) := g4
      refine h (mA σ' 8 (upd (σ'.2.2.1 8) m (if σ'.2.2.1 8 m = 0 then 1 else 0))) (sm_t g1 (sm_A (by decide))) g2 (fun j hj => ?_) ?_
      · simp (disch := omega) only [↓i01, ↓i02, ↓xrI_mk, ↓xrV_mk, ↓xrL_mk, ↓xrR_mk, ↓mg_0, ↓mg_1, ↓mp_2, ↓mg_2, ↓mg_3, ↓mg_4, ↓mp_5, ↓mg_5, ↓mp_6, ↓mg_6, ↓mp_7, ↓mg_7, ↓mp_8, ↓mg_8, ↓mp_9, ↓mg_9, ↓mp_10, ↓mg_10, ↓mp_11, ↓mg_11, ↓mp_12, ↓mg_12, ↓mp_13, ↓mg_13, ↓mp_14, ↓mg_14, ↓mp_15, ↓mg_15, ↓mp_16, ↓mg_16, ↓mg_17, ↓mp_18, ↓mg_18, ↓mp_19, ↓mg_19, ↓mp_20, ↓mg_20, ↓mp_21, ↓mg_21, ↓mg_22, ↓mg_23, ↓mg_24, ↓mg_25, ↓mg_26, ↓mg_27, ↓mg_28, ↓mg_29, ↓mg_30, ↓mg_31, ↓mg_32, ↓mg_33, ↓mg_34, ↓mp_35, ↓mg_35, ↓mp_36, ↓mg_36, ↓mg_37, ↓mg_38, ↓mg_39, ↓ma_1, ↓ms_1, ↓ma_2, ↓ms_2, ↓ma_3, ↓ms_3, ↓ma_4, ↓ms_4, ↓ma_5, ↓ms_5, ↓ma_6, ↓ms_6, ↓ma_9, ↓ms_9, ↓ma_10, ↓ms_10, ↓ma_11, ↓ms_11, ↓ma_12, ↓ms_12, ↓ma_13, ↓ms_13, ↓ma_14, ↓ms_14, ↓ma_15, ↓ms_15, ↓ma_16, ↓ms_16, ↓ma_17, ↓ms_17, ↓ma_18, ↓ms_18, ↓ma_19, ↓ms_19, ↓ma_20, ↓ms_20, ↓ma_21, ↓ms_21, ↓mo_q', ↓ma_L, ↓ms_L, ↓ma_Z, ↓ms_Z, mF_1, mF_2, mWd_1, mWd_w, mWd_2, mA_1, mA_w, mA_a, mA_v, mV_1, mV_w, mV_a, mV_v, mA_mA, mV_mV, mF_mF, nI_add, nI_cl, vpi, i01, i02, i10, i11, ↓reduceIte, not_true_eq_false, not_false_eq_true, and_true, true_and, ne_eq, Nat.reduceAdd, Nat.reduceMul, Nat.reduceSub, Nat.reduceEqDiff, reduceCtorEq, Nat.add_zero, Nat.zero_add, n0p, ite_true, ite_false, if_true, if_false, nlT, nlF, nleT, nleF, neT, neF, n0F, n0T, pk_sub, pk_mul, nIm1, nIm2, nlZ, nleZ, upd_s, upd_n, pk_uLs, pk_uLn, nar_0, nar_1, nar_n0, nar_n1]
        exact (g3 j hj)
      · show (if (8 : Nat) = 8 then upd (σ'.2.2.1 8) m (if σ'.2.2.1 8 m = 0 then 1 else 0) else fun _ => 0) m = (if b2z (tv env a = 0) = 0 then 0 else 1)
        rw [if_pos rfl, upd_s, g4]
        unfold b2z
        by_cases hz : tv env a = 0
        · rw [if_pos hz, if_pos hz]; rfl
        · rw [if_neg hz, if_neg hz]; rfl
  | .add (.index k) (.elem a b), s, hw, σ, i, n, m, hT, hE, hC, hL, hn, hm, h => by
    have hC : cAt T c i (pf a ++ (pf b ++ [(k, 0)])) := hC
    have h1 := cAt_1 (cAt_r (cAt_r hC))
    have hl : i + (pf (.add (.index k) (.elem a b))).length = i + (pf a).length + (pf b).length + 1 := by
      show i + (pf a ++ (pf b ++ [(k, 0)])).length = _
      rw [List.length_append, List.length_append, ← Nat.add_assoc, ← Nat.add_assoc]; rfl
    rw [hl] at hL h
    have h1' : T (c + 2 * (i + (pf a).length + (pf b).length)) = nI k := h1.1
    cases s with
    | false =>
      have hw : 3 ≤ k ∧ k ≤ 6 ∧ wf a false ∧ wf b false := hw
      have pa := pf_pos a false hw.2.2.1
      have pb := pf_pos b false hw.2.2.2
      refine wk_t he hc hx2 he3 hx a false hw.2.2.1 σ i n m hT hE (cAt_l hC) (by omega) hn hm (fun σ' g1 g2 g3 g4 => ?_)
      have hT' : σ'.2.2.1 3 = T := (g1.2.2 3 (by decide)).trans hT
      refine wk_t he hc hx2 he3 hx b false hw.2.2.2 σ' _ (n + 1) m hT' (fun j hj => by rw [g1.2.2 6 (by decide)]; exact hE j hj) (cAt_l (cAt_r hC)) (by omega) (by omega) (by omega) (fun σ'' f1 f2 f3 f4 => ?_)
      have hT'' : σ''.2.2.1 3 = T := (f1.2.2 3 (by decide)).trans hT'
      have ea : (σ''.2.2.2 n).toInt = tv env a := by rw [f2 n (by omega)]; exact g4
      have eb : (σ''.2.2.2 (n + 1)).toInt = tv env b := f4
      refine ws3 (by rw [hT'']; exact hx) (by omega) hc hx2 hw.1 hw.2.1 (by rw [hT'']; exact h1') (by show 2 ≤ n + 2; omega) (by show n + 2 < 330; omega) ?_ ?_ (fun r hr => ?_)
      · show bnd (σ''.2.2.2 n).toInt
        rw [ea]; exact tv_bnd he a false hw.2.2.1
      · show bnd (σ''.2.2.2 (n + 1)).toInt
        rw [eb]; exact tv_bnd he b false hw.2.2.2
      · have hr : r.toInt = opZ k (σ''.2.2.2 n).toInt (σ''.2.2.2 (n + 1)).toInt := hr
        refine h (mV σ'' (vp_updL σ''.2.2.2 n r)) (sm_t g1 (sm_t f1 sm_V)) (fun j hj => ?_) (fun j hj => (f3 j hj).trans (g3 j hj)) ?_
        · exact (pk_uLn (by show j ≠ n; omega)).trans ((f2 j (by omega)).trans (g2 j hj))
        · show (vp_updL σ''.2.2.2 n r n).toInt = opZ k (tv env a) (tv env b)
          rw [pk_uLs, hr, ea, eb]
    | true =>
      have hw : (10 ≤ k ∧ k ≤ 15 ∧ wf a false ∧ wf b false) ∨ ((k = 21 ∨ k = 22) ∧ wf a true ∧ wf b true) := hw
      rcases hw with hw | hw
      · have pa := pf_pos a false hw.2.2.1
        have pb := pf_pos b false hw.2.2.2
        refine wk_t he hc hx2 he3 hx a false hw.2.2.1 σ i n m hT hE (cAt_l hC) (by omega) hn hm (fun σ' g1 g2 g3 g4 => ?_)
        have hT' : σ'.2.2.1 3 = T := (g1.2.2 3 (by decide)).trans hT
        refine wk_t he hc hx2 he3 hx b false hw.2.2.2 σ' _ (n + 1) m hT' (fun j hj => by rw [g1.2.2 6 (by decide)]; exact hE j hj) (cAt_l (cAt_r hC)) (by omega) (by omega) (by omega) (fun σ'' f1 f2 f3 f4 => ?_)
        have hT'' : σ''.2.2.1 3 = T := (f1.2.2 3 (by decide)).trans hT'
        have ea : (σ''.2.2.2 n).toInt = tv env a := by rw [f2 n (by omega)]; exact g4
        have eb : (σ''.2.2.2 (n + 1)).toInt = tv env b := f4
        refine ws10 (by rw [hT'']; exact hx) (by omega) hc hx2 hw.1 hw.2.1 (by rw [hT'']; exact h1') (by show 2 ≤ n + 2; omega) (by show n + 2 < 330; omega) (by show m < 330; omega) ?_
        refine h (mA σ'' 8 (upd (σ''.2.2.1 8) m (if opZ k (σ''.2.2.2 n).toInt (σ''.2.2.2 (n + 1)).toInt = 0 then 0 else 1))) (sm_t g1 (sm_t f1 (sm_A (by decide)))) (fun j hj => (f2 j (by omega)).trans (g2 j hj)) (fun j hj => ?_) ?_
        · simp (disch := omega) only [↓i01, ↓i02, ↓xrI_mk, ↓xrV_mk, ↓xrL_mk, ↓xrR_mk, ↓mg_0, ↓mg_1, ↓mp_2, ↓mg_2, ↓mg_3, ↓mg_4, ↓mp_5, ↓mg_5, ↓mp_6, ↓mg_6, ↓mp_7, ↓mg_7, ↓mp_8, ↓mg_8, ↓mp_9, ↓mg_9, ↓mp_10, ↓mg_10, ↓mp_11, ↓mg_11, ↓mp_12, ↓mg_12, ↓mp_13, ↓mg_13, ↓mp_14, ↓mg_14, ↓mp_15, ↓mg_15, ↓mp_16, ↓mg_16, ↓mg_17, ↓mp_18, ↓mg_18, ↓mp_19, ↓mg_19, ↓mp_20, ↓mg_20, ↓mp_21, ↓mg_21, ↓mg_22, ↓mg_23, ↓mg_24, ↓mg_25, ↓mg_26, ↓mg_27, ↓mg_28, ↓mg_29, ↓mg_30, ↓mg_31, ↓mg_32, ↓mg_33, ↓mg_34, ↓mp_35, ↓mg_35, ↓mp_36, ↓mg_36, ↓mg_37, ↓mg_38, ↓mg_39, ↓ma_1, ↓ms_1, ↓ma_2, ↓ms_2, ↓ma_3, ↓ms_3, ↓ma_4, ↓ms_4, ↓ma_5, ↓ms_5, ↓ma_6, ↓ms_6, ↓ma_9, ↓ms_9, ↓ma_10, ↓ms_10, ↓ma_11, ↓ms_11, ↓ma_12, ↓ms_12, ↓ma_13, ↓ms_13, ↓ma_14, ↓ms_14, ↓ma_15, ↓ms_15, ↓ma_16, ↓ms_16, ↓ma_17, ↓ms_17, ↓ma_18, ↓ms_18, ↓ma_19, ↓ms_19, ↓ma_20, ↓ms_20, ↓ma_21, ↓ms_21, ↓mo_q', ↓ma_L, ↓ms_L, ↓ma_Z, ↓ms_Z, mF_1, mF_2, mWd_1, mWd_w, mWd_2, mA_1, mA_w, mA_a, mA_v, mV_1, mV_w, mV_a, mV_v, mA_mA, mV_mV, mF_mF, nI_add, nI_cl, vpi, i01, i02, i10, i11, ↓reduceIte, not_true_eq_false, not_false_eq_true, and_true, true_and, ne_eq, Nat.reduceAdd, Nat.reduceMul, Nat.reduceSub, Nat.reduceEqDiff, reduceCtorEq, Nat.add_zero, Nat.zero_add, n0p, ite_true, ite_false, if_true, if_false, nlT, nlF, nleT, nleF, neT, neF, n0F, n0T, pk_sub, pk_mul, nIm1, nIm2, nlZ, nleZ, upd_s, upd_n, pk_uLs, pk_uLn, nar_0, nar_1, nar_n0, nar_n1]
          exact ((f3 j hj).trans (g3 j hj))
        · show (if (8 : Nat) = 8 then upd (σ''.2.2.1 8) m (if opZ k (σ''.2.2.2 n).toInt (σ''.2.2.2 (n + 1)).toInt = 0 then 0 else 1) else fun _ => 0) m = (if opZ k (tv env a) (tv env b) = 0 then 0 else 1)
          rw [if_pos rfl, upd_s, ea, eb]
      · have pa := pf_pos a true hw.2.1
        have pb := pf_pos b true hw.2.2
        refine wk_t he hc hx2 he3 hx a true hw.2.1 σ i n m hT hE (cAt_l hC) (by omega) hn hm (fun σ' g1 g2 g3 g4 => ?_)
        have hT' : σ'.2.2.1 3 = T := (g1.2.2 3 (by decide)).trans hT
        refine wk_t he hc hx2 he3 hx b true hw.2.2 σ' _ n (m + 1) hT' (fun j hj => by rw [g1.2.2 6 (by decide)]; exact hE j hj) (cAt_l (cAt_r hC)) (by omega) (by omega) (by omega) (fun σ'' f1 f2 f3 f4 => ?_)
        have hT'' : σ''.2.2.1 3 = T := (f1.2.2 3 (by decide)).trans hT'
        have ea : σ''.2.2.1 8 m = (if tv env a = 0 then 0 else 1) := by rw [f3 m (by omega)]; exact g4
        have eb : σ''.2.2.1 8 (m + 1) = (if tv env b = 0 then 0 else 1) := f4
        have za : σ''.2.2.1 8 m = 0 ↔ tv env a = 0 := by
          rw [ea]; by_cases hz : tv env a = 0
          · rw [if_pos hz]; exact ⟨fun _ => hz, fun _ => rfl⟩
          · rw [if_neg hz]; exact ⟨fun e => absurd e (by decide), fun e => absurd e hz⟩
        have zb : σ''.2.2.1 8 (m + 1) = 0 ↔ tv env b = 0 := by
          rw [eb]; by_cases hz : tv env b = 0
          · rw [if_pos hz]; exact ⟨fun _ => hz, fun _ => rfl⟩
          · rw [if_neg hz]; exact ⟨fun e => absurd e (by decide), fun e => absurd e hz⟩
        have hs : sm [8] σ σ'' := sm_t g1 f1
        rcases hw.1 with hk | hk
        · subst hk
          refine ws21 (by rw [hT'']; exact hx) (by omega) hc hx2 (by rw [hT'']; exact h1') (by show 2 ≤ m + 2; omega) (by show m + 2 < 330; omega) ?_
          refine h (mA σ'' 8 (upd (σ''.2.2.1 8) m (if ¬ σ''.2.2.1 8 m = 0 ∧ ¬ σ''.2.2.1 8 (m + 1) = 0 then 1 else 0))) (sm_t hs (sm_A (by decide))) (fun j hj => (f2 j (by omega)).trans (g2 j hj)) (fun j hj => ?_) ?_
          · simp (disch := omega) only [↓i01, ↓i02, ↓xrI_mk, ↓xrV_mk, ↓xrL_mk, ↓xrR_mk, ↓mg_0, ↓mg_1, ↓mp_2, ↓mg_2, ↓mg_3, ↓mg_4, ↓mp_5, ↓mg_5, ↓mp_6, ↓mg_6, ↓mp_7, ↓mg_7, ↓mp_8, ↓mg_8, ↓mp_9, ↓mg_9, ↓mp_10, ↓mg_10, ↓mp_11, ↓mg_11, ↓mp_12, ↓mg_12, ↓mp_13, ↓mg_13, ↓mp_14, ↓mg_14, ↓mp_15, ↓mg_15, ↓mp_16, ↓mg_16, ↓mg_17, ↓mp_18, ↓mg_18, ↓mp_19, ↓mg_19, ↓mp_20, ↓mg_20, ↓mp_21, ↓mg_21, ↓mg_22, ↓mg_23, ↓mg_24, ↓mg_25, ↓mg_26, ↓mg_27, ↓mg_28, ↓mg_29, ↓mg_30, ↓mg_31, ↓mg_32, ↓mg_33, ↓mg_34, ↓mp_35, ↓mg_35, ↓mp_36, ↓mg_36, ↓mg_37, ↓mg_38, ↓mg_39, ↓ma_1, ↓ms_1, ↓ma_2, ↓ms_2, ↓ma_3, ↓ms_3, ↓ma_4, ↓ms_4, ↓ma_5, ↓ms_5, ↓ma_6, ↓ms_6, ↓ma_9, ↓ms_9, ↓ma_10, ↓ms_10, ↓ma_11, ↓ms_11, ↓ma_12, ↓ms_12, ↓ma_13, ↓ms_13, ↓ma_14, ↓ms_14, ↓ma_15, ↓ms_15, ↓ma_16, ↓ms_16, ↓ma_17, ↓ms_17, ↓ma_18, ↓ms_18, ↓ma_19, ↓ms_19, ↓ma_20, ↓ms_20, ↓ma_21, ↓ms_21, ↓mo_q', ↓ma_L, ↓ms_L, ↓ma_Z, ↓ms_Z, mF_1, mF_2, mWd_1, mWd_w, mWd_2, mA_1, mA_w, mA_a, mA_v, mV_1, mV_w, mV_a, mV_v, mA_mA, mV_mV, mF_mF, nI_add, nI_cl, vpi, i01, i02, i10, i11, ↓reduceIte, not_true_eq_false, not_false_eq_true, and_true, true_and, ne_eq, Nat.reduceAdd, Nat.reduceMul, Nat.reduceSub, Nat.reduceEqDiff, reduceCtorEq, Nat.add_zero, Nat.zero_add, n0p, ite_true, ite_false, if_true, if_false, nlT, nlF, nleT, nleF, neT, neF, n0F, n0T, pk_sub, pk_mul, nIm1, nIm2, nlZ, nleZ, upd_s, upd_n, pk_uLs, pk_uLn, nar_0, nar_1, nar_n0, nar_n1]
            exact ((f3 j (by omega)).trans (g3 j hj))
          · show (if (8 : Nat) = 8 then upd (σ''.2.2.1 8) m (if ¬ σ''.2.2.1 8 m = 0 ∧ ¬ σ''.2.2.1 8 (m + 1) = 0 then 1 else 0) else fun _ => 0) m = (if opZ 21 (tv env a) (tv env b) = 0 then 0 else 1)
            rw [if_pos rfl, upd_s, opZ_21]
            unfold b2z
            by_cases hz : ¬ tv env a = 0 ∧ ¬ tv env b = 0
            · rw [if_pos hz, if_pos ⟨fun e => hz.1 (za.mp e), fun e => hz.2 (zb.mp e)⟩]; rfl
            · rw [if_neg hz, if_neg (fun a => hz ⟨fun e => a.1 (za.mpr e), fun e => a.2 (zb.mpr e)⟩)]; rfl
        · subst hk
          refine ws22 (by rw [hT'']; exact hx) (by omega) hc hx2 (by rw [hT'']; exact h1') (by show 2 ≤ m + 2; omega) (by show m + 2 < 330; omega) ?_
          refine h (mA σ'' 8 (upd (σ''.2.2.1 8) m (if ¬ σ''.2.2.1 8 m = 0 ∨ ¬ σ''.2.2.1 8 (m + 1) = 0 then 1 else 0))) (sm_t hs (sm_A (by decide))) (fun j hj => (f2 j (by omega)).trans (g2 j hj)) (fun j hj => ?_) ?_
          · simp (disch := omega) only [↓i01, ↓i02, ↓xrI_mk, ↓xrV_mk, ↓xrL_mk, ↓xrR_mk, ↓mg_0, ↓mg_1, ↓mp_2, ↓mg_2, ↓mg_3, ↓mg_4, ↓mp_5, ↓mg_5, ↓mp_6, ↓mg_6, ↓mp_7, ↓mg_7, ↓mp_8, ↓mg_8, ↓mp_9, ↓mg_9, ↓mp_10, ↓mg_10, ↓mp_11, ↓mg_11, ↓mp_12, ↓mg_12, ↓mp_13, ↓mg_13, ↓mp_14, ↓mg_14, ↓mp_15, ↓mg_15, ↓mp_16, ↓mg_16, ↓mg_17, ↓mp_18, ↓mg_18, ↓mp_19, ↓mg_19, ↓mp_20, ↓mg_20, ↓mp_21, ↓mg_21, ↓mg_22, ↓mg_23, ↓mg_24, ↓mg_25, ↓mg_26, ↓mg_27, ↓mg_28, ↓mg_29, ↓mg_30, ↓mg_31, ↓mg_32, ↓mg_33, ↓mg_34, ↓mp_35, ↓mg_35, ↓mp_36, ↓mg_36, ↓mg_37, ↓mg_38, ↓mg_39, ↓ma_1, ↓ms_1, ↓ma_2, ↓ms_2, ↓ma_3, ↓ms_3, ↓ma_4, ↓ms_4, ↓ma_5, ↓ms_5, ↓ma_6, ↓ms_6, ↓ma_9, ↓ms_9, ↓ma_10, ↓ms_10, ↓ma_11, ↓ms_11, ↓ma_12, ↓ms_12, ↓ma_13, ↓ms_13, ↓ma_14, ↓ms_14, ↓ma_15, ↓ms_15, ↓ma_16, ↓ms_16, ↓ma_17, ↓ms_17, ↓ma_18, ↓ms_18, ↓ma_19, ↓ms_19, ↓ma_20, ↓ms_20, ↓ma_21, ↓ms_21, ↓mo_q', ↓ma_L, ↓ms_L, ↓ma_Z, ↓ms_Z, mF_1, mF_2, mWd_1, mWd_w, mWd_2, mA_1, mA_w, mA_a, mA_v, mV_1, mV_w, mV_a, mV_v, mA_mA, mV_mV, mF_mF, nI_add, nI_cl, vpi, i01, i02, i10, i11, ↓reduceIte, not_true_eq_false, not_false_eq_true, and_true, true_and, ne_eq, Nat.reduceAdd, Nat.reduceMul, Nat.reduceSub, Nat.reduceEqDiff, reduceCtorEq, Nat.add_zero, Nat.zero_add, n0p, ite_true, ite_false, if_true, if_false, nlT, nlF, nleT, nleF, neT, neF, n0F, n0T, pk_sub, pk_mul, nIm1, nIm2, nlZ, nleZ, upd_s, upd_n, pk_uLs, pk_uLn, nar_0, nar_1, nar_n0, nar_n1]
            exact ((f3 j (by omega)).trans (g3 j hj))
          · show (if (8 : Nat) = 8 then upd (σ''.2.2.1 8) m (if ¬ σ''.2.2.1 8 m = 0 ∨ ¬ σ''.2.2.1 8 (m + 1) = 0 then 1 else 0) else fun _ => 0) m = (if opZ 22 (tv env a) (tv env b) = 0 then 0 else 1)
            rw [if_pos rfl, upd_s, opZ_22]
            unfold b2z
            by_cases hz : ¬ tv env a = 0 ∨ ¬ tv env b = 0
            · rw [if_pos hz, if_pos (hz.imp (fun a e => a (za.mp e)) (fun a e => a (zb.mp e)))]; rfl
            · rw [if_neg hz, if_neg (fun a => hz (a.imp (fun a e => a (za.mpr e)) (fun a e => a (zb.mpr e))))]; rfl
  | .mul g (.elem a b), s, hw, σ, i, n, m, hT, hE, hC, hL, hn, hm, h => by
    have hC : cAt T c i (pf g ++ (pf a ++ (pf b ++ [(23, 0)]))) := hC
    have h1 := cAt_1 (cAt_r (cAt_r (cAt_r hC)))
    have hl : i + (pf (.mul g (.elem a b))).length = i + (pf g).length + (pf a).length + (pf b).length + 1 := by
      show i + (pf g ++ (pf a ++ (pf b ++ [(23, 0)]))).length = _
      rw [List.length_append, List.length_append, List.length_append, ← Nat.add_assoc, ← Nat.add_assoc, ← Nat.add_assoc]; rfl
    rw [hl] at hL h
    have h1' : T (c + 2 * (i + (pf g).length + (pf a).length + (pf b).length)) = nI 23 := h1.1
    have hw1 := hw.1
    subst hw1
    have hw : wf g true ∧ wf a false ∧ wf b false := hw.2
    have pg := pf_pos g true hw.1
    have pa := pf_pos a false hw.2.1
    have pb := pf_pos b false hw.2.2
    refine wk_t he hc hx2 he3 hx g true hw.1 σ i n m hT hE (cAt_l hC) (by omega) hn hm (fun σ' g1 g2 g3 g4 => ?_)
    have hT' : σ'.2.2.1 3 = T := (g1.2.2 3 (by decide)).trans hT
    have hE' : ∀ j, j < 8 → (σ'.2.2.1 6 j).toInt = env j := fun j hj => by rw [g1.2.2 6 (by decide)]; exact hE j hj
    refine wk_t he hc hx2 he3 hx a false hw.2.1 σ' _ n (m + 1) hT' hE' (cAt_l (cAt_r hC)) (by omega) (by omega) (by omega) (fun σ'' f1 f2 f3 f4 => ?_)
    have hT'' : σ''.2.2.1 3 = T := (f1.2.2 3 (by decide)).trans hT'
    have hE'' : ∀ j, j < 8 → (σ''.2.2.1 6 j).toInt = env j := fun j hj => by rw [f1.2.2 6 (by decide)]; exact hE' j hj
    refine wk_t he hc hx2 he3 hx b false hw.2.2 σ'' _ (n + 1) (m + 1) hT'' hE'' (cAt_l (cAt_r (cAt_r hC))) (by omega) (by omega) (by omega) (fun τ k1 k2 k3 k4 => ?_)
    have hT3 : τ.2.2.1 3 = T := (k1.2.2 3 (by decide)).trans hT''
    have ea : (τ.2.2.2 n).toInt = tv env a := by rw [k2 n (by omega)]; exact f4
    have eb : (τ.2.2.2 (n + 1)).toInt = tv env b := k4
    have eg : τ.2.2.1 8 m = (if tv env g = 0 then 0 else 1) := by rw [k3 m (by omega), f3 m (by omega)]; exact g4
    have hs : sm [8] σ τ := sm_t g1 (sm_t f1 k1)
    refine ws23 (by rw [hT3]; exact hx) (by omega) hc hx2 (by rw [hT3]; exact h1') (by show 2 ≤ n + 2; omega) (by show n + 2 < 330; omega) (by show 1 ≤ m + 1; omega) (by show m + 1 < 330; omega) ?_
    refine h (mV τ (vp_updL τ.2.2.2 n (if τ.2.2.1 8 m = 0 then τ.2.2.2 (n + 1) else τ.2.2.2 n))) (sm_t hs sm_V) (fun j hj => ?_) (fun j hj => (k3 j (by omega)).trans ((f3 j (by omega)).trans (g3 j hj))) ?_
    · exact (pk_uLn (by show j ≠ n; omega)).trans ((k2 j (by omega)).trans ((f2 j hj).trans (g2 j hj)))
    · show (vp_updL τ.2.2.2 n (if τ.2.2.1 8 m = 0 then τ.2.2.2 (n + 1) else τ.2.2.2 n) n).toInt = (if tv env g = 0 then tv env b else tv env a)
      rw [pk_uLs, eg]
      by_cases hz : tv env g = 0
      · rw [if_pos hz, if_pos hz, if_pos rfl, eb]
      · rw [if_neg hz, if_neg hz, if_neg (by decide), ea]
end MC5
