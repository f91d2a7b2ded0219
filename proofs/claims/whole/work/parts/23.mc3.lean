/-! the reference: hours kept and taken back, what is told, counts, rows for a clause's names -/
def cntL (f : Nat → Int32) : Nat → Nat
  | 0 => 0
  | n + 1 => cntL f n + (if f n = 1 then 1 else 0)
theorem cntL_le (f : Nat → Int32) : ∀ n, cntL f n ≤ n
  | 0 => Nat.le_refl 0
  | n + 1 => by
    unfold cntL
    have := cntL_le f n
    split <;> omega
def sumI (f : Nat → Int32) : Nat → Int32
  | 0 => 0
  | n + 1 => sumI f n + f n
def toldA (a : Nat → Int32) (r n : Nat) (x y : Int32) : Nat → Int32 := upd (upd (upd (upd a 4 (nI r)) (170 + 2 * n) x) (171 + 2 * n) y) 3 (nI (n + 1))
def keepA (a : Nat → Int32) (n : Nat) : Nat → Int32 := if n = 40 then upd (lay (lay (upd a 2 (nI 39)) 220 1170 (fun j => a (250 + j))) 1390 30 (fun j => a (190 + j))) 2 (nI 40) else upd (lay a (220 + 30 * n) 30 (fun j => a (190 + j))) 2 (nI (n + 1))
def undoA (a : Nat → Int32) (n : Nat) : Nat → Int32 := lay (upd a 2 (nI (n - 1))) 190 30 (fun j => a (220 + 30 * (n - 1) + j))
theorem upd_lay {f r : Nat → Int32} {x n k : Nat} {v : Int32} (h : k < x ∨ x + n ≤ k) : upd (lay f x n r) k v = lay (upd f k v) x n r := by
  funext j
  simp only [upd, lay]
  by_cases e : j = k
  · subst e
    rw [if_pos rfl, if_neg (by omega), if_pos rfl]
  · simp only [if_neg e]
theorem upd_upd {f : Nat → Int32} {k : Nat} {v w : Int32} : upd (upd f k v) k w = upd f k w := by
  funext j
  unfold upd
  split <;> rfl
theorem upd_comm {f : Nat → Int32} {k l : Nat} {v w : Int32} (h : k ≠ l) : upd (upd f k v) l w = upd (upd f l w) k v := by
  funext j
  unfold upd
  by_cases e : j = l
  · rw [if_pos e]
    rw [if_neg (by omega), if_pos e]
  · rw [if_neg e]
    by_cases e2 : j = k
    · rw [if_pos e2, if_pos e2]
    · rw [if_neg e2, if_neg e2, if_neg e]
theorem upd_s {f : Nat → Int32} {k : Nat} {v : Int32} : upd f k v k = v := if_pos rfl
theorem upd_n {f : Nat → Int32} {k j : Nat} {v : Int32} (h : j ≠ k) : upd f k v j = f j := if_neg h
section MC3
variable {sa : Nat → Nat} {d : Nat} {Q : xQ} {q : Nat} {M0 M : xM} {σ : mS} {R : Nat}
theorem mA_self (k : Nat) : mA σ k (σ.2.2.1 k) = σ := by
  obtain ⟨f1, w, a, v⟩ := σ
  unfold mA
  simp only [Prod.mk.injEq, true_and, and_true]
  funext i
  split
  · rename_i h; rw [h]
  · rfl
theorem c_M_keepHour {n : Nat} (hn : σ.2.2.1 1 2 = nI n) (h40 : n ≤ 40) (h : Q none (mM q M0 (mA σ 1 (keepA (σ.2.2.1 1) n)))) : xEv xP (xprim sa) (d + 1) m_M_keepHour [.ref q] (mM q M0 σ) Q := by
  have tail : ∀ (b : Nat → Int32) (n : Nat), n < 40 → b 2 = nI n → Q none (mM q M0 (mA σ 1 (upd (lay b (220 + 30 * n) 30 (fun j => b (190 + j))) 2 (nI (n + 1))))) → K_M_keepHour sa d Q 6 [some (.ref q), some (.int (nI 0))] [] (mM q M0 (mA σ 1 b)) (0, 0) := by
    intro b n hn hb h
    have loop : ∀ (m i : Nat), m + i = 30 → K_M_keepHour sa d Q 6 [some (.ref q), some (.int (nI i))] [] (mM q M0 (mA σ 1 (lay b (220 + 30 * n) i (fun j => b (190 + j))))) (0, 0) := by
      intro m
      induction m with
      | zero =>
        intro i hi
        refine t_M_keepHour_6 (ifle (by omega) (by omega) (fun _ => ?_) (fun h9 => by omega))
        have e2 : lay b (220 + 30 * n) i (fun j => b (190 + j)) 2 = nI n := by rw [lay_out (by omega), hb]
        simp (disch := omega) only [xrI_mk, xrV_mk, xrL_mk, xrR_mk, mg_0, mg_1, mp_2, mg_2, mg_3, mg_4, mp_5, mg_5, mp_6, mg_6, mp_7, mg_7, mp_8, mg_8, mp_9, mg_9, mp_10, mg_10, mp_11, mg_11, mp_12, mg_12, mp_13, mg_13, mp_14, mg_14, mp_15, mg_15, mp_16, mg_16, mg_17, mp_18, mg_18, mp_19, mg_19, mp_20, mg_20, mp_21, mg_21, mg_22, mg_23, mg_24, mg_25, mg_26, mg_27, mg_28, mg_29, mg_30, mg_31, mg_32, mg_33, mg_34, mp_35, mg_35, mp_36, mg_36, mg_37, mg_38, mg_39, ma_1, ms_1, ma_2, ms_2, ma_3, ms_3, ma_4, ms_4, ma_5, ms_5, ma_6, ms_6, ma_9, ms_9, ma_10, ms_10, ma_11, ms_11, ma_12, ms_12, ma_13, ms_13, ma_14, ms_14, ma_15, ms_15, ma_16, ms_16, ma_17, ms_17, ma_18, ms_18, ma_19, ms_19, ma_20, ms_20, ma_21, ms_21, mo_q', ma_L, ms_L, ma_Z, ms_Z, mF_1, mF_2, mWd_1, mWd_w, mWd_2, mA_1, mA_w, mA_a, mA_v, mV_1, mV_w, mV_a, mV_v, mA_mA, mV_mV, mF_mF, nI_add, nI_cl, vpi, i01, i02, i10, i11, ↓reduceIte, not_true_eq_false, not_false_eq_true, and_true, true_and, ne_eq, Nat.reduceAdd, Nat.reduceMul, Nat.reduceSub, Nat.reduceEqDiff, reduceCtorEq, Nat.add_zero, Nat.zero_add, n0p, ite_true, ite_false, if_true, if_false, e2]
        rw [show i = 30 by omega]
        exact h
      | succ m ih =>
        intro i hi
        refine t_M_keepHour_6 (ifle (by omega) (by omega) (fun h9 => by omega) (fun _ => ?_))
        have e2 : lay b (220 + 30 * n) i (fun j => b (190 + j)) 2 = nI n := by rw [lay_out (by omega), hb]
        have e3 : lay b (220 + 30 * n) i (fun j => b (190 + j)) (190 + i) = b (190 + i) := lay_out (by omega)
        simp (disch := omega) only [xrI_mk, xrV_mk, xrL_mk, xrR_mk, mg_0, mg_1, mp_2, mg_2, mg_3, mg_4, mp_5, mg_5, mp_6, mg_6, mp_7, mg_7, mp_8, mg_8, mp_9, mg_9, mp_10, mg_10, mp_11, mg_11, mp_12, mg_12, mp_13, mg_13, mp_14, mg_14, mp_15, mg_15, mp_16, mg_16, mg_17, mp_18, mg_18, mp_19, mg_19, mp_20, mg_20, mp_21, mg_21, mg_22, mg_23, mg_24, mg_25, mg_26, mg_27, mg_28, mg_29, mg_30, mg_31, mg_32, mg_33, mg_34, mp_35, mg_35, mp_36, mg_36, mg_37, mg_38, mg_39, ma_1, ms_1, ma_2, ms_2, ma_3, ms_3, ma_4, ms_4, ma_5, ms_5, ma_6, ms_6, ma_9, ms_9, ma_10, ms_10, ma_11, ms_11, ma_12, ms_12, ma_13, ms_13, ma_14, ms_14, ma_15, ms_15, ma_16, ms_16, ma_17, ms_17, ma_18, ms_18, ma_19, ms_19, ma_20, ms_20, ma_21, ms_21, mo_q', ma_L, ms_L, ma_Z, ms_Z, mF_1, mF_2, mWd_1, mWd_w, mWd_2, mA_1, mA_w, mA_a, mA_v, mV_1, mV_w, mV_a, mV_v, mA_mA, mV_mV, mF_mF, nI_add, nI_cl, vpi, i01, i02, i10, i11, ↓reduceIte, not_true_eq_false, not_false_eq_true, and_true, true_and, ne_eq, Nat.reduceAdd, Nat.reduceMul, Nat.reduceSub, Nat.reduceEqDiff, reduceCtorEq, Nat.add_zero, Nat.zero_add, n0p, ite_true, ite_false, if_true, if_false, e2, e3, pk_mul]
        have := ih (i + 1) (by omega)
        rw [← lay_s] at this
        exact this
    have := loop 30 0 rfl
    rw [lay_0] at this
    exact this
  refine t_M_keepHour ?_
  simp (disch := omega) only [xrI_mk, xrV_mk, xrL_mk, xrR_mk, mg_0, mg_1, mp_2, mg_2, mg_3, mg_4, mp_5, mg_5, mp_6, mg_6, mp_7, mg_7, mp_8, mg_8, mp_9, mg_9, mp_10, mg_10, mp_11, mg_11, mp_12, mg_12, mp_13, mg_13, mp_14, mg_14, mp_15, mg_15, mp_16, mg_16, mg_17, mp_18, mg_18, mp_19, mg_19, mp_20, mg_20, mp_21, mg_21, mg_22, mg_23, mg_24, mg_25, mg_26, mg_27, mg_28, mg_29, mg_30, mg_31, mg_32, mg_33, mg_34, mp_35, mg_35, mp_36, mg_36, mg_37, mg_38, mg_39, ma_1, ms_1, ma_2, ms_2, ma_3, ms_3, ma_4, ms_4, ma_5, ms_5, ma_6, ms_6, ma_9, ms_9, ma_10, ms_10, ma_11, ms_11, ma_12, ms_12, ma_13, ms_13, ma_14, ms_14, ma_15, ms_15, ma_16, ms_16, ma_17, ms_17, ma_18, ms_18, ma_19, ms_19, ma_20, ms_20, ma_21, ms_21, mo_q', ma_L, ms_L, ma_Z, ms_Z, mF_1, mF_2, mWd_1, mWd_w, mWd_2, mA_1, mA_w, mA_a, mA_v, mV_1, mV_w, mV_a, mV_v, mA_mA, mV_mV, mF_mF, nI_add, nI_cl, vpi, i01, i02, i10, i11, ↓reduceIte, not_true_eq_false, not_false_eq_true, and_true, true_and, ne_eq, Nat.reduceAdd, Nat.reduceMul, Nat.reduceSub, Nat.reduceEqDiff, reduceCtorEq, Nat.add_zero, Nat.zero_add, n0p, ite_true, ite_false, if_true, if_false, hn]
  by_cases he : n = 40
  · subst he
    rw [if_neg (not_not_intro rfl)]
    have loop : ∀ (m i : Nat), m + i = 1170 → K_M_keepHour sa d Q 2 [some (.ref q), some (.int (nI i))] [] (mM q M0 (mA σ 1 (lay (σ.2.2.1 1) 220 i (fun j => σ.2.2.1 1 (250 + j))))) (0, 0) := by
      intro m
      induction m with
      | zero =>
        intro i hi
        refine t_M_keepHour_2 (ifle (by omega) (by omega) (fun _ => ?_) (fun h9 => by omega))
        have e2 : lay (σ.2.2.1 1) 220 i (fun j => σ.2.2.1 1 (250 + j)) 2 = nI 40 := by rw [lay_out (by omega), hn]
        simp (disch := omega) only [xrI_mk, xrV_mk, xrL_mk, xrR_mk, mg_0, mg_1, mp_2, mg_2, mg_3, mg_4, mp_5, mg_5, mp_6, mg_6, mp_7, mg_7, mp_8, mg_8, mp_9, mg_9, mp_10, mg_10, mp_11, mg_11, mp_12, mg_12, mp_13, mg_13, mp_14, mg_14, mp_15, mg_15, mp_16, mg_16, mg_17, mp_18, mg_18, mp_19, mg_19, mp_20, mg_20, mp_21, mg_21, mg_22, mg_23, mg_24, mg_25, mg_26, mg_27, mg_28, mg_29, mg_30, mg_31, mg_32, mg_33, mg_34, mp_35, mg_35, mp_36, mg_36, mg_37, mg_38, mg_39, ma_1, ms_1, ma_2, ms_2, ma_3, ms_3, ma_4, ms_4, ma_5, ms_5, ma_6, ms_6, ma_9, ms_9, ma_10, ms_10, ma_11, ms_11, ma_12, ms_12, ma_13, ms_13, ma_14, ms_14, ma_15, ms_15, ma_16, ms_16, ma_17, ms_17, ma_18, ms_18, ma_19, ms_19, ma_20, ms_20, ma_21, ms_21, mo_q', ma_L, ms_L, ma_Z, ms_Z, mF_1, mF_2, mWd_1, mWd_w, mWd_2, mA_1, mA_w, mA_a, mA_v, mV_1, mV_w, mV_a, mV_v, mA_mA, mV_mV, mF_mF, nI_add, nI_cl, vpi, i01, i02, i10, i11, ↓reduceIte, not_true_eq_false, not_false_eq_true, and_true, true_and, ne_eq, Nat.reduceAdd, Nat.reduceMul, Nat.reduceSub, Nat.reduceEqDiff, reduceCtorEq, Nat.add_zero, Nat.zero_add, n0p, ite_true, ite_false, if_true, if_false, e2]
        rw [show nI 40 - nI 1 = nI 39 from rfl, show i = 1170 by omega]
        refine tail _ 39 (by omega) upd_s ?_
        have h2 := h
        unfold keepA at h2
        rw [if_pos rfl, ← upd_lay (by omega)] at h2
        rw [lay_c (r' := fun j => σ.2.2.1 1 (190 + j)) (fun j hj => by rw [upd_n (by omega), lay_out (by omega)])]
        exact h2
      | succ m ih =>
        intro i hi
        refine t_M_keepHour_2 (ifle (by omega) (by omega) (fun h9 => by omega) (fun _ => ?_))
        have e3 : lay (σ.2.2.1 1) 220 i (fun j => σ.2.2.1 1 (250 + j)) (250 + i) = σ.2.2.1 1 (250 + i) := lay_out (by omega)
        simp (disch := omega) only [xrI_mk, xrV_mk, xrL_mk, xrR_mk, mg_0, mg_1, mp_2, mg_2, mg_3, mg_4, mp_5, mg_5, mp_6, mg_6, mp_7, mg_7, mp_8, mg_8, mp_9, mg_9, mp_10, mg_10, mp_11, mg_11, mp_12, mg_12, mp_13, mg_13, mp_14, mg_14, mp_15, mg_15, mp_16, mg_16, mg_17, mp_18, mg_18, mp_19, mg_19, mp_20, mg_20, mp_21, mg_21, mg_22, mg_23, mg_24, mg_25, mg_26, mg_27, mg_28, mg_29, mg_30, mg_31, mg_32, mg_33, mg_34, mp_35, mg_35, mp_36, mg_36, mg_37, mg_38, mg_39, ma_1, ms_1, ma_2, ms_2, ma_3, ms_3, ma_4, ms_4, ma_5, ms_5, ma_6, ms_6, ma_9, ms_9, ma_10, ms_10, ma_11, ms_11, ma_12, ms_12, ma_13, ms_13, ma_14, ms_14, ma_15, ms_15, ma_16, ms_16, ma_17, ms_17, ma_18, ms_18, ma_19, ms_19, ma_20, ms_20, ma_21, ms_21, mo_q', ma_L, ms_L, ma_Z, ms_Z, mF_1, mF_2, mWd_1, mWd_w, mWd_2, mA_1, mA_w, mA_a, mA_v, mV_1, mV_w, mV_a, mV_v, mA_mA, mV_mV, mF_mF, nI_add, nI_cl, vpi, i01, i02, i10, i11, ↓reduceIte, not_true_eq_false, not_false_eq_true, and_true, true_and, ne_eq, Nat.reduceAdd, Nat.reduceMul, Nat.reduceSub, Nat.reduceEqDiff, reduceCtorEq, Nat.add_zero, Nat.zero_add, n0p, ite_true, ite_false, if_true, if_false, e3]
        have := ih (i + 1) (by omega)
        rw [← lay_s] at this
        exact this
    have := loop 1170 0 rfl
    rw [lay_0, mA_self] at this
    exact this
  · rw [if_pos (fun e => he ((nI_eq (by omega) (by omega)).mp e))]
    have h2 := h
    unfold keepA at h2
    rw [if_neg he] at h2
    have := tail (σ.2.2.1 1) n (by omega) hn h2
    rw [mA_self] at this
    exact this
theorem c_M_undo {n : Nat} (hn : σ.2.2.1 1 2 = nI n) (h40 : n ≤ 40) (h0 : n = 0 → Q (some (.int (-1))) (mM q M0 σ)) (h : 0 < n → Q (some (.int (σ.2.2.1 1 (220 + 30 * (n - 1))))) (mM q M0 (mA σ 1 (undoA (σ.2.2.1 1) n)))) : xEv xP (xprim sa) (d + 1) m_M_undo [.ref q] (mM q M0 σ) Q := by
  refine t_M_undo ?_
  simp (disch := omega) only [xrI_mk, xrV_mk, xrL_mk, xrR_mk, mg_0, mg_1, mp_2, mg_2, mg_3, mg_4, mp_5, mg_5, mp_6, mg_6, mp_7, mg_7, mp_8, mg_8, mp_9, mg_9, mp_10, mg_10, mp_11, mg_11, mp_12, mg_12, mp_13, mg_13, mp_14, mg_14, mp_15, mg_15, mp_16, mg_16, mg_17, mp_18, mg_18, mp_19, mg_19, mp_20, mg_20, mp_21, mg_21, mg_22, mg_23, mg_24, mg_25, mg_26, mg_27, mg_28, mg_29, mg_30, mg_31, mg_32, mg_33, mg_34, mp_35, mg_35, mp_36, mg_36, mg_37, mg_38, mg_39, ma_1, ms_1, ma_2, ms_2, ma_3, ms_3, ma_4, ms_4, ma_5, ms_5, ma_6, ms_6, ma_9, ms_9, ma_10, ms_10, ma_11, ms_11, ma_12, ms_12, ma_13, ms_13, ma_14, ms_14, ma_15, ms_15, ma_16, ms_16, ma_17, ms_17, ma_18, ms_18, ma_19, ms_19, ma_20, ms_20, ma_21, ms_21, mo_q', ma_L, ms_L, ma_Z, ms_Z, mF_1, mF_2, mWd_1, mWd_w, mWd_2, mA_1, mA_w, mA_a, mA_v, mV_1, mV_w, mV_a, mV_v, mA_mA, mV_mV, mF_mF, nI_add, nI_cl, vpi, i01, i02, i10, i11, ↓reduceIte, not_true_eq_false, not_false_eq_true, and_true, true_and, ne_eq, Nat.reduceAdd, Nat.reduceMul, Nat.reduceSub, Nat.reduceEqDiff, reduceCtorEq, Nat.add_zero, Nat.zero_add, n0p, ite_true, ite_false, if_true, if_false, hn]
  by_cases he : n = 0
  · subst he
    rw [if_neg (by decide)]
    exact h0 rfl
  · rw [if_pos (nI_ne0 (by omega) (by omega))]
    rw [show nI n - nI 1 = nI (n - 1) from pk_sub (by omega)]
    have loop : ∀ (m i : Nat), m + i = 30 → K_M_undo sa d Q 3 [some (.ref q), some (.int (nI i))] [] (mM q M0 (mA σ 1 (lay (upd (σ.2.2.1 1) 2 (nI (n - 1))) 190 i (fun j => σ.2.2.1 1 (220 + 30 * (n - 1) + j))))) (0, 0) := by
      intro m
      induction m with
      | zero =>
        intro i hi
        refine t_M_undo_3 (ifle (by omega) (by omega) (fun _ => ?_) (fun h9 => by omega))
        simp (disch := omega) only [xrI_mk, xrV_mk, xrL_mk, xrR_mk, mg_0, mg_1, mp_2, mg_2, mg_3, mg_4, mp_5, mg_5, mp_6, mg_6, mp_7, mg_7, mp_8, mg_8, mp_9, mg_9, mp_10, mg_10, mp_11, mg_11, mp_12, mg_12, mp_13, mg_13, mp_14, mg_14, mp_15, mg_15, mp_16, mg_16, mg_17, mp_18, mg_18, mp_19, mg_19, mp_20, mg_20, mp_21, mg_21, mg_22, mg_23, mg_24, mg_25, mg_26, mg_27, mg_28, mg_29, mg_30, mg_31, mg_32, mg_33, mg_34, mp_35, mg_35, mp_36, mg_36, mg_37, mg_38, mg_39, ma_1, ms_1, ma_2, ms_2, ma_3, ms_3, ma_4, ms_4, ma_5, ms_5, ma_6, ms_6, ma_9, ms_9, ma_10, ms_10, ma_11, ms_11, ma_12, ms_12, ma_13, ms_13, ma_14, ms_14, ma_15, ms_15, ma_16, ms_16, ma_17, ms_17, ma_18, ms_18, ma_19, ms_19, ma_20, ms_20, ma_21, ms_21, mo_q', ma_L, ms_L, ma_Z, ms_Z, mF_1, mF_2, mWd_1, mWd_w, mWd_2, mA_1, mA_w, mA_a, mA_v, mV_1, mV_w, mV_a, mV_v, mA_mA, mV_mV, mF_mF, nI_add, nI_cl, vpi, i01, i02, i10, i11, ↓reduceIte, not_true_eq_false, not_false_eq_true, and_true, true_and, ne_eq, Nat.reduceAdd, Nat.reduceMul, Nat.reduceSub, Nat.reduceEqDiff, reduceCtorEq, Nat.add_zero, Nat.zero_add, n0p, ite_true, ite_false, if_true, if_false]
        rw [show i = 30 by omega, lay_in (x := 190) (j := 0) (by omega)]
        exact h (by omega)
      | succ m ih =>
        intro i hi
        refine t_M_undo_3 (ifle (by omega) (by omega) (fun h9 => by omega) (fun _ => ?_))
        have e2 : lay (upd (σ.2.2.1 1) 2 (nI (n - 1))) 190 i (fun j => σ.2.2.1 1 (220 + 30 * (n - 1) + j)) 2 = nI (n - 1) := by rw [lay_out (by omega), upd_s]
        have e3 : lay (upd (σ.2.2.1 1) 2 (nI (n - 1))) 190 i (fun j => σ.2.2.1 1 (220 + 30 * (n - 1) + j)) (220 + 30 * (n - 1) + i) = σ.2.2.1 1 (220 + 30 * (n - 1) + i) := by rw [lay_out (by omega), upd_n (by omega)]
        simp (disch := omega) only [xrI_mk, xrV_mk, xrL_mk, xrR_mk, mg_0, mg_1, mp_2, mg_2, mg_3, mg_4, mp_5, mg_5, mp_6, mg_6, mp_7, mg_7, mp_8, mg_8, mp_9, mg_9, mp_10, mg_10, mp_11, mg_11, mp_12, mg_12, mp_13, mg_13, mp_14, mg_14, mp_15, mg_15, mp_16, mg_16, mg_17, mp_18, mg_18, mp_19, mg_19, mp_20, mg_20, mp_21, mg_21, mg_22, mg_23, mg_24, mg_25, mg_26, mg_27, mg_28, mg_29, mg_30, mg_31, mg_32, mg_33, mg_34, mp_35, mg_35, mp_36, mg_36, mg_37, mg_38, mg_39, ma_1, ms_1, ma_2, ms_2, ma_3, ms_3, ma_4, ms_4, ma_5, ms_5, ma_6, ms_6, ma_9, ms_9, ma_10, ms_10, ma_11, ms_11, ma_12, ms_12, ma_13, ms_13, ma_14, ms_14, ma_15, ms_15, ma_16, ms_16, ma_17, ms_17, ma_18, ms_18, ma_19, ms_19, ma_20, ms_20, ma_21, ms_21, mo_q', ma_L, ms_L, ma_Z, ms_Z, mF_1, mF_2, mWd_1, mWd_w, mWd_2, mA_1, mA_w, mA_a, mA_v, mV_1, mV_w, mV_a, mV_v, mA_mA, mV_mV, mF_mF, nI_add, nI_cl, vpi, i01, i02, i10, i11, ↓reduceIte, not_true_eq_false, not_false_eq_true, and_true, true_and, ne_eq, Nat.reduceAdd, Nat.reduceMul, Nat.reduceSub, Nat.reduceEqDiff, reduceCtorEq, Nat.add_zero, Nat.zero_add, n0p, ite_true, ite_false, if_true, if_false, e2, e3, pk_mul]
        have := ih (i + 1) (by omega)
        rw [← lay_s] at this
        exact this
    have := loop 30 0 rfl
    rw [lay_0] at this
    exact this
theorem c_M_told (hR : σ.1 2 = nI R) (hR3 : 3 ≤ R) (hR9 : R ≤ 9) {n : Nat} (hn : σ.2.2.1 1 3 = nI n) (h8 : n ≤ 8) {v x y : Int32}
    (h1 : ∀ r, r < R → v = nI r → iv x (-1) (nI 99) → iv y (-1) (nI 99) → σ.2.2.1 1 4 = nI r → n < 8 → Q (some (.int (nI (n + 1)))) (mM q M0 (mA σ 1 (toldA (σ.2.2.1 1) r n x y))))
    (h2 : ∀ r, r < R → v = nI r → iv x (-1) (nI 99) → iv y (-1) (nI 99) → σ.2.2.1 1 4 ≠ nI r → Q (some (.int (nI 1))) (mM q M0 (mA σ 1 (toldA (σ.2.2.1 1) r 0 x y))))
    (h0 : ¬ (rm R v ∧ iv x (-1) (nI 99) ∧ iv y (-1) (nI 99) ∧ ¬ (σ.2.2.1 1 4 = v ∧ n = 8)) → Q (some (.int (-1))) (mM q M0 σ)) : xEv xP (xprim sa) (d + 3) m_M_told [.ref q, .int v, .int x, .int y] (mM q M0 σ) Q := by
  refine t_M_told ⟨mo_q, c_M_isRoom hR hR3 hR9 (fun r hr e => ?_) (fun a => ?_)⟩
  · subst e
    simp (disch := omega) only [xrI_mk, xrV_mk, xrL_mk, xrR_mk, mg_0, mg_1, mp_2, mg_2, mg_3, mg_4, mp_5, mg_5, mp_6, mg_6, mp_7, mg_7, mp_8, mg_8, mp_9, mg_9, mp_10, mg_10, mp_11, mg_11, mp_12, mg_12, mp_13, mg_13, mp_14, mg_14, mp_15, mg_15, mp_16, mg_16, mg_17, mp_18, mg_18, mp_19, mg_19, mp_20, mg_20, mp_21, mg_21, mg_22, mg_23, mg_24, mg_25, mg_26, mg_27, mg_28, mg_29, mg_30, mg_31, mg_32, mg_33, mg_34, mp_35, mg_35, mp_36, mg_36, mg_37, mg_38, mg_39, ma_1, ms_1, ma_2, ms_2, ma_3, ms_3, ma_4, ms_4, ma_5, ms_5, ma_6, ms_6, ma_9, ms_9, ma_10, ms_10, ma_11, ms_11, ma_12, ms_12, ma_13, ms_13, ma_14, ms_14, ma_15, ms_15, ma_16, ms_16, ma_17, ms_17, ma_18, ms_18, ma_19, ms_19, ma_20, ms_20, ma_21, ms_21, mo_q', ma_L, ms_L, ma_Z, ms_Z, mF_1, mF_2, mWd_1, mWd_w, mWd_2, mA_1, mA_w, mA_a, mA_v, mV_1, mV_w, mV_a, mV_v, mA_mA, mV_mV, mF_mF, nI_add, nI_cl, vpi, i01, i02, i10, i11, ↓reduceIte, not_true_eq_false, not_false_eq_true, and_true, true_and, ne_eq, Nat.reduceAdd, Nat.reduceMul, Nat.reduceSub, Nat.reduceEqDiff, reduceCtorEq, Nat.add_zero, Nat.zero_add, n0p, ite_true, ite_false, if_true, if_false]
    refine c_M_isIn (fun ha => ?_) (fun ha => ?_)
    · simp (disch := omega) only [xrI_mk, xrV_mk, xrL_mk, xrR_mk, mg_0, mg_1, mp_2, mg_2, mg_3, mg_4, mp_5, mg_5, mp_6, mg_6, mp_7, mg_7, mp_8, mg_8, mp_9, mg_9, mp_10, mg_10, mp_11, mg_11, mp_12, mg_12, mp_13, mg_13, mp_14, mg_14, mp_15, mg_15, mp_16, mg_16, mg_17, mp_18, mg_18, mp_19, mg_19, mp_20, mg_20, mp_21, mg_21, mg_22, mg_23, mg_24, mg_25, mg_26, mg_27, mg_28, mg_29, mg_30, mg_31, mg_32, mg_33, mg_34, mp_35, mg_35, mp_36, mg_36, mg_37, mg_38, mg_39, ma_1, ms_1, ma_2, ms_2, ma_3, ms_3, ma_4, ms_4, ma_5, ms_5, ma_6, ms_6, ma_9, ms_9, ma_10, ms_10, ma_11, ms_11, ma_12, ms_12, ma_13, ms_13, ma_14, ms_14, ma_15, ms_15, ma_16, ms_16, ma_17, ms_17, ma_18, ms_18, ma_19, ms_19, ma_20, ms_20, ma_21, ms_21, mo_q', ma_L, ms_L, ma_Z, ms_Z, mF_1, mF_2, mWd_1, mWd_w, mWd_2, mA_1, mA_w, mA_a, mA_v, mV_1, mV_w, mV_a, mV_v, mA_mA, mV_mV, mF_mF, nI_add, nI_cl, vpi, i01, i02, i10, i11, ↓reduceIte, not_true_eq_false, not_false_eq_true, and_true, true_and, ne_eq, Nat.reduceAdd, Nat.reduceMul, Nat.reduceSub, Nat.reduceEqDiff, reduceCtorEq, Nat.add_zero, Nat.zero_add, n0p, ite_true, ite_false, if_true, if_false]
      refine c_M_isIn (fun hb => ?_) (fun hb => ?_)
      · simp (disch := omega) only [xrI_mk, xrV_mk, xrL_mk, xrR_mk, mg_0, mg_1, mp_2, mg_2, mg_3, mg_4, mp_5, mg_5, mp_6, mg_6, mp_7, mg_7, mp_8, mg_8, mp_9, mg_9, mp_10, mg_10, mp_11, mg_11, mp_12, mg_12, mp_13, mg_13, mp_14, mg_14, mp_15, mg_15, mp_16, mg_16, mg_17, mp_18, mg_18, mp_19, mg_19, mp_20, mg_20, mp_21, mg_21, mg_22, mg_23, mg_24, mg_25, mg_26, mg_27, mg_28, mg_29, mg_30, mg_31, mg_32, mg_33, mg_34, mp_35, mg_35, mp_36, mg_36, mg_37, mg_38, mg_39, ma_1, ms_1, ma_2, ms_2, ma_3, ms_3, ma_4, ms_4, ma_5, ms_5, ma_6, ms_6, ma_9, ms_9, ma_10, ms_10, ma_11, ms_11, ma_12, ms_12, ma_13, ms_13, ma_14, ms_14, ma_15, ms_15, ma_16, ms_16, ma_17, ms_17, ma_18, ms_18, ma_19, ms_19, ma_20, ms_20, ma_21, ms_21, mo_q', ma_L, ms_L, ma_Z, ms_Z, mF_1, mF_2, mWd_1, mWd_w, mWd_2, mA_1, mA_w, mA_a, mA_v, mV_1, mV_w, mV_a, mV_v, mA_mA, mV_mV, mF_mF, nI_add, nI_cl, vpi, i01, i02, i10, i11, ↓reduceIte, not_true_eq_false, not_false_eq_true, and_true, true_and, ne_eq, Nat.reduceAdd, Nat.reduceMul, Nat.reduceSub, Nat.reduceEqDiff, reduceCtorEq, Nat.add_zero, Nat.zero_add, n0p, ite_true, ite_false, if_true, if_false, hn]
        by_cases e4 : σ.2.2.1 1 4 = nI r
        · rw [if_neg (not_not_intro e4)]
          by_cases e8 : n = 8
          · subst e8
            rw [if_neg (not_not_intro rfl)]
            exact h0 (fun h => h.2.2.2 ⟨e4, rfl⟩)
          · rw [if_pos (fun e => e8 ((nI_eq (by omega) (by omega)).mp e))]
            refine t_M_told_6 ?_
            have g : ∀ z : Int32, upd (σ.2.2.1 1) 4 z 3 = nI n := fun z => by rw [upd_n (by omega), hn]
            have g2 : ∀ z w : Int32, upd (upd (σ.2.2.1 1) 4 z) (170 + 2 * n) w 3 = nI n := fun z w => by rw [upd_n (by omega), g]
            have g3 : ∀ z w o : Int32, upd (upd (upd (σ.2.2.1 1) 4 z) (170 + 2 * n) w) (170 + 2 * n + 1) o 3 = nI n := fun z w o => by rw [upd_n (by omega), g2]
            simp (disch := omega) only [xrI_mk, xrV_mk, xrL_mk, xrR_mk, mg_0, mg_1, mp_2, mg_2, mg_3, mg_4, mp_5, mg_5, mp_6, mg_6, mp_7, mg_7, mp_8, mg_8, mp_9, mg_9, mp_10, mg_10, mp_11, mg_11, mp_12, mg_12, mp_13, mg_13, mp_14, mg_14, mp_15, mg_15, mp_16, mg_16, mg_17, mp_18, mg_18, mp_19, mg_19, mp_20, mg_20, mp_21, mg_21, mg_22, mg_23, mg_24, mg_25, mg_26, mg_27, mg_28, mg_29, mg_30, mg_31, mg_32, mg_33, mg_34, mp_35, mg_35, mp_36, mg_36, mg_37, mg_38, mg_39, ma_1, ms_1, ma_2, ms_2, ma_3, ms_3, ma_4, ms_4, ma_5, ms_5, ma_6, ms_6, ma_9, ms_9, ma_10, ms_10, ma_11, ms_11, ma_12, ms_12, ma_13, ms_13, ma_14, ms_14, ma_15, ms_15, ma_16, ms_16, ma_17, ms_17, ma_18, ms_18, ma_19, ms_19, ma_20, ms_20, ma_21, ms_21, mo_q', ma_L, ms_L, ma_Z, ms_Z, mF_1, mF_2, mWd_1, mWd_w, mWd_2, mA_1, mA_w, mA_a, mA_v, mV_1, mV_w, mV_a, mV_v, mA_mA, mV_mV, mF_mF, nI_add, nI_cl, vpi, i01, i02, i10, i11, ↓reduceIte, not_true_eq_false, not_false_eq_true, and_true, true_and, ne_eq, Nat.reduceAdd, Nat.reduceMul, Nat.reduceSub, Nat.reduceEqDiff, reduceCtorEq, Nat.add_zero, Nat.zero_add, n0p, ite_true, ite_false, if_true, if_false, if_pos e4, g, g2, g3, pk_mul, upd_s]
            have := h1 r hr rfl ha hb e4 (by omega)
            unfold toldA at this
            rw [show 171 + 2 * n = 170 + 2 * n + 1 by omega] at this
            exact this
        · rw [if_pos e4]
          refine t_M_told_6 ?_
          simp (disch := omega) only [xrI_mk, xrV_mk, xrL_mk, xrR_mk, mg_0, mg_1, mp_2, mg_2, mg_3, mg_4, mp_5, mg_5, mp_6, mg_6, mp_7, mg_7, mp_8, mg_8, mp_9, mg_9, mp_10, mg_10, mp_11, mg_11, mp_12, mg_12, mp_13, mg_13, mp_14, mg_14, mp_15, mg_15, mp_16, mg_16, mg_17, mp_18, mg_18, mp_19, mg_19, mp_20, mg_20, mp_21, mg_21, mg_22, mg_23, mg_24, mg_25, mg_26, mg_27, mg_28, mg_29, mg_30, mg_31, mg_32, mg_33, mg_34, mp_35, mg_35, mp_36, mg_36, mg_37, mg_38, mg_39, ma_1, ms_1, ma_2, ms_2, ma_3, ms_3, ma_4, ms_4, ma_5, ms_5, ma_6, ms_6, ma_9, ms_9, ma_10, ms_10, ma_11, ms_11, ma_12, ms_12, ma_13, ms_13, ma_14, ms_14, ma_15, ms_15, ma_16, ms_16, ma_17, ms_17, ma_18, ms_18, ma_19, ms_19, ma_20, ms_20, ma_21, ms_21, mo_q', ma_L, ms_L, ma_Z, ms_Z, mF_1, mF_2, mWd_1, mWd_w, mWd_2, mA_1, mA_w, mA_a, mA_v, mV_1, mV_w, mV_a, mV_v, mA_mA, mV_mV, mF_mF, nI_add, nI_cl, vpi, i01, i02, i10, i11, ↓reduceIte, not_true_eq_false, not_false_eq_true, and_true, true_and, ne_eq, Nat.reduceAdd, Nat.reduceMul, Nat.reduceSub, Nat.reduceEqDiff, reduceCtorEq, Nat.add_zero, Nat.zero_add, n0p, ite_true, ite_false, if_true, if_false, if_neg e4]
          have g0 : ∀ z : Int32, upd (upd (σ.2.2.1 1) 3 (nI 0)) 4 z 3 = nI 0 := fun z => by rw [upd_n (by omega), upd_s]
          have g1 : ∀ z w : Int32, upd (upd (upd (σ.2.2.1 1) 3 (nI 0)) 4 z) 170 w 3 = nI 0 := fun z w => by rw [upd_n (by omega), g0]
          have g2 : ∀ z w o : Int32, upd (upd (upd (upd (σ.2.2.1 1) 3 (nI 0)) 4 z) 170 w) 171 o 3 = nI 0 := fun z w o => by rw [upd_n (by omega), g1]
          simp (disch := omega) only [xrI_mk, xrV_mk, xrL_mk, xrR_mk, mg_0, mg_1, mp_2, mg_2, mg_3, mg_4, mp_5, mg_5, mp_6, mg_6, mp_7, mg_7, mp_8, mg_8, mp_9, mg_9, mp_10, mg_10, mp_11, mg_11, mp_12, mg_12, mp_13, mg_13, mp_14, mg_14, mp_15, mg_15, mp_16, mg_16, mg_17, mp_18, mg_18, mp_19, mg_19, mp_20, mg_20, mp_21, mg_21, mg_22, mg_23, mg_24, mg_25, mg_26, mg_27, mg_28, mg_29, mg_30, mg_31, mg_32, mg_33, mg_34, mp_35, mg_35, mp_36, mg_36, mg_37, mg_38, mg_39, ma_1, ms_1, ma_2, ms_2, ma_3, ms_3, ma_4, ms_4, ma_5, ms_5, ma_6, ms_6, ma_9, ms_9, ma_10, ms_10, ma_11, ms_11, ma_12, ms_12, ma_13, ms_13, ma_14, ms_14, ma_15, ms_15, ma_16, ms_16, ma_17, ms_17, ma_18, ms_18, ma_19, ms_19, ma_20, ms_20, ma_21, ms_21, mo_q', ma_L, ms_L, ma_Z, ms_Z, mF_1, mF_2, mWd_1, mWd_w, mWd_2, mA_1, mA_w, mA_a, mA_v, mV_1, mV_w, mV_a, mV_v, mA_mA, mV_mV, mF_mF, nI_add, nI_cl, vpi, i01, i02, i10, i11, ↓reduceIte, not_true_eq_false, not_false_eq_true, and_true, true_and, ne_eq, Nat.reduceAdd, Nat.reduceMul, Nat.reduceSub, Nat.reduceEqDiff, reduceCtorEq, Nat.add_zero, Nat.zero_add, n0p, ite_true, ite_false, if_true, if_false, g0, pk_mul]
          simp (disch := omega) only [xrI_mk, xrV_mk, xrL_mk, xrR_mk, mg_0, mg_1, mp_2, mg_2, mg_3, mg_4, mp_5, mg_5, mp_6, mg_6, mp_7, mg_7, mp_8, mg_8, mp_9, mg_9, mp_10, mg_10, mp_11, mg_11, mp_12, mg_12, mp_13, mg_13, mp_14, mg_14, mp_15, mg_15, mp_16, mg_16, mg_17, mp_18, mg_18, mp_19, mg_19, mp_20, mg_20, mp_21, mg_21, mg_22, mg_23, mg_24, mg_25, mg_26, mg_27, mg_28, mg_29, mg_30, mg_31, mg_32, mg_33, mg_34, mp_35, mg_35, mp_36, mg_36, mg_37, mg_38, mg_39, ma_1, ms_1, ma_2, ms_2, ma_3, ms_3, ma_4, ms_4, ma_5, ms_5, ma_6, ms_6, ma_9, ms_9, ma_10, ms_10, ma_11, ms_11, ma_12, ms_12, ma_13, ms_13, ma_14, ms_14, ma_15, ms_15, ma_16, ms_16, ma_17, ms_17, ma_18, ms_18, ma_19, ms_19, ma_20, ms_20, ma_21, ms_21, mo_q', ma_L, ms_L, ma_Z, ms_Z, mF_1, mF_2, mWd_1, mWd_w, mWd_2, mA_1, mA_w, mA_a, mA_v, mV_1, mV_w, mV_a, mV_v, mA_mA, mV_mV, mF_mF, nI_add, nI_cl, vpi, i01, i02, i10, i11, ↓reduceIte, not_true_eq_false, not_false_eq_true, and_true, true_and, ne_eq, Nat.reduceAdd, Nat.reduceMul, Nat.reduceSub, Nat.reduceEqDiff, reduceCtorEq, Nat.add_zero, Nat.zero_add, n0p, ite_true, ite_false, if_true, if_false, g1, pk_mul]
          simp (disch := omega) only [xrI_mk, xrV_mk, xrL_mk, xrR_mk, mg_0, mg_1, mp_2, mg_2, mg_3, mg_4, mp_5, mg_5, mp_6, mg_6, mp_7, mg_7, mp_8, mg_8, mp_9, mg_9, mp_10, mg_10, mp_11, mg_11, mp_12, mg_12, mp_13, mg_13, mp_14, mg_14, mp_15, mg_15, mp_16, mg_16, mg_17, mp_18, mg_18, mp_19, mg_19, mp_20, mg_20, mp_21, mg_21, mg_22, mg_23, mg_24, mg_25, mg_26, mg_27, mg_28, mg_29, mg_30, mg_31, mg_32, mg_33, mg_34, mp_35, mg_35, mp_36, mg_36, mg_37, mg_38, mg_39, ma_1, ms_1, ma_2, ms_2, ma_3, ms_3, ma_4, ms_4, ma_5, ms_5, ma_6, ms_6, ma_9, ms_9, ma_10, ms_10, ma_11, ms_11, ma_12, ms_12, ma_13, ms_13, ma_14, ms_14, ma_15, ms_15, ma_16, ms_16, ma_17, ms_17, ma_18, ms_18, ma_19, ms_19, ma_20, ms_20, ma_21, ms_21, mo_q', ma_L, ms_L, ma_Z, ms_Z, mF_1, mF_2, mWd_1, mWd_w, mWd_2, mA_1, mA_w, mA_a, mA_v, mV_1, mV_w, mV_a, mV_v, mA_mA, mV_mV, mF_mF, nI_add, nI_cl, vpi, i01, i02, i10, i11, ↓reduceIte, not_true_eq_false, not_false_eq_true, and_true, true_and, ne_eq, Nat.reduceAdd, Nat.reduceMul, Nat.reduceSub, Nat.reduceEqDiff, reduceCtorEq, Nat.add_zero, Nat.zero_add, n0p, ite_true, ite_false, if_true, if_false, g2, upd_s]
          have := h2 r hr rfl ha hb e4
          unfold toldA at this
          rw [show 170 + 2 * 0 = 170 by omega, show 171 + 2 * 0 = 171 by omega] at this
          rw [upd_comm (k := 3) (l := 4) (by omega), upd_comm (k := 3) (l := 170) (by omega), upd_comm (k := 3) (l := 171) (by omega), upd_upd]
          exact this
      · simp (disch := omega) only [xrI_mk, xrV_mk, xrL_mk, xrR_mk, mg_0, mg_1, mp_2, mg_2, mg_3, mg_4, mp_5, mg_5, mp_6, mg_6, mp_7, mg_7, mp_8, mg_8, mp_9, mg_9, mp_10, mg_10, mp_11, mg_11, mp_12, mg_12, mp_13, mg_13, mp_14, mg_14, mp_15, mg_15, mp_16, mg_16, mg_17, mp_18, mg_18, mp_19, mg_19, mp_20, mg_20, mp_21, mg_21, mg_22, mg_23, mg_24, mg_25, mg_26, mg_27, mg_28, mg_29, mg_30, mg_31, mg_32, mg_33, mg_34, mp_35, mg_35, mp_36, mg_36, mg_37, mg_38, mg_39, ma_1, ms_1, ma_2, ms_2, ma_3, ms_3, ma_4, ms_4, ma_5, ms_5, ma_6, ms_6, ma_9, ms_9, ma_10, ms_10, ma_11, ms_11, ma_12, ms_12, ma_13, ms_13, ma_14, ms_14, ma_15, ms_15, ma_16, ms_16, ma_17, ms_17, ma_18, ms_18, ma_19, ms_19, ma_20, ms_20, ma_21, ms_21, mo_q', ma_L, ms_L, ma_Z, ms_Z, mF_1, mF_2, mWd_1, mWd_w, mWd_2, mA_1, mA_w, mA_a, mA_v, mV_1, mV_w, mV_a, mV_v, mA_mA, mV_mV, mF_mF, nI_add, nI_cl, vpi, i01, i02, i10, i11, ↓reduceIte, not_true_eq_false, not_false_eq_true, and_true, true_and, ne_eq, Nat.reduceAdd, Nat.reduceMul, Nat.reduceSub, Nat.reduceEqDiff, reduceCtorEq, Nat.add_zero, Nat.zero_add, n0p, ite_true, ite_false, if_true, if_false]
        exact h0 (fun h => hb h.2.2.1)
    · simp (disch := omega) only [xrI_mk, xrV_mk, xrL_mk, xrR_mk, mg_0, mg_1, mp_2, mg_2, mg_3, mg_4, mp_5, mg_5, mp_6, mg_6, mp_7, mg_7, mp_8, mg_8, mp_9, mg_9, mp_10, mg_10, mp_11, mg_11, mp_12, mg_12, mp_13, mg_13, mp_14, mg_14, mp_15, mg_15, mp_16, mg_16, mg_17, mp_18, mg_18, mp_19, mg_19, mp_20, mg_20, mp_21, mg_21, mg_22, mg_23, mg_24, mg_25, mg_26, mg_27, mg_28, mg_29, mg_30, mg_31, mg_32, mg_33, mg_34, mp_35, mg_35, mp_36, mg_36, mg_37, mg_38, mg_39, ma_1, ms_1, ma_2, ms_2, ma_3, ms_3, ma_4, ms_4, ma_5, ms_5, ma_6, ms_6, ma_9, ms_9, ma_10, ms_10, ma_11, ms_11, ma_12, ms_12, ma_13, ms_13, ma_14, ms_14, ma_15, ms_15, ma_16, ms_16, ma_17, ms_17, ma_18, ms_18, ma_19, ms_19, ma_20, ms_20, ma_21, ms_21, mo_q', ma_L, ms_L, ma_Z, ms_Z, mF_1, mF_2, mWd_1, mWd_w, mWd_2, mA_1, mA_w, mA_a, mA_v, mV_1, mV_w, mV_a, mV_v, mA_mA, mV_mV, mF_mF, nI_add, nI_cl, vpi, i01, i02, i10, i11, ↓reduceIte, not_true_eq_false, not_false_eq_true, and_true, true_and, ne_eq, Nat.reduceAdd, Nat.reduceMul, Nat.reduceSub, Nat.reduceEqDiff, reduceCtorEq, Nat.add_zero, Nat.zero_add, n0p, ite_true, ite_false, if_true, if_false]
      exact h0 (fun h => ha h.2.1)
  · simp (disch := omega) only [xrI_mk, xrV_mk, xrL_mk, xrR_mk, mg_0, mg_1, mp_2, mg_2, mg_3, mg_4, mp_5, mg_5, mp_6, mg_6, mp_7, mg_7, mp_8, mg_8, mp_9, mg_9, mp_10, mg_10, mp_11, mg_11, mp_12, mg_12, mp_13, mg_13, mp_14, mg_14, mp_15, mg_15, mp_16, mg_16, mg_17, mp_18, mg_18, mp_19, mg_19, mp_20, mg_20, mp_21, mg_21, mg_22, mg_23, mg_24, mg_25, mg_26, mg_27, mg_28, mg_29, mg_30, mg_31, mg_32, mg_33, mg_34, mp_35, mg_35, mp_36, mg_36, mg_37, mg_38, mg_39, ma_1, ms_1, ma_2, ms_2, ma_3, ms_3, ma_4, ms_4, ma_5, ms_5, ma_6, ms_6, ma_9, ms_9, ma_10, ms_10, ma_11, ms_11, ma_12, ms_12, ma_13, ms_13, ma_14, ms_14, ma_15, ms_15, ma_16, ms_16, ma_17, ms_17, ma_18, ms_18, ma_19, ms_19, ma_20, ms_20, ma_21, ms_21, mo_q', ma_L, ms_L, ma_Z, ms_Z, mF_1, mF_2, mWd_1, mWd_w, mWd_2, mA_1, mA_w, mA_a, mA_v, mV_1, mV_w, mV_a, mV_v, mA_mA, mV_mV, mF_mF, nI_add, nI_cl, vpi, i01, i02, i10, i11, ↓reduceIte, not_true_eq_false, not_false_eq_true, and_true, true_and, ne_eq, Nat.reduceAdd, Nat.reduceMul, Nat.reduceSub, Nat.reduceEqDiff, reduceCtorEq, Nat.add_zero, Nat.zero_add, n0p, ite_true, ite_false, if_true, if_false]
    exact h0 (fun h => a h.1)
end MC3
