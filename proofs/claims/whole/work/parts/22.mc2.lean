/-! the reference: copies, the start, hours kept, what is told -/
/-- f but the row r at places x .. x + n - 1 -/
def lay (f : Nat → Int32) (x n : Nat) (r : Nat → Int32) : Nat → Int32 := fun j => if x ≤ j ∧ j < x + n then r (j - x) else f j
theorem lay_in {f r : Nat → Int32} {x n j : Nat} (h : j < n) : lay f x n r (x + j) = r j := by
  unfold lay
  rw [if_pos (by omega), Nat.add_sub_cancel_left]
theorem lay_out {f r : Nat → Int32} {x n j : Nat} (h : j < x ∨ x + n ≤ j) : lay f x n r j = f j := if_neg (by omega)
theorem lay_0 {f r : Nat → Int32} {x : Nat} : lay f x 0 r = f := by
  funext j
  exact lay_out (by omega)
theorem lay_s {f r : Nat → Int32} {x n : Nat} : upd (lay f x n r) (x + n) (r n) = lay f x (n + 1) r := by
  funext j
  unfold upd lay
  by_cases h : j = x + n
  · subst h
    rw [if_pos rfl, if_pos (by omega), Nat.add_sub_cancel_left]
  · rw [if_neg h]
    by_cases h2 : x ≤ j ∧ j < x + n
    · rw [if_pos h2, if_pos (by omega)]
    · rw [if_neg h2, if_neg (by omega)]
theorem lay_c {f r r' : Nat → Int32} {x n : Nat} (h : ∀ j, j < n → r j = r' j) : lay f x n r = lay f x n r' := by
  funext j
  unfold lay
  split
  · exact h _ (by omega)
  · rfl
theorem nI_s {n : Nat} : nI n + nI 1 = nI (n + 1) := nI_add n 1
theorem ifle {a b : Nat} {A B : Prop} (ha : a < 2 ^ 31) (hb : b < 2 ^ 31) (h1 : a ≤ b → A) (h2 : b < a → B) : if nI a ≤ nI b then A else B := by
  by_cases h : a ≤ b
  · rw [if_pos (nI_le h hb)]; exact h1 h
  · rw [if_neg (nI_ge (by omega) ha)]; exact h2 (by omega)
/-- the start's row: hour, bell, what each keeps, what each got -/
def beginRow (fst : Nat → Int32) : Nat → Int32 := fun j => if j < 2 then 0 else if j < 11 then fst (j - 2) else -1
section MC2
variable {sa : Nat → Nat} {d : Nat} {Q : xQ} {q : Nat} {M0 M : xM} {σ : mS} {R : Nat}
theorem c_M_begin {k x : Nat} (hk : mI k = true) (hx : x + 30 ≤ mLen k) (hx2 : mLen k < 2 ^ 31) (h1 : k = 1 → 190 ≤ x) (h : Q none (mM q M0 (mA σ k (lay (σ.2.2.1 k) x 29 (beginRow (fun i => σ.2.2.1 1 (20 + i))))))) : xEv xP (xprim sa) (d + 1) m_M_begin [.ref q, .ref (q + k), .int (nI x)] (mM q M0 σ) Q := by
  refine t_M_begin ?_
  simp (disch := omega) only [ms_I hk, nI_add, nI_cl, vpi, true_and, mA_a, mA_mA, Nat.add_zero, if_true]
  have loop : ∀ (m n : Nat), m + n = 9 → ∀ f : Nat → Int32, (∀ j, f j = if x ≤ j ∧ j < x + 29 ∧ (j < x + 2 + n ∨ (x + 11 ≤ j ∧ j < x + 11 + n) ∨ x + 20 ≤ j ∧ j < x + 20 + n) then beginRow (fun i => σ.2.2.1 1 (20 + i)) (j - x) else σ.2.2.1 k j) → K_M_begin sa d Q 1 [some (.ref q), some (.ref (q + k)), some (.int (nI x)), some (.int (nI n))] [] (mM q M0 (mA σ k f)) (0, 0) := by
    intro m
    induction m with
    | zero =>
      intro n hn f hf
      refine t_M_begin_1 (ifle (by omega) (by omega) (fun _ => ?_) (fun h9 => by omega))
      have e : f = lay (σ.2.2.1 k) x 29 (beginRow (fun i => σ.2.2.1 1 (20 + i))) := by
        funext j
        rw [hf j]
        unfold lay
        by_cases hj : x ≤ j ∧ j < x + 29
        · rw [if_pos hj, if_pos (by omega)]
        · rw [if_neg hj, if_neg (by omega)]
      rw [e]
      exact h
    | succ m ih =>
      intro n hn f hf
      refine t_M_begin_1 (ifle (by omega) (by omega) (fun h9 => by omega) (fun _ => ?_))
      have hsrc : (if (1 : Nat) = k then f else σ.2.2.1 1) (20 + n) = σ.2.2.1 1 (20 + n) := by
        by_cases hk1 : 1 = k
        · subst hk1
          rw [if_pos rfl, hf, if_neg (by have := h1 rfl; omega)]
        · rw [if_neg hk1]
      simp (disch := omega) only [ms_I hk, mg_0, ma_1, nI_add, nI_cl, vpi, true_and, mA_a, mA_mA, if_true, hsrc]
      refine ih (n + 1) (by omega) _ (fun j => ?_)
      unfold upd
      by_cases e1 : j = x + 20 + n
      · rw [if_pos e1, if_pos (by omega)]
        unfold beginRow
        rw [if_neg (by omega), if_neg (by omega)]
      · rw [if_neg e1]
        by_cases e2 : j = x + 11 + n
        · rw [if_pos e2, if_pos (by omega)]
          unfold beginRow
          rw [if_neg (by omega), if_neg (by omega)]
        · rw [if_neg e2]
          by_cases e3 : j = x + 2 + n
          · rw [if_pos e3, if_pos (by omega)]
            unfold beginRow
            rw [if_neg (by omega), if_pos (by omega), show j - x - 2 = n by omega]
          · rw [if_neg e3, hf j]
            by_cases e4 : x ≤ j ∧ j < x + 29 ∧ (j < x + 2 + n ∨ (x + 11 ≤ j ∧ j < x + 11 + n) ∨ x + 20 ≤ j ∧ j < x + 20 + n)
            · rw [if_pos e4, if_pos (by omega)]
            · rw [if_neg e4, if_neg (by omega)]
  refine loop 9 0 rfl _ (fun j => ?_)
  unfold upd
  by_cases e1 : j = x + 1
  · rw [if_pos e1, if_pos (by omega)]
    unfold beginRow
    rw [if_pos (by omega)]
    rfl
  · rw [if_neg e1]
    by_cases e2 : j = x
    · rw [if_pos e2, if_pos (by omega)]
      unfold beginRow
      rw [if_pos (by omega)]
      rfl
    · rw [if_neg e2, if_neg (by omega)]
theorem c_M_copy {k k' : Nat} (hk : mI k = true) (hk' : mI k' = true) (hne : k ≠ k') (hl : mLen k = 1420) (hl' : mLen k' = 1420) (h : Q none (mM q M0 (mA σ k' (lay (σ.2.2.1 k') 0 1420 (σ.2.2.1 k))))) : xEv xP (xprim sa) (d + 1) m_M_copy [.ref (q + k), .ref (q + k')] (mM q M0 σ) Q := by
  refine t_M_copy ?_
  have loop : ∀ (m n : Nat), m + n = 1420 → K_M_copy sa d Q 1 [some (.ref (q + k)), some (.ref (q + k')), some (.int (nI n))] [] (mM q M0 (mA σ k' (lay (σ.2.2.1 k') 0 n (σ.2.2.1 k)))) (0, 0) := by
    intro m
    induction m with
    | zero =>
      intro n hn
      refine t_M_copy_1 (ifle (by omega) (by omega) (fun _ => ?_) (fun h9 => by omega))
      rw [show n = 1420 by omega]
      exact h
    | succ m ih =>
      intro n hn
      refine t_M_copy_1 (ifle (by omega) (by omega) (fun h9 => by omega) (fun _ => ?_))
      simp (disch := omega) only [ma_I hk, ms_I hk', hl, hl', nI_add, nI_cl, vpi, true_and, mA_a, mA_mA, if_true, if_neg hne]
      have := ih (n + 1) (by omega)
      rw [← lay_s, Nat.zero_add] at this
      exact this
  have := loop 1420 0 rfl
  rw [lay_0] at this
  have e : mA σ k' (σ.2.2.1 k') = σ := by
    obtain ⟨f1, w, a, v⟩ := σ
    unfold mA
    simp only [Prod.mk.injEq, true_and, and_true]
    funext i
    split
    · rename_i h; rw [h]
    · rfl
  rw [e] at this
  exact this
theorem c_M_image (h : Q (some (.int (σ.2.2.1 1 190))) (mM q M0 (mA σ 2 (lay (σ.2.2.1 2) 0 1420 (σ.2.2.1 1))))) : xEv xP (xprim sa) (d + 2) m_M_image [.ref q] (mM q M0 σ) Q := by
  refine t_M_image ?_
  simp (disch := omega) only [xrI_mk, xrV_mk, xrL_mk, xrR_mk, mg_0, mg_1, mp_2, mg_2, mg_3, mg_4, mp_5, mg_5, mp_6, mg_6, mp_7, mg_7, mp_8, mg_8, mp_9, mg_9, mp_10, mg_10, mp_11, mg_11, mp_12, mg_12, mp_13, mg_13, mp_14, mg_14, mp_15, mg_15, mp_16, mg_16, mg_17, mp_18, mg_18, mp_19, mg_19, mp_20, mg_20, mp_21, mg_21, mg_22, mg_23, mg_24, mg_25, mg_26, mg_27, mg_28, mg_29, mg_30, mg_31, mg_32, mg_33, mg_34, mp_35, mg_35, mp_36, mg_36, mg_37, mg_38, mg_39, ma_1, ms_1, ma_2, ms_2, ma_3, ms_3, ma_4, ms_4, ma_5, ms_5, ma_6, ms_6, ma_9, ms_9, ma_10, ms_10, ma_11, ms_11, ma_12, ms_12, ma_13, ms_13, ma_14, ms_14, ma_15, ms_15, ma_16, ms_16, ma_17, ms_17, ma_18, ms_18, ma_19, ms_19, ma_20, ms_20, ma_21, ms_21, mo_q', ma_L, ms_L, ma_Z, ms_Z, mF_1, mF_2, mWd_1, mWd_w, mWd_2, mA_1, mA_w, mA_a, mA_v, mV_1, mV_w, mV_a, mV_v, mA_mA, mV_mV, mF_mF, nI_add, nI_cl, vpi, i01, i02, i10, i11, ↓reduceIte, not_true_eq_false, not_false_eq_true, and_true, true_and, ne_eq, Nat.reduceAdd, Nat.reduceMul, Nat.reduceSub, Nat.reduceEqDiff, reduceCtorEq, Nat.add_zero, Nat.zero_add, n0p, ite_true, ite_false, if_true, if_false]
  refine c_M_copy rfl rfl (by decide) rfl rfl ?_
  simp (disch := omega) only [xrI_mk, xrV_mk, xrL_mk, xrR_mk, mg_0, mg_1, mp_2, mg_2, mg_3, mg_4, mp_5, mg_5, mp_6, mg_6, mp_7, mg_7, mp_8, mg_8, mp_9, mg_9, mp_10, mg_10, mp_11, mg_11, mp_12, mg_12, mp_13, mg_13, mp_14, mg_14, mp_15, mg_15, mp_16, mg_16, mg_17, mp_18, mg_18, mp_19, mg_19, mp_20, mg_20, mp_21, mg_21, mg_22, mg_23, mg_24, mg_25, mg_26, mg_27, mg_28, mg_29, mg_30, mg_31, mg_32, mg_33, mg_34, mp_35, mg_35, mp_36, mg_36, mg_37, mg_38, mg_39, ma_1, ms_1, ma_2, ms_2, ma_3, ms_3, ma_4, ms_4, ma_5, ms_5, ma_6, ms_6, ma_9, ms_9, ma_10, ms_10, ma_11, ms_11, ma_12, ms_12, ma_13, ms_13, ma_14, ms_14, ma_15, ms_15, ma_16, ms_16, ma_17, ms_17, ma_18, ms_18, ma_19, ms_19, ma_20, ms_20, ma_21, ms_21, mo_q', ma_L, ms_L, ma_Z, ms_Z, mF_1, mF_2, mWd_1, mWd_w, mWd_2, mA_1, mA_w, mA_a, mA_v, mV_1, mV_w, mV_a, mV_v, mA_mA, mV_mV, mF_mF, nI_add, nI_cl, vpi, i01, i02, i10, i11, ↓reduceIte, not_true_eq_false, not_false_eq_true, and_true, true_and, ne_eq, Nat.reduceAdd, Nat.reduceMul, Nat.reduceSub, Nat.reduceEqDiff, reduceCtorEq, Nat.add_zero, Nat.zero_add, n0p, ite_true, ite_false, if_true, if_false]
  exact h
theorem c_M_back (h : Q (some (.int (σ.2.2.1 2 190))) (mM q M0 (mA σ 1 (lay (σ.2.2.1 1) 0 1420 (σ.2.2.1 2))))) : xEv xP (xprim sa) (d + 2) m_M_back [.ref q] (mM q M0 σ) Q := by
  refine t_M_back ?_
  simp (disch := omega) only [xrI_mk, xrV_mk, xrL_mk, xrR_mk, mg_0, mg_1, mp_2, mg_2, mg_3, mg_4, mp_5, mg_5, mp_6, mg_6, mp_7, mg_7, mp_8, mg_8, mp_9, mg_9, mp_10, mg_10, mp_11, mg_11, mp_12, mg_12, mp_13, mg_13, mp_14, mg_14, mp_15, mg_15, mp_16, mg_16, mg_17, mp_18, mg_18, mp_19, mg_19, mp_20, mg_20, mp_21, mg_21, mg_22, mg_23, mg_24, mg_25, mg_26, mg_27, mg_28, mg_29, mg_30, mg_31, mg_32, mg_33, mg_34, mp_35, mg_35, mp_36, mg_36, mg_37, mg_38, mg_39, ma_1, ms_1, ma_2, ms_2, ma_3, ms_3, ma_4, ms_4, ma_5, ms_5, ma_6, ms_6, ma_9, ms_9, ma_10, ms_10, ma_11, ms_11, ma_12, ms_12, ma_13, ms_13, ma_14, ms_14, ma_15, ms_15, ma_16, ms_16, ma_17, ms_17, ma_18, ms_18, ma_19, ms_19, ma_20, ms_20, ma_21, ms_21, mo_q', ma_L, ms_L, ma_Z, ms_Z, mF_1, mF_2, mWd_1, mWd_w, mWd_2, mA_1, mA_w, mA_a, mA_v, mV_1, mV_w, mV_a, mV_v, mA_mA, mV_mV, mF_mF, nI_add, nI_cl, vpi, i01, i02, i10, i11, ↓reduceIte, not_true_eq_false, not_false_eq_true, and_true, true_and, ne_eq, Nat.reduceAdd, Nat.reduceMul, Nat.reduceSub, Nat.reduceEqDiff, reduceCtorEq, Nat.add_zero, Nat.zero_add, n0p, ite_true, ite_false, if_true, if_false]
  refine c_M_copy rfl rfl (by decide) rfl rfl ?_
  simp (disch := omega) only [xrI_mk, xrV_mk, xrL_mk, xrR_mk, mg_0, mg_1, mp_2, mg_2, mg_3, mg_4, mp_5, mg_5, mp_6, mg_6, mp_7, mg_7, mp_8, mg_8, mp_9, mg_9, mp_10, mg_10, mp_11, mg_11, mp_12, mg_12, mp_13, mg_13, mp_14, mg_14, mp_15, mg_15, mp_16, mg_16, mg_17, mp_18, mg_18, mp_19, mg_19, mp_20, mg_20, mp_21, mg_21, mg_22, mg_23, mg_24, mg_25, mg_26, mg_27, mg_28, mg_29, mg_30, mg_31, mg_32, mg_33, mg_34, mp_35, mg_35, mp_36, mg_36, mg_37, mg_38, mg_39, ma_1, ms_1, ma_2, ms_2, ma_3, ms_3, ma_4, ms_4, ma_5, ms_5, ma_6, ms_6, ma_9, ms_9, ma_10, ms_10, ma_11, ms_11, ma_12, ms_12, ma_13, ms_13, ma_14, ms_14, ma_15, ms_15, ma_16, ms_16, ma_17, ms_17, ma_18, ms_18, ma_19, ms_19, ma_20, ms_20, ma_21, ms_21, mo_q', ma_L, ms_L, ma_Z, ms_Z, mF_1, mF_2, mWd_1, mWd_w, mWd_2, mA_1, mA_w, mA_a, mA_v, mV_1, mV_w, mV_a, mV_v, mA_mA, mV_mV, mF_mF, nI_add, nI_cl, vpi, i01, i02, i10, i11, ↓reduceIte, not_true_eq_false, not_false_eq_true, and_true, true_and, ne_eq, Nat.reduceAdd, Nat.reduceMul, Nat.reduceSub, Nat.reduceEqDiff, reduceCtorEq, Nat.add_zero, Nat.zero_add, n0p, ite_true, ite_false, if_true, if_false]
  have e : lay (σ.2.2.1 1) 0 1420 (σ.2.2.1 2) 190 = σ.2.2.1 2 190 := by
    have := lay_in (f := σ.2.2.1 1) (r := σ.2.2.1 2) (x := 0) (n := 1420) (j := 190) (by omega)
    rwa [Nat.zero_add] at this
  rw [e]
  exact h
theorem c_M_start (h : Q (some (.int (σ.2.2.1 1 190))) (mM q M0 (mA σ 1 (lay (upd (σ.2.2.1 1) 2 0) 190 29 (beginRow (fun i => σ.2.2.1 1 (20 + i))))))) : xEv xP (xprim sa) (d + 2) m_M_start [.ref q] (mM q M0 σ) Q := by
  refine t_M_start ?_
  simp (disch := omega) only [xrI_mk, xrV_mk, xrL_mk, xrR_mk, mg_0, mg_1, mp_2, mg_2, mg_3, mg_4, mp_5, mg_5, mp_6, mg_6, mp_7, mg_7, mp_8, mg_8, mp_9, mg_9, mp_10, mg_10, mp_11, mg_11, mp_12, mg_12, mp_13, mg_13, mp_14, mg_14, mp_15, mg_15, mp_16, mg_16, mg_17, mp_18, mg_18, mp_19, mg_19, mp_20, mg_20, mp_21, mg_21, mg_22, mg_23, mg_24, mg_25, mg_26, mg_27, mg_28, mg_29, mg_30, mg_31, mg_32, mg_33, mg_34, mp_35, mg_35, mp_36, mg_36, mg_37, mg_38, mg_39, ma_1, ms_1, ma_2, ms_2, ma_3, ms_3, ma_4, ms_4, ma_5, ms_5, ma_6, ms_6, ma_9, ms_9, ma_10, ms_10, ma_11, ms_11, ma_12, ms_12, ma_13, ms_13, ma_14, ms_14, ma_15, ms_15, ma_16, ms_16, ma_17, ms_17, ma_18, ms_18, ma_19, ms_19, ma_20, ms_20, ma_21, ms_21, mo_q', ma_L, ms_L, ma_Z, ms_Z, mF_1, mF_2, mWd_1, mWd_w, mWd_2, mA_1, mA_w, mA_a, mA_v, mV_1, mV_w, mV_a, mV_v, mA_mA, mV_mV, mF_mF, nI_add, nI_cl, vpi, i01, i02, i10, i11, ↓reduceIte, not_true_eq_false, not_false_eq_true, and_true, true_and, ne_eq, Nat.reduceAdd, Nat.reduceMul, Nat.reduceSub, Nat.reduceEqDiff, reduceCtorEq, Nat.add_zero, Nat.zero_add, n0p, ite_true, ite_false, if_true, if_false]
  refine c_M_begin rfl (by decide) (by decide) (fun _ => by omega) ?_
  simp (disch := omega) only [xrI_mk, xrV_mk, xrL_mk, xrR_mk, mg_0, mg_1, mp_2, mg_2, mg_3, mg_4, mp_5, mg_5, mp_6, mg_6, mp_7, mg_7, mp_8, mg_8, mp_9, mg_9, mp_10, mg_10, mp_11, mg_11, mp_12, mg_12, mp_13, mg_13, mp_14, mg_14, mp_15, mg_15, mp_16, mg_16, mg_17, mp_18, mg_18, mp_19, mg_19, mp_20, mg_20, mp_21, mg_21, mg_22, mg_23, mg_24, mg_25, mg_26, mg_27, mg_28, mg_29, mg_30, mg_31, mg_32, mg_33, mg_34, mp_35, mg_35, mp_36, mg_36, mg_37, mg_38, mg_39, ma_1, ms_1, ma_2, ms_2, ma_3, ms_3, ma_4, ms_4, ma_5, ms_5, ma_6, ms_6, ma_9, ms_9, ma_10, ms_10, ma_11, ms_11, ma_12, ms_12, ma_13, ms_13, ma_14, ms_14, ma_15, ms_15, ma_16, ms_16, ma_17, ms_17, ma_18, ms_18, ma_19, ms_19, ma_20, ms_20, ma_21, ms_21, mo_q', ma_L, ms_L, ma_Z, ms_Z, mF_1, mF_2, mWd_1, mWd_w, mWd_2, mA_1, mA_w, mA_a, mA_v, mV_1, mV_w, mV_a, mV_v, mA_mA, mV_mV, mF_mF, nI_add, nI_cl, vpi, i01, i02, i10, i11, ↓reduceIte, not_true_eq_false, not_false_eq_true, and_true, true_and, ne_eq, Nat.reduceAdd, Nat.reduceMul, Nat.reduceSub, Nat.reduceEqDiff, reduceCtorEq, Nat.add_zero, Nat.zero_add, n0p, ite_true, ite_false, if_true, if_false]
  have e : (fun i => upd (σ.2.2.1 1) 2 (nI 0) (20 + i)) = (fun i => σ.2.2.1 1 (20 + i)) := by
    funext i
    unfold upd
    rw [if_neg (by omega)]
  rw [e]
  exact h
theorem c_M_fault {v : Int32} (h : Q (some (.int (if v = 0 then σ.1 6 else if v = nI 1 then σ.1 7 else -1))) (mM q M0 σ)) : xEv xP (xprim sa) (d + 1) m_M_fault [.ref q, .int v] (mM q M0 σ) Q := by
  refine t_M_fault ?_
  by_cases h0 : v = 0
  · rw [if_neg (not_not_intro h0)]
    rw [if_pos h0] at h
    simp (disch := omega) only [xrI_mk, xrV_mk, xrL_mk, xrR_mk, mg_0, mg_1, mp_2, mg_2, mg_3, mg_4, mp_5, mg_5, mp_6, mg_6, mp_7, mg_7, mp_8, mg_8, mp_9, mg_9, mp_10, mg_10, mp_11, mg_11, mp_12, mg_12, mp_13, mg_13, mp_14, mg_14, mp_15, mg_15, mp_16, mg_16, mg_17, mp_18, mg_18, mp_19, mg_19, mp_20, mg_20, mp_21, mg_21, mg_22, mg_23, mg_24, mg_25, mg_26, mg_27, mg_28, mg_29, mg_30, mg_31, mg_32, mg_33, mg_34, mp_35, mg_35, mp_36, mg_36, mg_37, mg_38, mg_39, ma_1, ms_1, ma_2, ms_2, ma_3, ms_3, ma_4, ms_4, ma_5, ms_5, ma_6, ms_6, ma_9, ms_9, ma_10, ms_10, ma_11, ms_11, ma_12, ms_12, ma_13, ms_13, ma_14, ms_14, ma_15, ms_15, ma_16, ms_16, ma_17, ms_17, ma_18, ms_18, ma_19, ms_19, ma_20, ms_20, ma_21, ms_21, mo_q', ma_L, ms_L, ma_Z, ms_Z, mF_1, mF_2, mWd_1, mWd_w, mWd_2, mA_1, mA_w, mA_a, mA_v, mV_1, mV_w, mV_a, mV_v, mA_mA, mV_mV, mF_mF, nI_add, nI_cl, vpi, i01, i02, i10, i11, ↓reduceIte, not_true_eq_false, not_false_eq_true, and_true, true_and, ne_eq, Nat.reduceAdd, Nat.reduceMul, Nat.reduceSub, Nat.reduceEqDiff, reduceCtorEq, Nat.add_zero, Nat.zero_add, n0p, ite_true, ite_false, if_true, if_false]
    exact h
  · rw [if_pos h0]
    rw [if_neg h0] at h
    by_cases h1 : v = nI 1
    · rw [if_neg (not_not_intro h1)]
      rw [if_pos h1] at h
      simp (disch := omega) only [xrI_mk, xrV_mk, xrL_mk, xrR_mk, mg_0, mg_1, mp_2, mg_2, mg_3, mg_4, mp_5, mg_5, mp_6, mg_6, mp_7, mg_7, mp_8, mg_8, mp_9, mg_9, mp_10, mg_10, mp_11, mg_11, mp_12, mg_12, mp_13, mg_13, mp_14, mg_14, mp_15, mg_15, mp_16, mg_16, mg_17, mp_18, mg_18, mp_19, mg_19, mp_20, mg_20, mp_21, mg_21, mg_22, mg_23, mg_24, mg_25, mg_26, mg_27, mg_28, mg_29, mg_30, mg_31, mg_32, mg_33, mg_34, mp_35, mg_35, mp_36, mg_36, mg_37, mg_38, mg_39, ma_1, ms_1, ma_2, ms_2, ma_3, ms_3, ma_4, ms_4, ma_5, ms_5, ma_6, ms_6, ma_9, ms_9, ma_10, ms_10, ma_11, ms_11, ma_12, ms_12, ma_13, ms_13, ma_14, ms_14, ma_15, ms_15, ma_16, ms_16, ma_17, ms_17, ma_18, ms_18, ma_19, ms_19, ma_20, ms_20, ma_21, ms_21, mo_q', ma_L, ms_L, ma_Z, ms_Z, mF_1, mF_2, mWd_1, mWd_w, mWd_2, mA_1, mA_w, mA_a, mA_v, mV_1, mV_w, mV_a, mV_v, mA_mA, mV_mV, mF_mF, nI_add, nI_cl, vpi, i01, i02, i10, i11, ↓reduceIte, not_true_eq_false, not_false_eq_true, and_true, true_and, ne_eq, Nat.reduceAdd, Nat.reduceMul, Nat.reduceSub, Nat.reduceEqDiff, reduceCtorEq, Nat.add_zero, Nat.zero_add, n0p, ite_true, ite_false, if_true, if_false]
      exact h
    · rw [if_pos h1]
      rw [if_neg h1] at h
      exact h
theorem c_M_by {v : Int32} (h1 : iv v (-1) (σ.2.2.1 1 0 - 1) → Q (some (.int 1)) (mM q M0 (mA σ 1 (upd (σ.2.2.1 1) 1 v)))) (h0 : ¬ iv v (-1) (σ.2.2.1 1 0 - 1) → Q (some (.int 0)) (mM q M0 σ)) : xEv xP (xprim sa) (d + 2) m_M_by [.ref q, .int v] (mM q M0 σ) Q := by
  refine t_M_by ?_
  simp (disch := omega) only [xrI_mk, xrV_mk, xrL_mk, xrR_mk, mg_0, mg_1, mp_2, mg_2, mg_3, mg_4, mp_5, mg_5, mp_6, mg_6, mp_7, mg_7, mp_8, mg_8, mp_9, mg_9, mp_10, mg_10, mp_11, mg_11, mp_12, mg_12, mp_13, mg_13, mp_14, mg_14, mp_15, mg_15, mp_16, mg_16, mg_17, mp_18, mg_18, mp_19, mg_19, mp_20, mg_20, mp_21, mg_21, mg_22, mg_23, mg_24, mg_25, mg_26, mg_27, mg_28, mg_29, mg_30, mg_31, mg_32, mg_33, mg_34, mp_35, mg_35, mp_36, mg_36, mg_37, mg_38, mg_39, ma_1, ms_1, ma_2, ms_2, ma_3, ms_3, ma_4, ms_4, ma_5, ms_5, ma_6, ms_6, ma_9, ms_9, ma_10, ms_10, ma_11, ms_11, ma_12, ms_12, ma_13, ms_13, ma_14, ms_14, ma_15, ms_15, ma_16, ms_16, ma_17, ms_17, ma_18, ms_18, ma_19, ms_19, ma_20, ms_20, ma_21, ms_21, mo_q', ma_L, ms_L, ma_Z, ms_Z, mF_1, mF_2, mWd_1, mWd_w, mWd_2, mA_1, mA_w, mA_a, mA_v, mV_1, mV_w, mV_a, mV_v, mA_mA, mV_mV, mF_mF, nI_add, nI_cl, vpi, i01, i02, i10, i11, ↓reduceIte, not_true_eq_false, not_false_eq_true, and_true, true_and, ne_eq, Nat.reduceAdd, Nat.reduceMul, Nat.reduceSub, Nat.reduceEqDiff, reduceCtorEq, Nat.add_zero, Nat.zero_add, n0p, ite_true, ite_false, if_true, if_false]
  refine c_M_isIn (fun a => ?_) (fun a => ?_)
  · simp (disch := omega) only [xrI_mk, xrV_mk, xrL_mk, xrR_mk, mg_0, mg_1, mp_2, mg_2, mg_3, mg_4, mp_5, mg_5, mp_6, mg_6, mp_7, mg_7, mp_8, mg_8, mp_9, mg_9, mp_10, mg_10, mp_11, mg_11, mp_12, mg_12, mp_13, mg_13, mp_14, mg_14, mp_15, mg_15, mp_16, mg_16, mg_17, mp_18, mg_18, mp_19, mg_19, mp_20, mg_20, mp_21, mg_21, mg_22, mg_23, mg_24, mg_25, mg_26, mg_27, mg_28, mg_29, mg_30, mg_31, mg_32, mg_33, mg_34, mp_35, mg_35, mp_36, mg_36, mg_37, mg_38, mg_39, ma_1, ms_1, ma_2, ms_2, ma_3, ms_3, ma_4, ms_4, ma_5, ms_5, ma_6, ms_6, ma_9, ms_9, ma_10, ms_10, ma_11, ms_11, ma_12, ms_12, ma_13, ms_13, ma_14, ms_14, ma_15, ms_15, ma_16, ms_16, ma_17, ms_17, ma_18, ms_18, ma_19, ms_19, ma_20, ms_20, ma_21, ms_21, mo_q', ma_L, ms_L, ma_Z, ms_Z, mF_1, mF_2, mWd_1, mWd_w, mWd_2, mA_1, mA_w, mA_a, mA_v, mV_1, mV_w, mV_a, mV_v, mA_mA, mV_mV, mF_mF, nI_add, nI_cl, vpi, i01, i02, i10, i11, ↓reduceIte, not_true_eq_false, not_false_eq_true, and_true, true_and, ne_eq, Nat.reduceAdd, Nat.reduceMul, Nat.reduceSub, Nat.reduceEqDiff, reduceCtorEq, Nat.add_zero, Nat.zero_add, n0p, ite_true, ite_false, if_true, if_false]
    exact h1 a
  · simp (disch := omega) only [xrI_mk, xrV_mk, xrL_mk, xrR_mk, mg_0, mg_1, mp_2, mg_2, mg_3, mg_4, mp_5, mg_5, mp_6, mg_6, mp_7, mg_7, mp_8, mg_8, mp_9, mg_9, mp_10, mg_10, mp_11, mg_11, mp_12, mg_12, mp_13, mg_13, mp_14, mg_14, mp_15, mg_15, mp_16, mg_16, mg_17, mp_18, mg_18, mp_19, mg_19, mp_20, mg_20, mp_21, mg_21, mg_22, mg_23, mg_24, mg_25, mg_26, mg_27, mg_28, mg_29, mg_30, mg_31, mg_32, mg_33, mg_34, mp_35, mg_35, mp_36, mg_36, mg_37, mg_38, mg_39, ma_1, ms_1, ma_2, ms_2, ma_3, ms_3, ma_4, ms_4, ma_5, ms_5, ma_6, ms_6, ma_9, ms_9, ma_10, ms_10, ma_11, ms_11, ma_12, ms_12, ma_13, ms_13, ma_14, ms_14, ma_15, ms_15, ma_16, ms_16, ma_17, ms_17, ma_18, ms_18, ma_19, ms_19, ma_20, ms_20, ma_21, ms_21, mo_q', ma_L, ms_L, ma_Z, ms_Z, mF_1, mF_2, mWd_1, mWd_w, mWd_2, mA_1, mA_w, mA_a, mA_v, mV_1, mV_w, mV_a, mV_v, mA_mA, mV_mV, mF_mF, nI_add, nI_cl, vpi, i01, i02, i10, i11, ↓reduceIte, not_true_eq_false, not_false_eq_true, and_true, true_and, ne_eq, Nat.reduceAdd, Nat.reduceMul, Nat.reduceSub, Nat.reduceEqDiff, reduceCtorEq, Nat.add_zero, Nat.zero_add, n0p, ite_true, ite_false, if_true, if_false]
    exact h0 a
theorem c_M_end {v : Int32} (h1 : iv v 0 (σ.1 5) → Q (some (.int v)) (mM q M0 (mF σ 5 v))) (h0 : ¬ iv v 0 (σ.1 5) → Q (some (.int (-1))) (mM q M0 σ)) : xEv xP (xprim sa) (d + 2) m_M_end [.ref q, .int v] (mM q M0 σ) Q := by
  refine t_M_end ?_
  simp (disch := omega) only [xrI_mk, xrV_mk, xrL_mk, xrR_mk, mg_0, mg_1, mp_2, mg_2, mg_3, mg_4, mp_5, mg_5, mp_6, mg_6, mp_7, mg_7, mp_8, mg_8, mp_9, mg_9, mp_10, mg_10, mp_11, mg_11, mp_12, mg_12, mp_13, mg_13, mp_14, mg_14, mp_15, mg_15, mp_16, mg_16, mg_17, mp_18, mg_18, mp_19, mg_19, mp_20, mg_20, mp_21, mg_21, mg_22, mg_23, mg_24, mg_25, mg_26, mg_27, mg_28, mg_29, mg_30, mg_31, mg_32, mg_33, mg_34, mp_35, mg_35, mp_36, mg_36, mg_37, mg_38, mg_39, ma_1, ms_1, ma_2, ms_2, ma_3, ms_3, ma_4, ms_4, ma_5, ms_5, ma_6, ms_6, ma_9, ms_9, ma_10, ms_10, ma_11, ms_11, ma_12, ms_12, ma_13, ms_13, ma_14, ms_14, ma_15, ms_15, ma_16, ms_16, ma_17, ms_17, ma_18, ms_18, ma_19, ms_19, ma_20, ms_20, ma_21, ms_21, mo_q', ma_L, ms_L, ma_Z, ms_Z, mF_1, mF_2, mWd_1, mWd_w, mWd_2, mA_1, mA_w, mA_a, mA_v, mV_1, mV_w, mV_a, mV_v, mA_mA, mV_mV, mF_mF, nI_add, nI_cl, vpi, i01, i02, i10, i11, ↓reduceIte, not_true_eq_false, not_false_eq_true, and_true, true_and, ne_eq, Nat.reduceAdd, Nat.reduceMul, Nat.reduceSub, Nat.reduceEqDiff, reduceCtorEq, Nat.add_zero, Nat.zero_add, n0p, ite_true, ite_false, if_true, if_false]
  refine c_M_isIn (fun a => ?_) (fun a => ?_)
  · simp (disch := omega) only [xrI_mk, xrV_mk, xrL_mk, xrR_mk, mg_0, mg_1, mp_2, mg_2, mg_3, mg_4, mp_5, mg_5, mp_6, mg_6, mp_7, mg_7, mp_8, mg_8, mp_9, mg_9, mp_10, mg_10, mp_11, mg_11, mp_12, mg_12, mp_13, mg_13, mp_14, mg_14, mp_15, mg_15, mp_16, mg_16, mg_17, mp_18, mg_18, mp_19, mg_19, mp_20, mg_20, mp_21, mg_21, mg_22, mg_23, mg_24, mg_25, mg_26, mg_27, mg_28, mg_29, mg_30, mg_31, mg_32, mg_33, mg_34, mp_35, mg_35, mp_36, mg_36, mg_37, mg_38, mg_39, ma_1, ms_1, ma_2, ms_2, ma_3, ms_3, ma_4, ms_4, ma_5, ms_5, ma_6, ms_6, ma_9, ms_9, ma_10, ms_10, ma_11, ms_11, ma_12, ms_12, ma_13, ms_13, ma_14, ms_14, ma_15, ms_15, ma_16, ms_16, ma_17, ms_17, ma_18, ms_18, ma_19, ms_19, ma_20, ms_20, ma_21, ms_21, mo_q', ma_L, ms_L, ma_Z, ms_Z, mF_1, mF_2, mWd_1, mWd_w, mWd_2, mA_1, mA_w, mA_a, mA_v, mV_1, mV_w, mV_a, mV_v, mA_mA, mV_mV, mF_mF, nI_add, nI_cl, vpi, i01, i02, i10, i11, ↓reduceIte, not_true_eq_false, not_false_eq_true, and_true, true_and, ne_eq, Nat.reduceAdd, Nat.reduceMul, Nat.reduceSub, Nat.reduceEqDiff, reduceCtorEq, Nat.add_zero, Nat.zero_add, n0p, ite_true, ite_false, if_true, if_false]
    exact h1 a
  · simp (disch := omega) only [xrI_mk, xrV_mk, xrL_mk, xrR_mk, mg_0, mg_1, mp_2, mg_2, mg_3, mg_4, mp_5, mg_5, mp_6, mg_6, mp_7, mg_7, mp_8, mg_8, mp_9, mg_9, mp_10, mg_10, mp_11, mg_11, mp_12, mg_12, mp_13, mg_13, mp_14, mg_14, mp_15, mg_15, mp_16, mg_16, mg_17, mp_18, mg_18, mp_19, mg_19, mp_20, mg_20, mp_21, mg_21, mg_22, mg_23, mg_24, mg_25, mg_26, mg_27, mg_28, mg_29, mg_30, mg_31, mg_32, mg_33, mg_34, mp_35, mg_35, mp_36, mg_36, mg_37, mg_38, mg_39, ma_1, ms_1, ma_2, ms_2, ma_3, ms_3, ma_4, ms_4, ma_5, ms_5, ma_6, ms_6, ma_9, ms_9, ma_10, ms_10, ma_11, ms_11, ma_12, ms_12, ma_13, ms_13, ma_14, ms_14, ma_15, ms_15, ma_16, ms_16, ma_17, ms_17, ma_18, ms_18, ma_19, ms_19, ma_20, ms_20, ma_21, ms_21, mo_q', ma_L, ms_L, ma_Z, ms_Z, mF_1, mF_2, mWd_1, mWd_w, mWd_2, mA_1, mA_w, mA_a, mA_v, mV_1, mV_w, mV_a, mV_v, mA_mA, mV_mV, mF_mF, nI_add, nI_cl, vpi, i01, i02, i10, i11, ↓reduceIte, not_true_eq_false, not_false_eq_true, and_true, true_and, ne_eq, Nat.reduceAdd, Nat.reduceMul, Nat.reduceSub, Nat.reduceEqDiff, reduceCtorEq, Nat.add_zero, Nat.zero_add, n0p, ite_true, ite_false, if_true, if_false]
    exact h0 a
theorem c_M_forget (h : Q (some (.int (σ.2.2.1 1 3))) (mM q M0 (mA σ 1 (upd (upd (σ.2.2.1 1) 3 0) 4 (-1))))) : xEv xP (xprim sa) (d + 1) m_M_forget [.ref q] (mM q M0 σ) Q := by
  refine t_M_forget ?_
  simp (disch := omega) only [xrI_mk, xrV_mk, xrL_mk, xrR_mk, mg_0, mg_1, mp_2, mg_2, mg_3, mg_4, mp_5, mg_5, mp_6, mg_6, mp_7, mg_7, mp_8, mg_8, mp_9, mg_9, mp_10, mg_10, mp_11, mg_11, mp_12, mg_12, mp_13, mg_13, mp_14, mg_14, mp_15, mg_15, mp_16, mg_16, mg_17, mp_18, mg_18, mp_19, mg_19, mp_20, mg_20, mp_21, mg_21, mg_22, mg_23, mg_24, mg_25, mg_26, mg_27, mg_28, mg_29, mg_30, mg_31, mg_32, mg_33, mg_34, mp_35, mg_35, mp_36, mg_36, mg_37, mg_38, mg_39, ma_1, ms_1, ma_2, ms_2, ma_3, ms_3, ma_4, ms_4, ma_5, ms_5, ma_6, ms_6, ma_9, ms_9, ma_10, ms_10, ma_11, ms_11, ma_12, ms_12, ma_13, ms_13, ma_14, ms_14, ma_15, ms_15, ma_16, ms_16, ma_17, ms_17, ma_18, ms_18, ma_19, ms_19, ma_20, ms_20, ma_21, ms_21, mo_q', ma_L, ms_L, ma_Z, ms_Z, mF_1, mF_2, mWd_1, mWd_w, mWd_2, mA_1, mA_w, mA_a, mA_v, mV_1, mV_w, mV_a, mV_v, mA_mA, mV_mV, mF_mF, nI_add, nI_cl, vpi, i01, i02, i10, i11, ↓reduceIte, not_true_eq_false, not_false_eq_true, and_true, true_and, ne_eq, Nat.reduceAdd, Nat.reduceMul, Nat.reduceSub, Nat.reduceEqDiff, reduceCtorEq, Nat.add_zero, Nat.zero_add, n0p, ite_true, ite_false, if_true, if_false]
  exact h
end MC2
