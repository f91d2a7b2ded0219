/-! the reference's side of agrees -/
section OM6
variable {sa : Nat → Nat} {d : Nat} {Q : xQ} {q : Nat} {M0 M : xM} {σ : mS} {R : Nat} {s : fS}
theorem goA_rk (ho : okF R s) {f : Nat → Int32} (hf : rk f) : rk (goA R s f) := goS_rk ho.2.1 ho.2.2.1.2.2.2.1 hf
theorem goA_0 {f : Nat → Int32} : goA R s f 0 = f 0 + 1 := by
  show goS _ _ _ _ _ f 0 = _
  exact goS_0
theorem beg_ok (ho : okF R s) : rk (beginRow (fsB s.1)) := beg_rk (fun i hi => (ho.2.2.1.2.2.1 i hi).2.1)
theorem q_begin (hm : mR R σ s) (h : ∀ σ', mR R σ' s → sm [11] σ σ' → (∀ j, j < 29 → σ'.2.2.1 11 j = beginRow (fsB s.1) j) → Q none (mM q M0 σ')) : xEv xP (xprim sa) (d + 1) m_M_begin [.ref q, .ref (q + 11), .int (nI 0)] (mM q M0 σ) Q := by
  refine c_M_begin rfl (by decide) (by decide) (fun e => absurd e (by decide)) ?_
  have s2 : sm [11] σ (mA σ 11 (lay (σ.2.2.1 11) 0 29 (beginRow (fun i => σ.2.2.1 1 (20 + i))))) := sm_A (by decide)
  refine h _ (mR_kp (kp_sm s2 (by decide)) hm) s2 (fun j hj => ?_)
  show lay (σ.2.2.1 11) 0 29 (beginRow (fun i => σ.2.2.1 1 (20 + i))) j = _
  have e := lay_in (f := σ.2.2.1 11) (r := beginRow (fun i => σ.2.2.1 1 (20 + i))) (x := 0) (n := 29) (j := j) hj
  rw [Nat.zero_add] at e
  rw [e, beg_c (g := fsB s.1) (fun i hi => hm.2.1.1 (20 + i) (by omega) (by omega))]
theorem told_sm {S : List Nat} {σ' : mS} (h : sm S σ σ') (h9 : 9 ∉ S) (h10 : 10 ∉ S) (ht : told9 σ s.1) : told9 σ' s.1 := fun i hi => by
  rw [h.2.2 9 h9, h.2.2 10 h10]; exact ht i hi
theorem op_M_agrees (hm : mR R σ s) (ho : okF R s) {v : Int32} (h : ∀ σ', mR R σ' (oAgrees R v s).2 → Q (some (.int (oAgrees R v s).1)) (mM q M0 σ')) : xEv xP (xprim sa) (d + 7) m_M_agrees [.ref q, .int v] (mM q M0 σ) Q := by
  have h9 := ho.2.1
  unfold oAgrees at h
  refine t_M_agrees (c_M_isIn (fun h1 => ?_) (fun h1 => ?_))
  · rw [ivB_t (show iv v 0 (nI 1) from h1), if_pos rfl] at h
    simp (disch := omega) only [↓i01, ↓i02, ↓xrI_mk, ↓xrV_mk, ↓xrL_mk, ↓xrR_mk, ↓mg_0, ↓mg_1, ↓mp_2, ↓mg_2, ↓mg_3, ↓mg_4, ↓mp_5, ↓mg_5, ↓mp_6, ↓mg_6, ↓mp_7, ↓mg_7, ↓mp_8, ↓mg_8, ↓mp_9, ↓mg_9, ↓mp_10, ↓mg_10, ↓mp_11, ↓mg_11, ↓mp_12, ↓mg_12, ↓mp_13, ↓mg_13, ↓mp_14, ↓mg_14, ↓mp_15, ↓mg_15, ↓mp_16, ↓mg_16, ↓mg_17, ↓mp_18, ↓mg_18, ↓mp_19, ↓mg_19, ↓mp_20, ↓mg_20, ↓mp_21, ↓mg_21, ↓mg_22, ↓mg_23, ↓mg_24, ↓mg_25, ↓mg_26, ↓mg_27, ↓mg_28, ↓mg_29, ↓mg_30, ↓mg_31, ↓mg_32, ↓mg_33, ↓mg_34, ↓mp_35, ↓mg_35, ↓mp_36, ↓mg_36, ↓mg_37, ↓mg_38, ↓mg_39, ↓ma_1, ↓ms_1, ↓ma_2, ↓ms_2, ↓ma_3, ↓ms_3, ↓ma_4, ↓ms_4, ↓ma_5, ↓ms_5, ↓ma_6, ↓ms_6, ↓ma_9, ↓ms_9, ↓ma_10, ↓ms_10, ↓ma_11, ↓ms_11, ↓ma_12, ↓ms_12, ↓ma_13, ↓ms_13, ↓ma_14, ↓ms_14, ↓ma_15, ↓ms_15, ↓ma_16, ↓ms_16, ↓ma_17, ↓ms_17, ↓ma_18, ↓ms_18, ↓ma_19, ↓ms_19, ↓ma_20, ↓ms_20, ↓ma_21, ↓ms_21, ↓mo_q', ↓ma_L, ↓ms_L, ↓ma_Z, ↓ms_Z, mF_1, mF_2, mWd_1, mWd_w, mWd_2, mA_1, mA_w, mA_a, mA_v, mV_1, mV_w, mV_a, mV_v, mA_mA, mV_mV, mF_mF, nI_add, nI_cl, vpi, i01, i02, i10, i11, ↓reduceIte, not_true_eq_false, not_false_eq_true, and_true, true_and, ne_eq, Nat.reduceAdd, Nat.reduceMul, Nat.reduceSub, Nat.reduceEqDiff, reduceCtorEq, Nat.add_zero, Nat.zero_add, n0p, ite_true, ite_false, if_true, if_false, nlT, nlF, nleT, nleF, neT, neF, n0F, n0T, pk_sub, pk_mul, nIm1, nIm2, nlZ, nleZ, upd_s, upd_n, pk_uLs, pk_uLn, nar_0, nar_1, nar_n0, nar_n1]
    refine q_asTold hm (fun τ hmτ ht hk => ?_)
    simp (disch := omega) only [↓i01, ↓i02, ↓xrI_mk, ↓xrV_mk, ↓xrL_mk, ↓xrR_mk, ↓mg_0, ↓mg_1, ↓mp_2, ↓mg_2, ↓mg_3, ↓mg_4, ↓mp_5, ↓mg_5, ↓mp_6, ↓mg_6, ↓mp_7, ↓mg_7, ↓mp_8, ↓mg_8, ↓mp_9, ↓mg_9, ↓mp_10, ↓mg_10, ↓mp_11, ↓mg_11, ↓mp_12, ↓mg_12, ↓mp_13, ↓mg_13, ↓mp_14, ↓mg_14, ↓mp_15, ↓mg_15, ↓mp_16, ↓mg_16, ↓mg_17, ↓mp_18, ↓mg_18, ↓mp_19, ↓mg_19, ↓mp_20, ↓mg_20, ↓mp_21, ↓mg_21, ↓mg_22, ↓mg_23, ↓mg_24, ↓mg_25, ↓mg_26, ↓mg_27, ↓mg_28, ↓mg_29, ↓mg_30, ↓mg_31, ↓mg_32, ↓mg_33, ↓mg_34, ↓mp_35, ↓mg_35, ↓mp_36, ↓mg_36, ↓mg_37, ↓mg_38, ↓mg_39, ↓ma_1, ↓ms_1, ↓ma_2, ↓ms_2, ↓ma_3, ↓ms_3, ↓ma_4, ↓ms_4, ↓ma_5, ↓ms_5, ↓ma_6, ↓ms_6, ↓ma_9, ↓ms_9, ↓ma_10, ↓ms_10, ↓ma_11, ↓ms_11, ↓ma_12, ↓ms_12, ↓ma_13, ↓ms_13, ↓ma_14, ↓ms_14, ↓ma_15, ↓ms_15, ↓ma_16, ↓ms_16, ↓ma_17, ↓ms_17, ↓ma_18, ↓ms_18, ↓ma_19, ↓ms_19, ↓ma_20, ↓ms_20, ↓ma_21, ↓ms_21, ↓mo_q', ↓ma_L, ↓ms_L, ↓ma_Z, ↓ms_Z, mF_1, mF_2, mWd_1, mWd_w, mWd_2, mA_1, mA_w, mA_a, mA_v, mV_1, mV_w, mV_a, mV_v, mA_mA, mV_mV, mF_mF, nI_add, nI_cl, vpi, i01, i02, i10, i11, ↓reduceIte, not_true_eq_false, not_false_eq_true, and_true, true_and, ne_eq, Nat.reduceAdd, Nat.reduceMul, Nat.reduceSub, Nat.reduceEqDiff, reduceCtorEq, Nat.add_zero, Nat.zero_add, n0p, ite_true, ite_false, if_true, if_false, nlT, nlF, nleT, nleF, neT, neF, n0F, n0T, pk_sub, pk_mul, nIm1, nIm2, nlZ, nleZ, upd_s, upd_n, pk_uLs, pk_uLn, nar_0, nar_1, nar_n0, nar_n1]
    refine q_begin hmτ (fun τ2 hm2 s2 r2 => ?_)
    rw [xrV_mk]
    have loop : ∀ (m i : Nat), m + i = 41 → ∀ (τ : mS) (f : Nat → Int32) (since till : Int32) (notes : Nat), mR R τ s → told9 τ s.1 → (0 < m → ∀ j, j < 29 → τ.2.2.1 11 j = f j) → rk f → f 0 = nI i → notes ≤ 18 * i → agP R s = agS R s m i f since till notes → K_M_agrees sa (d + 6) Q 3 [some (.ref q), some (.int v), some (.int since), some (.int (nI notes)), some (.int till), some (.int (nI i))] [] (mM q M0 τ) (0, 0) := by
      intro m
      induction m with
      | zero =>
        intro i hi τ f since till notes hm' ht' hrow hf hf0 hno he
        refine t_M_agrees_3 ?_
        simp (disch := omega) only [↓i01, ↓i02, ↓xrI_mk, ↓xrV_mk, ↓xrL_mk, ↓xrR_mk, ↓mg_0, ↓mg_1, ↓mp_2, ↓mg_2, ↓mg_3, ↓mg_4, ↓mp_5, ↓mg_5, ↓mp_6, ↓mg_6, ↓mp_7, ↓mg_7, ↓mp_8, ↓mg_8, ↓mp_9, ↓mg_9, ↓mp_10, ↓mg_10, ↓mp_11, ↓mg_11, ↓mp_12, ↓mg_12, ↓mp_13, ↓mg_13, ↓mp_14, ↓mg_14, ↓mp_15, ↓mg_15, ↓mp_16, ↓mg_16, ↓mg_17, ↓mp_18, ↓mg_18, ↓mp_19, ↓mg_19, ↓mp_20, ↓mg_20, ↓mp_21, ↓mg_21, ↓mg_22, ↓mg_23, ↓mg_24, ↓mg_25, ↓mg_26, ↓mg_27, ↓mg_28, ↓mg_29, ↓mg_30, ↓mg_31, ↓mg_32, ↓mg_33, ↓mg_34, ↓mp_35, ↓mg_35, ↓mp_36, ↓mg_36, ↓mg_37, ↓mg_38, ↓mg_39, ↓ma_1, ↓ms_1, ↓ma_2, ↓ms_2, ↓ma_3, ↓ms_3, ↓ma_4, ↓ms_4, ↓ma_5, ↓ms_5, ↓ma_6, ↓ms_6, ↓ma_9, ↓ms_9, ↓ma_10, ↓ms_10, ↓ma_11, ↓ms_11, ↓ma_12, ↓ms_12, ↓ma_13, ↓ms_13, ↓ma_14, ↓ms_14, ↓ma_15, ↓ms_15, ↓ma_16, ↓ms_16, ↓ma_17, ↓ms_17, ↓ma_18, ↓ms_18, ↓ma_19, ↓ms_19, ↓ma_20, ↓ms_20, ↓ma_21, ↓ms_21, ↓mo_q', ↓ma_L, ↓ms_L, ↓ma_Z, ↓ms_Z, mF_1, mF_2, mWd_1, mWd_w, mWd_2, mA_1, mA_w, mA_a, mA_v, mV_1, mV_w, mV_a, mV_v, mA_mA, mV_mV, mF_mF, nI_add, nI_cl, vpi, i01, i02, i10, i11, ↓reduceIte, not_true_eq_false, not_false_eq_true, and_true, true_and, ne_eq, Nat.reduceAdd, Nat.reduceMul, Nat.reduceSub, Nat.reduceEqDiff, reduceCtorEq, Nat.add_zero, Nat.zero_add, n0p, ite_true, ite_false, if_true, if_false, nlT, nlF, nleT, nleF, neT, neF, n0F, n0T, pk_sub, pk_mul, nIm1, nIm2, nlZ, nleZ, upd_s, upd_n, pk_uLs, pk_uLn, nar_0, nar_1, nar_n0, nar_n1]
        have := h τ hm'
        rw [he] at this
        unfold agS at this
        dsimp only at this
        by_cases e1 : 0 ≤ since
        · rw [if_pos e1] at this ⊢
          by_cases e2 : v = 0
          · rw [if_pos e2] at this
            rw [if_neg (not_not_intro e2)]
            exact this
          · rw [if_neg e2] at this
            rw [if_pos e2]
            exact this
        · rw [if_neg e1] at this ⊢
          exact this
      | succ m ih =>
        intro i hi τ f since till notes hm' ht' hrow hf hf0 hno he
        have hrow := hrow (by omega)
        have hb : rb f := rb_of hf (by rw [hf0, nI_i (by omega)]; omega)
        refine t_M_agrees_3 ?_
        simp (disch := omega) only [↓i01, ↓i02, ↓xrI_mk, ↓xrV_mk, ↓xrL_mk, ↓xrR_mk, ↓mg_0, ↓mg_1, ↓mp_2, ↓mg_2, ↓mg_3, ↓mg_4, ↓mp_5, ↓mg_5, ↓mp_6, ↓mg_6, ↓mp_7, ↓mg_7, ↓mp_8, ↓mg_8, ↓mp_9, ↓mg_9, ↓mp_10, ↓mg_10, ↓mp_11, ↓mg_11, ↓mp_12, ↓mg_12, ↓mp_13, ↓mg_13, ↓mp_14, ↓mg_14, ↓mp_15, ↓mg_15, ↓mp_16, ↓mg_16, ↓mg_17, ↓mp_18, ↓mg_18, ↓mp_19, ↓mg_19, ↓mp_20, ↓mg_20, ↓mp_21, ↓mg_21, ↓mg_22, ↓mg_23, ↓mg_24, ↓mg_25, ↓mg_26, ↓mg_27, ↓mg_28, ↓mg_29, ↓mg_30, ↓mg_31, ↓mg_32, ↓mg_33, ↓mg_34, ↓mp_35, ↓mg_35, ↓mp_36, ↓mg_36, ↓mg_37, ↓mg_38, ↓mg_39, ↓ma_1, ↓ms_1, ↓ma_2, ↓ms_2, ↓ma_3, ↓ms_3, ↓ma_4, ↓ms_4, ↓ma_5, ↓ms_5, ↓ma_6, ↓ms_6, ↓ma_9, ↓ms_9, ↓ma_10, ↓ms_10, ↓ma_11, ↓ms_11, ↓ma_12, ↓ms_12, ↓ma_13, ↓ms_13, ↓ma_14, ↓ms_14, ↓ma_15, ↓ms_15, ↓ma_16, ↓ms_16, ↓ma_17, ↓ms_17, ↓ma_18, ↓ms_18, ↓ma_19, ↓ms_19, ↓ma_20, ↓ms_20, ↓ma_21, ↓ms_21, ↓mo_q', ↓ma_L, ↓ms_L, ↓ma_Z, ↓ms_Z, mF_1, mF_2, mWd_1, mWd_w, mWd_2, mA_1, mA_w, mA_a, mA_v, mV_1, mV_w, mV_a, mV_v, mA_mA, mV_mV, mF_mF, nI_add, nI_cl, vpi, i01, i02, i10, i11, ↓reduceIte, not_true_eq_false, not_false_eq_true, and_true, true_and, ne_eq, Nat.reduceAdd, Nat.reduceMul, Nat.reduceSub, Nat.reduceEqDiff, reduceCtorEq, Nat.add_zero, Nat.zero_add, n0p, ite_true, ite_false, if_true, if_false, nlT, nlF, nleT, nleF, neT, neF, n0F, n0T, pk_sub, pk_mul, nIm1, nIm2, nlZ, nleZ, upd_s, upd_n, pk_uLs, pk_uLn, nar_0, nar_1, nar_n0, nar_n1]
        refine c_M_notesIn (f := f) hm'.1 ho.2.1 rfl (by decide) (by decide) (fun j hj => by rw [Nat.zero_add]; exact hrow j hj) ?_
        simp (disch := omega) only [↓i01, ↓i02, ↓xrI_mk, ↓xrV_mk, ↓xrL_mk, ↓xrR_mk, ↓mg_0, ↓mg_1, ↓mp_2, ↓mg_2, ↓mg_3, ↓mg_4, ↓mp_5, ↓mg_5, ↓mp_6, ↓mg_6, ↓mp_7, ↓mg_7, ↓mp_8, ↓mg_8, ↓mp_9, ↓mg_9, ↓mp_10, ↓mg_10, ↓mp_11, ↓mg_11, ↓mp_12, ↓mg_12, ↓mp_13, ↓mg_13, ↓mp_14, ↓mg_14, ↓mp_15, ↓mg_15, ↓mp_16, ↓mg_16, ↓mg_17, ↓mp_18, ↓mg_18, ↓mp_19, ↓mg_19, ↓mp_20, ↓mg_20, ↓mp_21, ↓mg_21, ↓mg_22, ↓mg_23, ↓mg_24, ↓mg_25, ↓mg_26, ↓mg_27, ↓mg_28, ↓mg_29, ↓mg_30, ↓mg_31, ↓mg_32, ↓mg_33, ↓mg_34, ↓mp_35, ↓mg_35, ↓mp_36, ↓mg_36, ↓mg_37, ↓mg_38, ↓mg_39, ↓ma_1, ↓ms_1, ↓ma_2, ↓ms_2, ↓ma_3, ↓ms_3, ↓ma_4, ↓ms_4, ↓ma_5, ↓ms_5, ↓ma_6, ↓ms_6, ↓ma_9, ↓ms_9, ↓ma_10, ↓ms_10, ↓ma_11, ↓ms_11, ↓ma_12, ↓ms_12, ↓ma_13, ↓ms_13, ↓ma_14, ↓ms_14, ↓ma_15, ↓ms_15, ↓ma_16, ↓ms_16, ↓ma_17, ↓ms_17, ↓ma_18, ↓ms_18, ↓ma_19, ↓ms_19, ↓ma_20, ↓ms_20, ↓ma_21, ↓ms_21, ↓mo_q', ↓ma_L, ↓ms_L, ↓ma_Z, ↓ms_Z, mF_1, mF_2, mWd_1, mWd_w, mWd_2, mA_1, mA_w, mA_a, mA_v, mV_1, mV_w, mV_a, mV_v, mA_mA, mV_mV, mF_mF, nI_add, nI_cl, vpi, i01, i02, i10, i11, ↓reduceIte, not_true_eq_false, not_false_eq_true, and_true, true_and, ne_eq, Nat.reduceAdd, Nat.reduceMul, Nat.reduceSub, Nat.reduceEqDiff, reduceCtorEq, Nat.add_zero, Nat.zero_add, n0p, ite_true, ite_false, if_true, if_false, nlT, nlF, nleT, nleF, neT, neF, n0F, n0T, pk_sub, pk_mul, nIm1, nIm2, nlZ, nleZ, upd_s, upd_n, pk_uLs, pk_uLn, nar_0, nar_1, nar_n0, nar_n1]
        refine q_areOne hm' ho ht' hrow hb (fun τ3 hm3 ht3 s3 => ?_)
        have hle := ntS_le f R
        -- what comes behind
        have tail : ∀ (since' till' : Int32), agP R s = agS R s m (i + 1) (goA R s f) since' till' (notes + ntS f R) → K_M_agrees sa (d + 6) Q 8 [some (.ref q), some (.int v), some (.int since'), some (.int (nI (notes + ntS f R))), some (.int till'), some (.int (nI i))] [] (mM q M0 τ3) (0, 0) := by
          intro since' till' he'
          refine t_M_agrees_8 ?_
          have h0 : goA R s f 0 = nI (i + 1) := by rw [goA_0, hf0]; exact nI_1 i
          by_cases e40 : i = 40
          · simp (disch := omega) only [↓i01, ↓i02, ↓xrI_mk, ↓xrV_mk, ↓xrL_mk, ↓xrR_mk, ↓mg_0, ↓mg_1, ↓mp_2, ↓mg_2, ↓mg_3, ↓mg_4, ↓mp_5, ↓mg_5, ↓mp_6, ↓mg_6, ↓mp_7, ↓mg_7, ↓mp_8, ↓mg_8, ↓mp_9, ↓mg_9, ↓mp_10, ↓mg_10, ↓mp_11, ↓mg_11, ↓mp_12, ↓mg_12, ↓mp_13, ↓mg_13, ↓mp_14, ↓mg_14, ↓mp_15, ↓mg_15, ↓mp_16, ↓mg_16, ↓mg_17, ↓mp_18, ↓mg_18, ↓mp_19, ↓mg_19, ↓mp_20, ↓mg_20, ↓mp_21, ↓mg_21, ↓mg_22, ↓mg_23, ↓mg_24, ↓mg_25, ↓mg_26, ↓mg_27, ↓mg_28, ↓mg_29, ↓mg_30, ↓mg_31, ↓mg_32, ↓mg_33, ↓mg_34, ↓mp_35, ↓mg_35, ↓mp_36, ↓mg_36, ↓mg_37, ↓mg_38, ↓mg_39, ↓ma_1, ↓ms_1, ↓ma_2, ↓ms_2, ↓ma_3, ↓ms_3, ↓ma_4, ↓ms_4, ↓ma_5, ↓ms_5, ↓ma_6, ↓ms_6, ↓ma_9, ↓ms_9, ↓ma_10, ↓ms_10, ↓ma_11, ↓ms_11, ↓ma_12, ↓ms_12, ↓ma_13, ↓ms_13, ↓ma_14, ↓ms_14, ↓ma_15, ↓ms_15, ↓ma_16, ↓ms_16, ↓ma_17, ↓ms_17, ↓ma_18, ↓ms_18, ↓ma_19, ↓ms_19, ↓ma_20, ↓ms_20, ↓ma_21, ↓ms_21, ↓mo_q', ↓ma_L, ↓ms_L, ↓ma_Z, ↓ms_Z, mF_1, mF_2, mWd_1, mWd_w, mWd_2, mA_1, mA_w, mA_a, mA_v, mV_1, mV_w, mV_a, mV_v, mA_mA, mV_mV, mF_mF, nI_add, nI_cl, vpi, i01, i02, i10, i11, ↓reduceIte, not_true_eq_false, not_false_eq_true, and_true, true_and, ne_eq, Nat.reduceAdd, Nat.reduceMul, Nat.reduceSub, Nat.reduceEqDiff, reduceCtorEq, Nat.add_zero, Nat.zero_add, n0p, ite_true, ite_false, if_true, if_false, nlT, nlF, nleT, nleF, neT, neF, n0F, n0T, pk_sub, pk_mul, nIm1, nIm2, nlZ, nleZ, upd_s, upd_n, pk_uLs, pk_uLn, nar_0, nar_1, nar_n0, nar_n1]
            exact ih (i + 1) (by omega) τ3 (goA R s f) since' till' _ hm3 ht3 (fun hm0 => by omega) (goA_rk ho hf) h0 (by omega) he'
          · simp (disch := omega) only [↓i01, ↓i02, ↓xrI_mk, ↓xrV_mk, ↓xrL_mk, ↓xrR_mk, ↓mg_0, ↓mg_1, ↓mp_2, ↓mg_2, ↓mg_3, ↓mg_4, ↓mp_5, ↓mg_5, ↓mp_6, ↓mg_6, ↓mp_7, ↓mg_7, ↓mp_8, ↓mg_8, ↓mp_9, ↓mg_9, ↓mp_10, ↓mg_10, ↓mp_11, ↓mg_11, ↓mp_12, ↓mg_12, ↓mp_13, ↓mg_13, ↓mp_14, ↓mg_14, ↓mp_15, ↓mg_15, ↓mp_16, ↓mg_16, ↓mg_17, ↓mp_18, ↓mg_18, ↓mp_19, ↓mg_19, ↓mp_20, ↓mg_20, ↓mp_21, ↓mg_21, ↓mg_22, ↓mg_23, ↓mg_24, ↓mg_25, ↓mg_26, ↓mg_27, ↓mg_28, ↓mg_29, ↓mg_30, ↓mg_31, ↓mg_32, ↓mg_33, ↓mg_34, ↓mp_35, ↓mg_35, ↓mp_36, ↓mg_36, ↓mg_37, ↓mg_38, ↓mg_39, ↓ma_1, ↓ms_1, ↓ma_2, ↓ms_2, ↓ma_3, ↓ms_3, ↓ma_4, ↓ms_4, ↓ma_5, ↓ms_5, ↓ma_6, ↓ms_6, ↓ma_9, ↓ms_9, ↓ma_10, ↓ms_10, ↓ma_11, ↓ms_11, ↓ma_12, ↓ms_12, ↓ma_13, ↓ms_13, ↓ma_14, ↓ms_14, ↓ma_15, ↓ms_15, ↓ma_16, ↓ms_16, ↓ma_17, ↓ms_17, ↓ma_18, ↓ms_18, ↓ma_19, ↓ms_19, ↓ma_20, ↓ms_20, ↓ma_21, ↓ms_21, ↓mo_q', ↓ma_L, ↓ms_L, ↓ma_Z, ↓ms_Z, mF_1, mF_2, mWd_1, mWd_w, mWd_2, mA_1, mA_w, mA_a, mA_v, mV_1, mV_w, mV_a, mV_v, mA_mA, mV_mV, mF_mF, nI_add, nI_cl, vpi, i01, i02, i10, i11, ↓reduceIte, not_true_eq_false, not_false_eq_true, and_true, true_and, ne_eq, Nat.reduceAdd, Nat.reduceMul, Nat.reduceSub, Nat.reduceEqDiff, reduceCtorEq, Nat.add_zero, Nat.zero_add, n0p, ite_true, ite_false, if_true, if_false, nlT, nlF, nleT, nleF, neT, neF, n0F, n0T, pk_sub, pk_mul, nIm1, nIm2, nlZ, nleZ, upd_s, upd_n, pk_uLs, pk_uLn, nar_0, nar_1, nar_n0, nar_n1]
            refine q_goOn hm3 ho ht3 (fun j hj => by rw [s3.2.2 11 (by decide)]; exact hrow j hj) hb (fun τ4 hm4 ht4 s4 r4 => ?_)
            rw [xrV_mk]
            exact ih (i + 1) (by omega) τ4 (goA R s f) since' till' _ hm4 ht4 (fun _ => r4) (goA_rk ho hf) h0 (by omega) he'
        unfold agS at he
        rw [xrI_mk]
        by_cases e1 : oneA R s f = true
        · rw [if_pos e1] at he
          rw [if_pos e1, if_pos (by decide)]
          by_cases e2 : since < 0
          · rw [if_pos e2] at he
            rw [if_neg (Int32.not_le.mpr e2)]
            exact tail _ _ he
          · rw [if_neg e2] at he
            rw [if_pos (Int32.not_lt.mp e2)]
            exact tail _ _ he
        · rw [if_neg e1] at he
          rw [if_neg e1, if_neg (by decide)]
          exact tail _ _ he
    exact loop 41 0 rfl τ2 (beginRow (fsB s.1)) (-1) (nI 0) 0 hm2 (told_sm s2 (by decide) (by decide) ht) (fun _ => r2) (beg_ok ho) rfl (by omega) rfl
  · rw [ivB_f (show ¬ iv v 0 (nI 1) from h1), if_neg (by decide)] at h
    simp (disch := omega) only [↓i01, ↓i02, ↓xrI_mk, ↓xrV_mk, ↓xrL_mk, ↓xrR_mk, ↓mg_0, ↓mg_1, ↓mp_2, ↓mg_2, ↓mg_3, ↓mg_4, ↓mp_5, ↓mg_5, ↓mp_6, ↓mg_6, ↓mp_7, ↓mg_7, ↓mp_8, ↓mg_8, ↓mp_9, ↓mg_9, ↓mp_10, ↓mg_10, ↓mp_11, ↓mg_11, ↓mp_12, ↓mg_12, ↓mp_13, ↓mg_13, ↓mp_14, ↓mg_14, ↓mp_15, ↓mg_15, ↓mp_16, ↓mg_16, ↓mg_17, ↓mp_18, ↓mg_18, ↓mp_19, ↓mg_19, ↓mp_20, ↓mg_20, ↓mp_21, ↓mg_21, ↓mg_22, ↓mg_23, ↓mg_24, ↓mg_25, ↓mg_26, ↓mg_27, ↓mg_28, ↓mg_29, ↓mg_30, ↓mg_31, ↓mg_32, ↓mg_33, ↓mg_34, ↓mp_35, ↓mg_35, ↓mp_36, ↓mg_36, ↓mg_37, ↓mg_38, ↓mg_39, ↓ma_1, ↓ms_1, ↓ma_2, ↓ms_2, ↓ma_3, ↓ms_3, ↓ma_4, ↓ms_4, ↓ma_5, ↓ms_5, ↓ma_6, ↓ms_6, ↓ma_9, ↓ms_9, ↓ma_10, ↓ms_10, ↓ma_11, ↓ms_11, ↓ma_12, ↓ms_12, ↓ma_13, ↓ms_13, ↓ma_14, ↓ms_14, ↓ma_15, ↓ms_15, ↓ma_16, ↓ms_16, ↓ma_17, ↓ms_17, ↓ma_18, ↓ms_18, ↓ma_19, ↓ms_19, ↓ma_20, ↓ms_20, ↓ma_21, ↓ms_21, ↓mo_q', ↓ma_L, ↓ms_L, ↓ma_Z, ↓ms_Z, mF_1, mF_2, mWd_1, mWd_w, mWd_2, mA_1, mA_w, mA_a, mA_v, mV_1, mV_w, mV_a, mV_v, mA_mA, mV_mV, mF_mF, nI_add, nI_cl, vpi, i01, i02, i10, i11, ↓reduceIte, not_true_eq_false, not_false_eq_true, and_true, true_and, ne_eq, Nat.reduceAdd, Nat.reduceMul, Nat.reduceSub, Nat.reduceEqDiff, reduceCtorEq, Nat.add_zero, Nat.zero_add, n0p, ite_true, ite_false, if_true, if_false, nlT, nlF, nleT, nleF, neT, neF, n0F, n0T, pk_sub, pk_mul, nIm1, nIm2, nlZ, nleZ, upd_s, upd_n, pk_uLs, pk_uLn, nar_0, nar_1, nar_n0, nar_n1]
    exact h σ hm
end OM6
