/-! the reference: an hour, what is said -/
theorem tr_0 {g e : Nat → Int32} : tr 0 g e = e := by funext i; exact if_neg (by omega)
theorem trB_0 {g : Nat → Bool} : trB 0 g = fun _ => false := by funext i; exact if_neg (by omega)
theorem putS_m (A : Nat → Int32) : putS A (-1) = -1 := if_pos (by decide)
theorem cntP_0 (A : Nat → Int32) : ∀ n, cntP A (fun _ => false) n = 0
  | 0 => rfl
  | n + 1 => by
    unfold cntP
    rw [cntP_0 A n]
    simp
theorem ivm1 : iv (-1) (-1) (nI 99) := ⟨by decide, by decide⟩
/-- what the elder of room i says -/
def sayS (R : Nat) (l : List (Nat × Term)) (fs f : Nat → Int32) (i : Nat) : Int32 := sumS (envS f i (fs i) R) l 3 0 (nI 9) (if nI 9 < f (2 + i) then nI 9 else f (2 + i))
section MC8
variable {sa : Nat → Nat} {d : Nat} {Q : xQ} {q : Nat} {M0 M : xM} {σ : mS} {R : Nat} {l : List (Nat × Term)} {env : Nat → Int}
/-- the row with which an hour begins -/
def row0 (R : Nat) (A f : Nat → Int32) : Nat → Int32 := crS R A (fun i => f (2 + i)) (fun _ => -1) (fun _ => -1) (fun _ => false) (f 0 + 1)
theorem row0_0 {A f : Nat → Int32} : row0 R A f 0 = f 0 + 1 := cr_0
theorem row0_1 {A f : Nat → Int32} : row0 R A f 1 = nI 0 := by unfold row0; rw [cr_1, cntP_0]
theorem row0_k {A f : Nat → Int32} {i : Nat} (h : i < 9) : row0 R A f (2 + i) = f (2 + i) := cr_k h
theorem row0_l {A f : Nat → Int32} {i : Nat} (h : i < 9) : row0 R A f (11 + i) = -1 := by unfold row0; rw [cr_l h, putS_m]; split <;> rfl
theorem row0_r {A f : Nat → Int32} {i : Nat} (h : i < 9) : row0 R A f (20 + i) = -1 := by unfold row0; rw [cr_r h, putS_m]; split <;> rfl
theorem c_M_go (hR : σ.1 2 = nI R) (hR3 : 3 ≤ R) (hR9 : R ≤ 9) {kr x ke y : Nat} (hkr : mI kr = true) (hk6 : kr ≠ 6) (hx : x + 29 ≤ mLen kr) (hx2 : mLen kr < 2 ^ 31) (hke : ke = 11 ∨ ke = 19) (hy : y + 29 ≤ mLen ke) (hsep : kr ≠ ke ∨ x + 29 ≤ y) {A kd fs f : Nat → Int32} (hA : σ.2.2.1 1 = A) (hkd : ∀ i, i < 9 → σ.2.2.1 10 i = kd i) (hfs : ∀ i, i < 9 → σ.2.2.1 9 i = fs i) (hrow : ∀ j, j < 29 → σ.2.2.1 kr (x + j) = f j) (hb : rb f) (hr : rul σ l) (hf9 : ∀ i, i < 9 → 0 ≤ (fs i).toInt ∧ (fs i).toInt ≤ 9) (hlie : ∀ i, i < 9 → iv (A (40 + 3 * i)) (-1) (nI 99) ∧ iv (A (41 + 3 * i)) (-1) (nI 99))
    (h : ∀ σ', sm [6, 8, ke] σ σ' → σ'.2.2.1 ke = lay (σ.2.2.1 ke) y 29 (goS R l A kd fs f) → Q none (mM q M0 σ')) : xEv xP (xprim sa) (d + 5) m_M_go [.ref q, .ref (q + kr), .int (nI x), .ref (q + ke), .int (nI y)] (mM q M0 σ) Q := by
  have hki : mI ke = true := by rcases hke with rfl | rfl <;> rfl
  have hy2 : mLen ke < 2 ^ 31 := by rcases hke with rfl | rfl <;> decide
  have m1 : 1 ∉ [6, 8, ke] := by rcases hke with rfl | rfl <;> decide
  have m3 : 3 ∉ [6, 8, ke] := by rcases hke with rfl | rfl <;> decide
  have m9 : 9 ∉ [6, 8, ke] := by rcases hke with rfl | rfl <;> decide
  have m10 : 10 ∉ [6, 8, ke] := by rcases hke with rfl | rfl <;> decide
  have k6 : ke ≠ 6 := by rcases hke with rfl | rfl <;> decide
  have k8 : ke ≠ 8 := by rcases hke with rfl | rfl <;> decide
  have k1 : ke ≠ 1 := by rcases hke with rfl | rfl <;> decide
  have k3 : ke ≠ 3 := by rcases hke with rfl | rfl <;> decide
  have kin : ke ∈ [6, 8, ke] := by simp
  have k8n : ke ∉ [8] := by rcases hke with rfl | rfl <;> decide
  have hkr8 : kr ≠ 8 := by intro e; subst e; exact absurd hkr (by decide)
  -- the second loop
  have second : ∀ (m n : Nat), m + n = R → ∀ τ : mS, sm [6, 8, ke] σ τ → τ.2.2.1 ke = lay (σ.2.2.1 ke) y 29 (crS R A (tr n (kpS R l kd fs f) (fun i => f (2 + i))) (tr n (lfS R l A kd fs f) (fun _ => -1)) (tr n (rtS R l A kd fs f) (fun _ => -1)) (trB n (plS R l A kd fs f)) (f 0 + 1)) → K_M_go sa (d + 4) Q 4 [some (.ref q), some (.ref (q + kr)), some (.int (nI x)), some (.ref (q + ke)), some (.int (nI y)), some (.int (nI n)), none] [] (mM q M0 τ) (0, 0) := by
    intro m
    induction m with
    | zero =>
      intro n hn τ hτ hrw
      refine t_M_go_4 ?_
      have hR' : τ.1 2 = nI R := by rw [hτ.1]; exact hR
      simp (disch := omega) only [↓i01, ↓i02, ↓xrI_mk, ↓xrV_mk, ↓xrL_mk, ↓xrR_mk, ↓mg_0, ↓mg_1, ↓mp_2, ↓mg_2, ↓mg_3, ↓mg_4, ↓mp_5, ↓mg_5, ↓mp_6, ↓mg_6, ↓mp_7, ↓mg_7, ↓mp_8, ↓mg_8, ↓mp_9, ↓mg_9, ↓mp_10, ↓mg_10, ↓mp_11, ↓mg_11, ↓mp_12, ↓mg_12, ↓mp_13, ↓mg_13, ↓mp_14, ↓mg_14, ↓mp_15, ↓mg_15, ↓mp_16, ↓mg_16, ↓mg_17, ↓mp_18, ↓mg_18, ↓mp_19, ↓mg_19, ↓mp_20, ↓mg_20, ↓mp_21, ↓mg_21, ↓mg_22, ↓mg_23, ↓mg_24, ↓mg_25, ↓mg_26, ↓mg_27, ↓mg_28, ↓mg_29, ↓mg_30, ↓mg_31, ↓mg_32, ↓mg_33, ↓mg_34, ↓mp_35, ↓mg_35, ↓mp_36, ↓mg_36, ↓mg_37, ↓mg_38, ↓mg_39, ↓ma_1, ↓ms_1, ↓ma_2, ↓ms_2, ↓ma_3, ↓ms_3, ↓ma_4, ↓ms_4, ↓ma_5, ↓ms_5, ↓ma_6, ↓ms_6, ↓ma_9, ↓ms_9, ↓ma_10, ↓ms_10, ↓ma_11, ↓ms_11, ↓ma_12, ↓ms_12, ↓ma_13, ↓ms_13, ↓ma_14, ↓ms_14, ↓ma_15, ↓ms_15, ↓ma_16, ↓ms_16, ↓ma_17, ↓ms_17, ↓ma_18, ↓ms_18, ↓ma_19, ↓ms_19, ↓ma_20, ↓ms_20, ↓ma_21, ↓ms_21, ↓mo_q', ↓ma_L, ↓ms_L, ↓ma_Z, ↓ms_Z, mF_1, mF_2, mWd_1, mWd_w, mWd_2, mA_1, mA_w, mA_a, mA_v, mV_1, mV_w, mV_a, mV_v, mA_mA, mV_mV, mF_mF, nI_add, nI_cl, vpi, i01, i02, i10, i11, ↓reduceIte, not_true_eq_false, not_false_eq_true, and_true, true_and, ne_eq, Nat.reduceAdd, Nat.reduceMul, Nat.reduceSub, Nat.reduceEqDiff, reduceCtorEq, Nat.add_zero, Nat.zero_add, n0p, ite_true, ite_false, if_true, if_false, nlT, nlF, nleT, nleF, neT, neF, n0F, n0T, pk_sub, pk_mul, nIm1, nIm2, nlZ, nleZ, upd_s, upd_n, pk_uLs, pk_uLn, nar_0, nar_1, nar_n0, nar_n1, hR']
      refine h τ hτ ?_
      rw [hrw]
      unfold goS
      rw [show n = R by omega]
      congr 1
      refine cr_c (fun i hi => ?_) (fun i hi => if_pos hi) (fun i hi => if_pos hi) (fun i hi => if_pos hi)
      unfold tr
      by_cases hiR : i < R
      · rw [if_pos hiR]
      · rw [if_neg hiR]
        unfold kpS
        rw [if_neg (fun a => hiR a.1)]
    | succ m ih =>
      intro n hn τ hτ hrw
      refine t_M_go_4 ?_
      have hR' : τ.1 2 = nI R := by rw [hτ.1]; exact hR
      have hA' : τ.2.2.1 1 = A := by rw [hτ.2.2 1 m1]; exact hA
      have hkd' : τ.2.2.1 10 n = kd n := by rw [hτ.2.2 10 m10]; exact hkd n (by omega)
      have hfs' : τ.2.2.1 9 n = fs n := by rw [hτ.2.2 9 m9]; exact hfs n (by omega)
      have hr' : rul τ l := rul_sm hτ m1 m3 hr
      simp (disch := omega) only [↓i01, ↓i02, ↓xrI_mk, ↓xrV_mk, ↓xrL_mk, ↓xrR_mk, ↓mg_0, ↓mg_1, ↓mp_2, ↓mg_2, ↓mg_3, ↓mg_4, ↓mp_5, ↓mg_5, ↓mp_6, ↓mg_6, ↓mp_7, ↓mg_7, ↓mp_8, ↓mg_8, ↓mp_9, ↓mg_9, ↓mp_10, ↓mg_10, ↓mp_11, ↓mg_11, ↓mp_12, ↓mg_12, ↓mp_13, ↓mg_13, ↓mp_14, ↓mg_14, ↓mp_15, ↓mg_15, ↓mp_16, ↓mg_16, ↓mg_17, ↓mp_18, ↓mg_18, ↓mp_19, ↓mg_19, ↓mp_20, ↓mg_20, ↓mp_21, ↓mg_21, ↓mg_22, ↓mg_23, ↓mg_24, ↓mg_25, ↓mg_26, ↓mg_27, ↓mg_28, ↓mg_29, ↓mg_30, ↓mg_31, ↓mg_32, ↓mg_33, ↓mg_34, ↓mp_35, ↓mg_35, ↓mp_36, ↓mg_36, ↓mg_37, ↓mg_38, ↓mg_39, ↓ma_1, ↓ms_1, ↓ma_2, ↓ms_2, ↓ma_3, ↓ms_3, ↓ma_4, ↓ms_4, ↓ma_5, ↓ms_5, ↓ma_6, ↓ms_6, ↓ma_9, ↓ms_9, ↓ma_10, ↓ms_10, ↓ma_11, ↓ms_11, ↓ma_12, ↓ms_12, ↓ma_13, ↓ms_13, ↓ma_14, ↓ms_14, ↓ma_15, ↓ms_15, ↓ma_16, ↓ms_16, ↓ma_17, ↓ms_17, ↓ma_18, ↓ms_18, ↓ma_19, ↓ms_19, ↓ma_20, ↓ms_20, ↓ma_21, ↓ms_21, ↓mo_q', ↓ma_L, ↓ms_L, ↓ma_Z, ↓ms_Z, mF_1, mF_2, mWd_1, mWd_w, mWd_2, mA_1, mA_w, mA_a, mA_v, mV_1, mV_w, mV_a, mV_v, mA_mA, mV_mV, mF_mF, nI_add, nI_cl, vpi, i01, i02, i10, i11, ↓reduceIte, not_true_eq_false, not_false_eq_true, and_true, true_and, ne_eq, Nat.reduceAdd, Nat.reduceMul, Nat.reduceSub, Nat.reduceEqDiff, reduceCtorEq, Nat.add_zero, Nat.zero_add, n0p, ite_true, ite_false, if_true, if_false, nlT, nlF, nleT, nleF, neT, neF, n0F, n0T, pk_sub, pk_mul, nIm1, nIm2, nlZ, nleZ, upd_s, upd_n, pk_uLs, pk_uLn, nar_0, nar_1, nar_n0, nar_n1, hR', hkd']
      by_cases e1 : kd n = 1
      · have e1' : kd n = nI 1 := e1
        rw [if_neg (not_not_intro e1')]
        simp (disch := omega) only [↓i01, ↓i02, ↓xrI_mk, ↓xrV_mk, ↓xrL_mk, ↓xrR_mk, ↓mg_0, ↓mg_1, ↓mp_2, ↓mg_2, ↓mg_3, ↓mg_4, ↓mp_5, ↓mg_5, ↓mp_6, ↓mg_6, ↓mp_7, ↓mg_7, ↓mp_8, ↓mg_8, ↓mp_9, ↓mg_9, ↓mp_10, ↓mg_10, ↓mp_11, ↓mg_11, ↓mp_12, ↓mg_12, ↓mp_13, ↓mg_13, ↓mp_14, ↓mg_14, ↓mp_15, ↓mg_15, ↓mp_16, ↓mg_16, ↓mg_17, ↓mp_18, ↓mg_18, ↓mp_19, ↓mg_19, ↓mp_20, ↓mg_20, ↓mp_21, ↓mg_21, ↓mg_22, ↓mg_23, ↓mg_24, ↓mg_25, ↓mg_26, ↓mg_27, ↓mg_28, ↓mg_29, ↓mg_30, ↓mg_31, ↓mg_32, ↓mg_33, ↓mg_34, ↓mp_35, ↓mg_35, ↓mp_36, ↓mg_36, ↓mg_37, ↓mg_38, ↓mg_39, ↓ma_1, ↓ms_1, ↓ma_2, ↓ms_2, ↓ma_3, ↓ms_3, ↓ma_4, ↓ms_4, ↓ma_5, ↓ms_5, ↓ma_6, ↓ms_6, ↓ma_9, ↓ms_9, ↓ma_10, ↓ms_10, ↓ma_11, ↓ms_11, ↓ma_12, ↓ms_12, ↓ma_13, ↓ms_13, ↓ma_14, ↓ms_14, ↓ma_15, ↓ms_15, ↓ma_16, ↓ms_16, ↓ma_17, ↓ms_17, ↓ma_18, ↓ms_18, ↓ma_19, ↓ms_19, ↓ma_20, ↓ms_20, ↓ma_21, ↓ms_21, ↓mo_q', ↓ma_L, ↓ms_L, ↓ma_Z, ↓ms_Z, mF_1, mF_2, mWd_1, mWd_w, mWd_2, mA_1, mA_w, mA_a, mA_v, mV_1, mV_w, mV_a, mV_v, mA_mA, mV_mV, mF_mF, nI_add, nI_cl, vpi, i01, i02, i10, i11, ↓reduceIte, not_true_eq_false, not_false_eq_true, and_true, true_and, ne_eq, Nat.reduceAdd, Nat.reduceMul, Nat.reduceSub, Nat.reduceEqDiff, reduceCtorEq, Nat.add_zero, Nat.zero_add, n0p, ite_true, ite_false, if_true, if_false, nlT, nlF, nleT, nleF, neT, neF, n0F, n0T, pk_sub, pk_mul, nIm1, nIm2, nlZ, nleZ, upd_s, upd_n, pk_uLs, pk_uLn, nar_0, nar_1, nar_n0, nar_n1, hA']
        have hl1 : lfS R l A kd fs f n = A (40 + 3 * n) := if_pos e1
        have hl2 : rtS R l A kd fs f n = A (41 + 3 * n) := if_pos e1
        have hl3 : plS R l A kd fs f n = decide (A (42 + 3 * n) = 1) := if_pos e1
        have hl4 : kpS R l kd fs f n = f (2 + n) := if_neg (fun a => by rw [e1] at a; exact absurd a.2 (by decide))
        have i1 := hlie n (by omega)
        rw [show 40 + 3 * n + 1 = 41 + 3 * n by omega, show 40 + 3 * n + 2 = 42 + 3 * n by omega]
        have nx : ∀ b : Int32, b = (if plS R l A kd fs f n = true then 1 else 0) → xEv xP (xprim sa) (d + 4) m_M_write [.ref q, .ref (q + ke), .int (nI y), .int (nI n), .int (A (40 + 3 * n)), .int (A (41 + 3 * n)), .int b] (mM q M0 τ) (xrV fun M9 => K_M_go sa (d + 4) Q 4 [some (.ref q), some (.ref (q + kr)), some (.int (nI x)), some (.ref (q + ke)), some (.int (nI y)), some (.int (nI (n + 1))), none] [] M9 (0, 0)) := by
          intro b hb'
          refine c_M_write hR' hR3 hR9 hki k1 hy hy2 (by omega) hA' hrw trB_at hb' i1.1 i1.2 ?_
          rw [xrV_mk]
          refine ih (n + 1) (by omega) _ (sm_t hτ (sm_A kin)) ?_
          show (if ke = ke then _ else _) = _
          rw [if_pos rfl, ← hl1, ← hl2, tr_s, tr_s, trB_s, tr_n (g := kpS R l kd fs f) hl4]
        by_cases e2 : A (42 + 3 * n) = 1
        · have e2' : A (42 + 3 * n) = nI 1 := e2
          rw [if_neg (not_not_intro e2')]
          exact nx _ (by rw [hl3, decide_eq_true e2]; rfl)
        · have e2' : ¬ A (42 + 3 * n) = nI 1 := e2
          rw [if_pos e2']
          exact nx _ (by rw [hl3, decide_eq_false e2]; rfl)
      · have e1' : ¬ kd n = nI 1 := e1
        rw [if_pos e1']
        by_cases e0 : kd n = 0
        · rw [if_neg (not_not_intro e0)]
          have hl1 : lfS R l A kd fs f n = sumS (envS f n (fs n) R) l 1 (-1) (nI 99) (-1) := (if_neg e1).trans (if_pos e0)
          have hl2 : rtS R l A kd fs f n = sumS (envS f n (fs n) R) l 2 (-1) (nI 99) (-1) := (if_neg e1).trans (if_pos e0)
          have hl3 : plS R l A kd fs f n = pulL (envS f n (fs n) R) l := (if_neg e1).trans (if_pos e0)
          have hl4 : kpS R l kd fs f n = sumS (envS f n (fs n) R) l 0 0 (nI 99) (f (2 + n)) := if_pos ⟨by omega, e0⟩
          have he : ∀ j, j < 8 → bnd (envS f n (fs n) R j) := envS_bnd hb (by omega) (hf9 n (by omega)) hR9
          have hrow' : ∀ j, j < 29 → τ.2.2.1 kr (x + j) = f j := by
            intro j hj
            by_cases ek : kr = ke
            · subst ek
              rw [hrw, lay_out (by omega)]
              exact hrow j hj
            · rw [hτ.2.2 kr (by intro hm; simp only [List.mem_cons, List.not_mem_nil, or_false] at hm; omega)]
              exact hrow j hj
          refine c_M_name hR' hR9 hkr hk6 hx hx2 (by omega) hrow' (fun N hN hN1 => ?_)
          rw [hfs'] at hN
          simp (disch := omega) only [↓i01, ↓i02, ↓xrI_mk, ↓xrV_mk, ↓xrL_mk, ↓xrR_mk, ↓mg_0, ↓mg_1, ↓mp_2, ↓mg_2, ↓mg_3, ↓mg_4, ↓mp_5, ↓mg_5, ↓mp_6, ↓mg_6, ↓mp_7, ↓mg_7, ↓mp_8, ↓mg_8, ↓mp_9, ↓mg_9, ↓mp_10, ↓mg_10, ↓mp_11, ↓mg_11, ↓mp_12, ↓mg_12, ↓mp_13, ↓mg_13, ↓mp_14, ↓mg_14, ↓mp_15, ↓mg_15, ↓mp_16, ↓mg_16, ↓mg_17, ↓mp_18, ↓mg_18, ↓mp_19, ↓mg_19, ↓mp_20, ↓mg_20, ↓mp_21, ↓mg_21, ↓mg_22, ↓mg_23, ↓mg_24, ↓mg_25, ↓mg_26, ↓mg_27, ↓mg_28, ↓mg_29, ↓mg_30, ↓mg_31, ↓mg_32, ↓mg_33, ↓mg_34, ↓mp_35, ↓mg_35, ↓mp_36, ↓mg_36, ↓mg_37, ↓mg_38, ↓mg_39, ↓ma_1, ↓ms_1, ↓ma_2, ↓ms_2, ↓ma_3, ↓ms_3, ↓ma_4, ↓ms_4, ↓ma_5, ↓ms_5, ↓ma_6, ↓ms_6, ↓ma_9, ↓ms_9, ↓ma_10, ↓ms_10, ↓ma_11, ↓ms_11, ↓ma_12, ↓ms_12, ↓ma_13, ↓ms_13, ↓ma_14, ↓ms_14, ↓ma_15, ↓ms_15, ↓ma_16, ↓ms_16, ↓ma_17, ↓ms_17, ↓ma_18, ↓ms_18, ↓ma_19, ↓ms_19, ↓ma_20, ↓ms_20, ↓ma_21, ↓ms_21, ↓mo_q', ↓ma_L, ↓ms_L, ↓ma_Z, ↓ms_Z, mF_1, mF_2, mWd_1, mWd_w, mWd_2, mA_1, mA_w, mA_a, mA_v, mV_1, mV_w, mV_a, mV_v, mA_mA, mV_mV, mF_mF, nI_add, nI_cl, vpi, i01, i02, i10, i11, ↓reduceIte, not_true_eq_false, not_false_eq_true, and_true, true_and, ne_eq, Nat.reduceAdd, Nat.reduceMul, Nat.reduceSub, Nat.reduceEqDiff, reduceCtorEq, Nat.add_zero, Nat.zero_add, n0p, ite_true, ite_false, if_true, if_false, nlT, nlF, nleT, nleF, neT, neF, n0F, n0T, pk_sub, pk_mul, nIm1, nIm2, nlZ, nleZ, upd_s, upd_n, pk_uLs, pk_uLn, nar_0, nar_1, nar_n0, nar_n1, hN1]
          have r1 : rul (mA τ 6 N) l := hr'
          refine c_M_sumOf (s := 0) he r1 (by simp (disch := omega) only [↓i01, ↓i02, ↓xrI_mk, ↓xrV_mk, ↓xrL_mk, ↓xrR_mk, ↓mg_0, ↓mg_1, ↓mp_2, ↓mg_2, ↓mg_3, ↓mg_4, ↓mp_5, ↓mg_5, ↓mp_6, ↓mg_6, ↓mp_7, ↓mg_7, ↓mp_8, ↓mg_8, ↓mp_9, ↓mg_9, ↓mp_10, ↓mg_10, ↓mp_11, ↓mg_11, ↓mp_12, ↓mg_12, ↓mp_13, ↓mg_13, ↓mp_14, ↓mg_14, ↓mp_15, ↓mg_15, ↓mp_16, ↓mg_16, ↓mg_17, ↓mp_18, ↓mg_18, ↓mp_19, ↓mg_19, ↓mp_20, ↓mg_20, ↓mp_21, ↓mg_21, ↓mg_22, ↓mg_23, ↓mg_24, ↓mg_25, ↓mg_26, ↓mg_27, ↓mg_28, ↓mg_29, ↓mg_30, ↓mg_31, ↓mg_32, ↓mg_33, ↓mg_34, ↓mp_35, ↓mg_35, ↓mp_36, ↓mg_36, ↓mg_37, ↓mg_38, ↓mg_39, ↓ma_1, ↓ms_1, ↓ma_2, ↓ms_2, ↓ma_3, ↓ms_3, ↓ma_4, ↓ms_4, ↓ma_5, ↓ms_5, ↓ma_6, ↓ms_6, ↓ma_9, ↓ms_9, ↓ma_10, ↓ms_10, ↓ma_11, ↓ms_11, ↓ma_12, ↓ms_12, ↓ma_13, ↓ms_13, ↓ma_14, ↓ms_14, ↓ma_15, ↓ms_15, ↓ma_16, ↓ms_16, ↓ma_17, ↓ms_17, ↓ma_18, ↓ms_18, ↓ma_19, ↓ms_19, ↓ma_20, ↓ms_20, ↓ma_21, ↓ms_21, ↓mo_q', ↓ma_L, ↓ms_L, ↓ma_Z, ↓ms_Z, mF_1, mF_2, mWd_1, mWd_w, mWd_2, mA_1, mA_w, mA_a, mA_v, mV_1, mV_w, mV_a, mV_v, mA_mA, mV_mV, mF_mF, nI_add, nI_cl, vpi, i01, i02, i10, i11, ↓reduceIte, not_true_eq_false, not_false_eq_true, and_true, true_and, ne_eq, Nat.reduceAdd, Nat.reduceMul, Nat.reduceSub, Nat.reduceEqDiff, reduceCtorEq, Nat.add_zero, Nat.zero_add, n0p, ite_true, ite_false, if_true, if_false, nlT, nlF, nleT, nleF, neT, neF, n0F, n0T, pk_sub, pk_mul, nIm1, nIm2, nlZ, nleZ, upd_s, upd_n, pk_uLs, pk_uLn, nar_0, nar_1, nar_n0, nar_n1]; exact hN) (by omega) (by decide) (fun τ2 s2 => ?_)
          have er : τ2.2.2.1 ke = lay (σ.2.2.1 ke) y 29 (crS R A (tr n (kpS R l kd fs f) (fun i => f (2 + i))) (tr n (lfS R l A kd fs f) (fun _ => -1)) (tr n (rtS R l A kd fs f) (fun _ => -1)) (trB n (plS R l A kd fs f)) (f 0 + 1)) := by
            rw [s2.2.2 ke k8n]
            show (if ke = 6 then _ else _) = _
            rw [if_neg k6]
            exact hrw
          simp (disch := omega) only [↓i01, ↓i02, ↓xrI_mk, ↓xrV_mk, ↓xrL_mk, ↓xrR_mk, ↓mg_0, ↓mg_1, ↓mp_2, ↓mg_2, ↓mg_3, ↓mg_4, ↓mp_5, ↓mg_5, ↓mp_6, ↓mg_6, ↓mp_7, ↓mg_7, ↓mp_8, ↓mg_8, ↓mp_9, ↓mg_9, ↓mp_10, ↓mg_10, ↓mp_11, ↓mg_11, ↓mp_12, ↓mg_12, ↓mp_13, ↓mg_13, ↓mp_14, ↓mg_14, ↓mp_15, ↓mg_15, ↓mp_16, ↓mg_16, ↓mg_17, ↓mp_18, ↓mg_18, ↓mp_19, ↓mg_19, ↓mp_20, ↓mg_20, ↓mp_21, ↓mg_21, ↓mg_22, ↓mg_23, ↓mg_24, ↓mg_25, ↓mg_26, ↓mg_27, ↓mg_28, ↓mg_29, ↓mg_30, ↓mg_31, ↓mg_32, ↓mg_33, ↓mg_34, ↓mp_35, ↓mg_35, ↓mp_36, ↓mg_36, ↓mg_37, ↓mg_38, ↓mg_39, ↓ma_1, ↓ms_1, ↓ma_2, ↓ms_2, ↓ma_3, ↓ms_3, ↓ma_4, ↓ms_4, ↓ma_5, ↓ms_5, ↓ma_6, ↓ms_6, ↓ma_9, ↓ms_9, ↓ma_10, ↓ms_10, ↓ma_11, ↓ms_11, ↓ma_12, ↓ms_12, ↓ma_13, ↓ms_13, ↓ma_14, ↓ms_14, ↓ma_15, ↓ms_15, ↓ma_16, ↓ms_16, ↓ma_17, ↓ms_17, ↓ma_18, ↓ms_18, ↓ma_19, ↓ms_19, ↓ma_20, ↓ms_20, ↓ma_21, ↓ms_21, ↓mo_q', ↓ma_L, ↓ms_L, ↓ma_Z, ↓ms_Z, mF_1, mF_2, mWd_1, mWd_w, mWd_2, mA_1, mA_w, mA_a, mA_v, mV_1, mV_w, mV_a, mV_v, mA_mA, mV_mV, mF_mF, nI_add, nI_cl, vpi, i01, i02, i10, i11, ↓reduceIte, not_true_eq_false, not_false_eq_true, and_true, true_and, ne_eq, Nat.reduceAdd, Nat.reduceMul, Nat.reduceSub, Nat.reduceEqDiff, reduceCtorEq, Nat.add_zero, Nat.zero_add, n0p, ite_true, ite_false, if_true, if_false, nlT, nlF, nleT, nleF, neT, neF, n0F, n0T, pk_sub, pk_mul, nIm1, nIm2, nlZ, nleZ, upd_s, upd_n, pk_uLs, pk_uLn, nar_0, nar_1, nar_n0, nar_n1, ms_I hki, er]
          rw [Nat.add_assoc, upd_lay_in (by omega), cr_kp (by omega), show sumS (envS f n (fs n) R) l 0 (nI 0) (nI 99) (f (2 + n)) = kpS R l kd fs f n from hl4.symm, tr_s]
          have st : ∀ g : Nat → Int32, sm [6, 8, ke] σ (mA τ2 ke g) := fun g => sm_t hτ (sm_t (sm_A (k := 6) (f := N) (by simp)) (sm_t (sm_w s2 (by simp)) (sm_A kin)))
          have ng : ∀ g : Nat → Int32, ∀ j, j < 8 → ((mA τ2 ke g).2.2.1 6 j).toInt = envS f n (fs n) R j := by
            intro g j hj
            show ((if 6 = ke then g else τ2.2.2.1 6) j).toInt = _
            rw [if_neg (Ne.symm k6), s2.2.2 6 (by decide)]
            exact hN j hj
          refine c_M_sumOf (s := 1) he (rul_sm (st _) m1 m3 hr) (ng _) (by omega) (by decide) (fun τ4 s4 => ?_)
          simp (disch := omega) only [↓i01, ↓i02, ↓xrI_mk, ↓xrV_mk, ↓xrL_mk, ↓xrR_mk, ↓mg_0, ↓mg_1, ↓mp_2, ↓mg_2, ↓mg_3, ↓mg_4, ↓mp_5, ↓mg_5, ↓mp_6, ↓mg_6, ↓mp_7, ↓mg_7, ↓mp_8, ↓mg_8, ↓mp_9, ↓mg_9, ↓mp_10, ↓mg_10, ↓mp_11, ↓mg_11, ↓mp_12, ↓mg_12, ↓mp_13, ↓mg_13, ↓mp_14, ↓mg_14, ↓mp_15, ↓mg_15, ↓mp_16, ↓mg_16, ↓mg_17, ↓mp_18, ↓mg_18, ↓mp_19, ↓mg_19, ↓mp_20, ↓mg_20, ↓mp_21, ↓mg_21, ↓mg_22, ↓mg_23, ↓mg_24, ↓mg_25, ↓mg_26, ↓mg_27, ↓mg_28, ↓mg_29, ↓mg_30, ↓mg_31, ↓mg_32, ↓mg_33, ↓mg_34, ↓mp_35, ↓mg_35, ↓mp_36, ↓mg_36, ↓mg_37, ↓mg_38, ↓mg_39, ↓ma_1, ↓ms_1, ↓ma_2, ↓ms_2, ↓ma_3, ↓ms_3, ↓ma_4, ↓ms_4, ↓ma_5, ↓ms_5, ↓ma_6, ↓ms_6, ↓ma_9, ↓ms_9, ↓ma_10, ↓ms_10, ↓ma_11, ↓ms_11, ↓ma_12, ↓ms_12, ↓ma_13, ↓ms_13, ↓ma_14, ↓ms_14, ↓ma_15, ↓ms_15, ↓ma_16, ↓ms_16, ↓ma_17, ↓ms_17, ↓ma_18, ↓ms_18, ↓ma_19, ↓ms_19, ↓ma_20, ↓ms_20, ↓ma_21, ↓ms_21, ↓mo_q', ↓ma_L, ↓ms_L, ↓ma_Z, ↓ms_Z, mF_1, mF_2, mWd_1, mWd_w, mWd_2, mA_1, mA_w, mA_a, mA_v, mV_1, mV_w, mV_a, mV_v, mA_mA, mV_mV, mF_mF, nI_add, nI_cl, vpi, i01, i02, i10, i11, ↓reduceIte, not_true_eq_false, not_false_eq_true, and_true, true_and, ne_eq, Nat.reduceAdd, Nat.reduceMul, Nat.reduceSub, Nat.reduceEqDiff, reduceCtorEq, Nat.add_zero, Nat.zero_add, n0p, ite_true, ite_false, if_true, if_false, nlT, nlF, nleT, nleF, neT, neF, n0F, n0T, pk_sub, pk_mul, nIm1, nIm2, nlZ, nleZ, upd_s, upd_n, pk_uLs, pk_uLn, nar_0, nar_1, nar_n0, nar_n1]
          refine c_M_sumOf (s := 2) he (rul_sm (sm_t (st _) (sm_w s4 (by simp))) m1 m3 hr) (fun j hj => by rw [s4.2.2 6 (by decide)]; exact ng _ j hj) (by omega) (by decide) (fun τ5 s5 => ?_)
          simp (disch := omega) only [↓i01, ↓i02, ↓xrI_mk, ↓xrV_mk, ↓xrL_mk, ↓xrR_mk, ↓mg_0, ↓mg_1, ↓mp_2, ↓mg_2, ↓mg_3, ↓mg_4, ↓mp_5, ↓mg_5, ↓mp_6, ↓mg_6, ↓mp_7, ↓mg_7, ↓mp_8, ↓mg_8, ↓mp_9, ↓mg_9, ↓mp_10, ↓mg_10, ↓mp_11, ↓mg_11, ↓mp_12, ↓mg_12, ↓mp_13, ↓mg_13, ↓mp_14, ↓mg_14, ↓mp_15, ↓mg_15, ↓mp_16, ↓mg_16, ↓mg_17, ↓mp_18, ↓mg_18, ↓mp_19, ↓mg_19, ↓mp_20, ↓mg_20, ↓mp_21, ↓mg_21, ↓mg_22, ↓mg_23, ↓mg_24, ↓mg_25, ↓mg_26, ↓mg_27, ↓mg_28, ↓mg_29, ↓mg_30, ↓mg_31, ↓mg_32, ↓mg_33, ↓mg_34, ↓mp_35, ↓mg_35, ↓mp_36, ↓mg_36, ↓mg_37, ↓mg_38, ↓mg_39, ↓ma_1, ↓ms_1, ↓ma_2, ↓ms_2, ↓ma_3, ↓ms_3, ↓ma_4, ↓ms_4, ↓ma_5, ↓ms_5, ↓ma_6, ↓ms_6, ↓ma_9, ↓ms_9, ↓ma_10, ↓ms_10, ↓ma_11, ↓ms_11, ↓ma_12, ↓ms_12, ↓ma_13, ↓ms_13, ↓ma_14, ↓ms_14, ↓ma_15, ↓ms_15, ↓ma_16, ↓ms_16, ↓ma_17, ↓ms_17, ↓ma_18, ↓ms_18, ↓ma_19, ↓ms_19, ↓ma_20, ↓ms_20, ↓ma_21, ↓ms_21, ↓mo_q', ↓ma_L, ↓ms_L, ↓ma_Z, ↓ms_Z, mF_1, mF_2, mWd_1, mWd_w, mWd_2, mA_1, mA_w, mA_a, mA_v, mV_1, mV_w, mV_a, mV_v, mA_mA, mV_mV, mF_mF, nI_add, nI_cl, vpi, i01, i02, i10, i11, ↓reduceIte, not_true_eq_false, not_false_eq_true, and_true, true_and, ne_eq, Nat.reduceAdd, Nat.reduceMul, Nat.reduceSub, Nat.reduceEqDiff, reduceCtorEq, Nat.add_zero, Nat.zero_add, n0p, ite_true, ite_false, if_true, if_false, nlT, nlF, nleT, nleF, neT, neF, n0F, n0T, pk_sub, pk_mul, nIm1, nIm2, nlZ, nleZ, upd_s, upd_n, pk_uLs, pk_uLn, nar_0, nar_1, nar_n0, nar_n1]
          refine c_M_pulls he (rul_sm (sm_t (st _) (sm_w (sm_t s4 s5) (by simp))) m1 m3 hr) (fun j hj => by rw [s5.2.2 6 (by decide), s4.2.2 6 (by decide)]; exact ng _ j hj) (fun τ6 s6 => ?_)
          have sg := sm_t (st _) (sm_w (sm_t s4 (sm_t s5 s6)) (by simp : ∀ k, k ∈ [8] → k ∈ [6, 8, ke]))
          simp (disch := omega) only [↓i01, ↓i02, ↓xrI_mk, ↓xrV_mk, ↓xrL_mk, ↓xrR_mk, ↓mg_0, ↓mg_1, ↓mp_2, ↓mg_2, ↓mg_3, ↓mg_4, ↓mp_5, ↓mg_5, ↓mp_6, ↓mg_6, ↓mp_7, ↓mg_7, ↓mp_8, ↓mg_8, ↓mp_9, ↓mg_9, ↓mp_10, ↓mg_10, ↓mp_11, ↓mg_11, ↓mp_12, ↓mg_12, ↓mp_13, ↓mg_13, ↓mp_14, ↓mg_14, ↓mp_15, ↓mg_15, ↓mp_16, ↓mg_16, ↓mg_17, ↓mp_18, ↓mg_18, ↓mp_19, ↓mg_19, ↓mp_20, ↓mg_20, ↓mp_21, ↓mg_21, ↓mg_22, ↓mg_23, ↓mg_24, ↓mg_25, ↓mg_26, ↓mg_27, ↓mg_28, ↓mg_29, ↓mg_30, ↓mg_31, ↓mg_32, ↓mg_33, ↓mg_34, ↓mp_35, ↓mg_35, ↓mp_36, ↓mg_36, ↓mg_37, ↓mg_38, ↓mg_39, ↓ma_1, ↓ms_1, ↓ma_2, ↓ms_2, ↓ma_3, ↓ms_3, ↓ma_4, ↓ms_4, ↓ma_5, ↓ms_5, ↓ma_6, ↓ms_6, ↓ma_9, ↓ms_9, ↓ma_10, ↓ms_10, ↓ma_11, ↓ms_11, ↓ma_12, ↓ms_12, ↓ma_13, ↓ms_13, ↓ma_14, ↓ms_14, ↓ma_15, ↓ms_15, ↓ma_16, ↓ms_16, ↓ma_17, ↓ms_17, ↓ma_18, ↓ms_18, ↓ma_19, ↓ms_19, ↓ma_20, ↓ms_20, ↓ma_21, ↓ms_21, ↓mo_q', ↓ma_L, ↓ms_L, ↓ma_Z, ↓ms_Z, mF_1, mF_2, mWd_1, mWd_w, mWd_2, mA_1, mA_w, mA_a, mA_v, mV_1, mV_w, mV_a, mV_v, mA_mA, mV_mV, mF_mF, nI_add, nI_cl, vpi, i01, i02, i10, i11, ↓reduceIte, not_true_eq_false, not_false_eq_true, and_true, true_and, ne_eq, Nat.reduceAdd, Nat.reduceMul, Nat.reduceSub, Nat.reduceEqDiff, reduceCtorEq, Nat.add_zero, Nat.zero_add, n0p, ite_true, ite_false, if_true, if_false, nlT, nlF, nleT, nleF, neT, neF, n0F, n0T, pk_sub, pk_mul, nIm1, nIm2, nlZ, nleZ, upd_s, upd_n, pk_uLs, pk_uLn, nar_0, nar_1, nar_n0, nar_n1]
          have er6 : τ6.2.2.1 ke = lay (σ.2.2.1 ke) y 29 (crS R A (tr (n + 1) (kpS R l kd fs f) (fun i => f (2 + i))) (tr n (lfS R l A kd fs f) (fun _ => -1)) (tr n (rtS R l A kd fs f) (fun _ => -1)) (trB n (plS R l A kd fs f)) (f 0 + 1)) := by
            rw [s6.2.2 ke k8n, s5.2.2 ke k8n, s4.2.2 ke k8n]
            show (if ke = ke then _ else τ2.2.2.1 ke) = _
            rw [if_pos rfl]
          have hA6 : τ6.2.2.1 1 = A := (sg.2.2 1 m1).trans hA
          have hR6 : τ6.1 2 = nI R := by rw [sg.1]; exact hR
          refine c_M_write (p := plS R l A kd fs f n) hR6 hR3 hR9 hki k1 hy hy2 (by omega) hA6 er6 trB_at (by rw [hl3]) (sumS_iv (by decide) ivm1) (sumS_iv (by decide) ivm1) ?_
          rw [xrV_mk]
          refine ih (n + 1) (by omega) _ (sm_t sg (sm_A kin)) ?_
          show (if ke = ke then _ else _) = _
          rw [if_pos rfl, ← hl1, ← hl2, tr_s, tr_s, trB_s]
        · rw [if_pos e0]
          have a1 : kpS R l kd fs f n = (fun i => f (2 + i)) n := if_neg (fun a => e0 a.2)
          have a2 : lfS R l A kd fs f n = (fun _ => -1) n := (if_neg e1).trans (if_neg e0)
          have a3 : rtS R l A kd fs f n = (fun _ => -1) n := (if_neg e1).trans (if_neg e0)
          have a4 : plS R l A kd fs f n = false := (if_neg e1).trans (if_neg e0)
          refine ih (n + 1) (by omega) τ hτ ?_
          rw [hrw, tr_n (n := n) (g := kpS R l kd fs f) (e := fun i => f (2 + i)) a1, tr_n (n := n) (g := lfS R l A kd fs f) (e := fun _ => -1) a2, tr_n (n := n) (g := rtS R l A kd fs f) (e := fun _ => -1) a3, trB_n a4]
  -- the first
  have first : ∀ (m n : Nat), m + n = 9 → ∀ g : Nat → Int32, (∀ j, g j = if y ≤ j ∧ j < y + 29 ∧ (j < y + 2 + n ∨ (y + 11 ≤ j ∧ j < y + 11 + n) ∨ y + 20 ≤ j ∧ j < y + 20 + n) then row0 R A f (j - y) else σ.2.2.1 ke j) → K_M_go sa (d + 4) Q 1 [some (.ref q), some (.ref (q + kr)), some (.int (nI x)), some (.ref (q + ke)), some (.int (nI y)), some (.int (nI n)), none] [] (mM q M0 (mA σ ke g)) (0, 0) := by
    intro m
    induction m with
    | zero =>
      intro n hn g hg
      refine t_M_go_1 ?_
      simp (disch := omega) only [↓i01, ↓i02, ↓xrI_mk, ↓xrV_mk, ↓xrL_mk, ↓xrR_mk, ↓mg_0, ↓mg_1, ↓mp_2, ↓mg_2, ↓mg_3, ↓mg_4, ↓mp_5, ↓mg_5, ↓mp_6, ↓mg_6, ↓mp_7, ↓mg_7, ↓mp_8, ↓mg_8, ↓mp_9, ↓mg_9, ↓mp_10, ↓mg_10, ↓mp_11, ↓mg_11, ↓mp_12, ↓mg_12, ↓mp_13, ↓mg_13, ↓mp_14, ↓mg_14, ↓mp_15, ↓mg_15, ↓mp_16, ↓mg_16, ↓mg_17, ↓mp_18, ↓mg_18, ↓mp_19, ↓mg_19, ↓mp_20, ↓mg_20, ↓mp_21, ↓mg_21, ↓mg_22, ↓mg_23, ↓mg_24, ↓mg_25, ↓mg_26, ↓mg_27, ↓mg_28, ↓mg_29, ↓mg_30, ↓mg_31, ↓mg_32, ↓mg_33, ↓mg_34, ↓mp_35, ↓mg_35, ↓mp_36, ↓mg_36, ↓mg_37, ↓mg_38, ↓mg_39, ↓ma_1, ↓ms_1, ↓ma_2, ↓ms_2, ↓ma_3, ↓ms_3, ↓ma_4, ↓ms_4, ↓ma_5, ↓ms_5, ↓ma_6, ↓ms_6, ↓ma_9, ↓ms_9, ↓ma_10, ↓ms_10, ↓ma_11, ↓ms_11, ↓ma_12, ↓ms_12, ↓ma_13, ↓ms_13, ↓ma_14, ↓ms_14, ↓ma_15, ↓ms_15, ↓ma_16, ↓ms_16, ↓ma_17, ↓ms_17, ↓ma_18, ↓ms_18, ↓ma_19, ↓ms_19, ↓ma_20, ↓ms_20, ↓ma_21, ↓ms_21, ↓mo_q', ↓ma_L, ↓ms_L, ↓ma_Z, ↓ms_Z, mF_1, mF_2, mWd_1, mWd_w, mWd_2, mA_1, mA_w, mA_a, mA_v, mV_1, mV_w, mV_a, mV_v, mA_mA, mV_mV, mF_mF, nI_add, nI_cl, vpi, i01, i02, i10, i11, ↓reduceIte, not_true_eq_false, not_false_eq_true, and_true, true_and, ne_eq, Nat.reduceAdd, Nat.reduceMul, Nat.reduceSub, Nat.reduceEqDiff, reduceCtorEq, Nat.add_zero, Nat.zero_add, n0p, ite_true, ite_false, if_true, if_false, nlT, nlF, nleT, nleF, neT, neF, n0F, n0T, pk_sub, pk_mul, nIm1, nIm2, nlZ, nleZ, upd_s, upd_n, pk_uLs, pk_uLn, nar_0, nar_1, nar_n0, nar_n1]
      refine second R 0 (by omega) _ (sm_A kin) ?_
      show (if ke = ke then g else _) = _
      rw [if_pos rfl, tr_0, tr_0, tr_0, trB_0]
      funext j
      rw [hg j]
      unfold lay
      by_cases hj : y ≤ j ∧ j < y + 29
      · rw [if_pos hj, if_pos (by omega)]
        rfl
      · rw [if_neg hj, if_neg (by omega)]
    | succ m ih =>
      intro n hn g hg
      refine t_M_go_1 ?_
      have hsrc : (if kr = ke then g else σ.2.2.1 kr) (x + 2 + n) = f (2 + n) := by
        have e := hrow (2 + n) (by omega)
        rw [← Nat.add_assoc] at e
        by_cases ek : kr = ke
        · rw [if_pos ek, hg, if_neg (by omega), ← ek]
          exact e
        · rw [if_neg ek]
          exact e
      simp (disch := omega) only [↓i01, ↓i02, ↓xrI_mk, ↓xrV_mk, ↓xrL_mk, ↓xrR_mk, ↓mg_0, ↓mg_1, ↓mp_2, ↓mg_2, ↓mg_3, ↓mg_4, ↓mp_5, ↓mg_5, ↓mp_6, ↓mg_6, ↓mp_7, ↓mg_7, ↓mp_8, ↓mg_8, ↓mp_9, ↓mg_9, ↓mp_10, ↓mg_10, ↓mp_11, ↓mg_11, ↓mp_12, ↓mg_12, ↓mp_13, ↓mg_13, ↓mp_14, ↓mg_14, ↓mp_15, ↓mg_15, ↓mp_16, ↓mg_16, ↓mg_17, ↓mp_18, ↓mg_18, ↓mp_19, ↓mg_19, ↓mp_20, ↓mg_20, ↓mp_21, ↓mg_21, ↓mg_22, ↓mg_23, ↓mg_24, ↓mg_25, ↓mg_26, ↓mg_27, ↓mg_28, ↓mg_29, ↓mg_30, ↓mg_31, ↓mg_32, ↓mg_33, ↓mg_34, ↓mp_35, ↓mg_35, ↓mp_36, ↓mg_36, ↓mg_37, ↓mg_38, ↓mg_39, ↓ma_1, ↓ms_1, ↓ma_2, ↓ms_2, ↓ma_3, ↓ms_3, ↓ma_4, ↓ms_4, ↓ma_5, ↓ms_5, ↓ma_6, ↓ms_6, ↓ma_9, ↓ms_9, ↓ma_10, ↓ms_10, ↓ma_11, ↓ms_11, ↓ma_12, ↓ms_12, ↓ma_13, ↓ms_13, ↓ma_14, ↓ms_14, ↓ma_15, ↓ms_15, ↓ma_16, ↓ms_16, ↓ma_17, ↓ms_17, ↓ma_18, ↓ms_18, ↓ma_19, ↓ms_19, ↓ma_20, ↓ms_20, ↓ma_21, ↓ms_21, ↓mo_q', ↓ma_L, ↓ms_L, ↓ma_Z, ↓ms_Z, mF_1, mF_2, mWd_1, mWd_w, mWd_2, mA_1, mA_w, mA_a, mA_v, mV_1, mV_w, mV_a, mV_v, mA_mA, mV_mV, mF_mF, nI_add, nI_cl, vpi, i01, i02, i10, i11, ↓reduceIte, not_true_eq_false, not_false_eq_true, and_true, true_and, ne_eq, Nat.reduceAdd, Nat.reduceMul, Nat.reduceSub, Nat.reduceEqDiff, reduceCtorEq, Nat.add_zero, Nat.zero_add, n0p, ite_true, ite_false, if_true, if_false, nlT, nlF, nleT, nleF, neT, neF, n0F, n0T, pk_sub, pk_mul, nIm1, nIm2, nlZ, nleZ, upd_s, upd_n, pk_uLs, pk_uLn, nar_0, nar_1, nar_n0, nar_n1, ma_I hkr, ms_I hki, hsrc]
      refine ih (n + 1) (by omega) _ (fun j => ?_)
      unfold upd
      by_cases e1 : j = y + 20 + n
      · rw [if_pos e1, if_pos (by omega), show j - y = 20 + n by omega, row0_r (by omega)]
      · rw [if_neg e1]
        by_cases e2 : j = y + 11 + n
        · rw [if_pos e2, if_pos (by omega), show j - y = 11 + n by omega, row0_l (by omega)]
        · rw [if_neg e2]
          by_cases e3 : j = y + 2 + n
          · rw [if_pos e3, if_pos (by omega), show j - y = 2 + n by omega, row0_k (by omega)]
          · rw [if_neg e3, hg j]
            by_cases e4 : y ≤ j ∧ j < y + 29 ∧ (j < y + 2 + n ∨ (y + 11 ≤ j ∧ j < y + 11 + n) ∨ y + 20 ≤ j ∧ j < y + 20 + n)
            · rw [if_pos e4, if_pos (by omega)]
            · rw [if_neg e4, if_neg (by omega)]
  refine t_M_go ?_
  have e0 := hrow 0 (by omega)
  rw [Nat.add_zero] at e0
  simp (disch := omega) only [↓i01, ↓i02, ↓xrI_mk, ↓xrV_mk, ↓xrL_mk, ↓xrR_mk, ↓mg_0, ↓mg_1, ↓mp_2, ↓mg_2, ↓mg_3, ↓mg_4, ↓mp_5, ↓mg_5, ↓mp_6, ↓mg_6, ↓mp_7, ↓mg_7, ↓mp_8, ↓mg_8, ↓mp_9, ↓mg_9, ↓mp_10, ↓mg_10, ↓mp_11, ↓mg_11, ↓mp_12, ↓mg_12, ↓mp_13, ↓mg_13, ↓mp_14, ↓mg_14, ↓mp_15, ↓mg_15, ↓mp_16, ↓mg_16, ↓mg_17, ↓mp_18, ↓mg_18, ↓mp_19, ↓mg_19, ↓mp_20, ↓mg_20, ↓mp_21, ↓mg_21, ↓mg_22, ↓mg_23, ↓mg_24, ↓mg_25, ↓mg_26, ↓mg_27, ↓mg_28, ↓mg_29, ↓mg_30, ↓mg_31, ↓mg_32, ↓mg_33, ↓mg_34, ↓mp_35, ↓mg_35, ↓mp_36, ↓mg_36, ↓mg_37, ↓mg_38, ↓mg_39, ↓ma_1, ↓ms_1, ↓ma_2, ↓ms_2, ↓ma_3, ↓ms_3, ↓ma_4, ↓ms_4, ↓ma_5, ↓ms_5, ↓ma_6, ↓ms_6, ↓ma_9, ↓ms_9, ↓ma_10, ↓ms_10, ↓ma_11, ↓ms_11, ↓ma_12, ↓ms_12, ↓ma_13, ↓ms_13, ↓ma_14, ↓ms_14, ↓ma_15, ↓ms_15, ↓ma_16, ↓ms_16, ↓ma_17, ↓ms_17, ↓ma_18, ↓ms_18, ↓ma_19, ↓ms_19, ↓ma_20, ↓ms_20, ↓ma_21, ↓ms_21, ↓mo_q', ↓ma_L, ↓ms_L, ↓ma_Z, ↓ms_Z, mF_1, mF_2, mWd_1, mWd_w, mWd_2, mA_1, mA_w, mA_a, mA_v, mV_1, mV_w, mV_a, mV_v, mA_mA, mV_mV, mF_mF, nI_add, nI_cl, vpi, i01, i02, i10, i11, ↓reduceIte, not_true_eq_false, not_false_eq_true, and_true, true_and, ne_eq, Nat.reduceAdd, Nat.reduceMul, Nat.reduceSub, Nat.reduceEqDiff, reduceCtorEq, Nat.add_zero, Nat.zero_add, n0p, ite_true, ite_false, if_true, if_false, nlT, nlF, nleT, nleF, neT, neF, n0F, n0T, pk_sub, pk_mul, nIm1, nIm2, nlZ, nleZ, upd_s, upd_n, pk_uLs, pk_uLn, nar_0, nar_1, nar_n0, nar_n1, ma_I hkr, ms_I hki, e0]
  refine first 9 0 rfl _ (fun j => ?_)
  unfold upd
  by_cases e1 : j = y + 1
  · rw [if_pos e1, if_pos (by omega), show j - y = 1 by omega, row0_1]
  · rw [if_neg e1]
    by_cases e2 : j = y
    · rw [if_pos e2, if_pos (by omega), show j - y = 0 by omega, row0_0]
      rfl
    · rw [if_neg e2, if_neg (by omega)]
theorem c_M_says (hR : σ.1 2 = nI R) (hR9 : R ≤ 9) {kr x i : Nat} (hkr : mI kr = true) (hk6 : kr ≠ 6) (hx : x + 29 ≤ mLen kr) (hx2 : mLen kr < 2 ^ 31) (hi : i < 9) {fs f : Nat → Int32} (hfs : ∀ i, i < 9 → σ.2.2.1 9 i = fs i) (hrow : ∀ j, j < 29 → σ.2.2.1 kr (x + j) = f j) (hb : rb f) (hr : rul σ l) (hf9 : ∀ i, i < 9 → 0 ≤ (fs i).toInt ∧ (fs i).toInt ≤ 9)
    (h : ∀ σ', sm [6, 8] σ σ' → Q (some (.int (sayS R l fs f i))) (mM q M0 σ')) : xEv xP (xprim sa) (d + 5) m_M_says [.ref q, .ref (q + kr), .int (nI x), .int (nI i)] (mM q M0 σ) Q := by
  refine t_M_says ⟨mo_q, c_M_name hR hR9 hkr hk6 hx hx2 hi hrow (fun N hN hN1 => ?_)⟩
  rw [hfs i hi] at hN
  have he : ∀ j, j < 8 → bnd (envS f i (fs i) R j) := envS_bnd hb hi (hf9 i hi) hR9
  simp (disch := omega) only [↓i01, ↓i02, ↓xrI_mk, ↓xrV_mk, ↓xrL_mk, ↓xrR_mk, ↓mg_0, ↓mg_1, ↓mp_2, ↓mg_2, ↓mg_3, ↓mg_4, ↓mp_5, ↓mg_5, ↓mp_6, ↓mg_6, ↓mp_7, ↓mg_7, ↓mp_8, ↓mg_8, ↓mp_9, ↓mg_9, ↓mp_10, ↓mg_10, ↓mp_11, ↓mg_11, ↓mp_12, ↓mg_12, ↓mp_13, ↓mg_13, ↓mp_14, ↓mg_14, ↓mp_15, ↓mg_15, ↓mp_16, ↓mg_16, ↓mg_17, ↓mp_18, ↓mg_18, ↓mp_19, ↓mg_19, ↓mp_20, ↓mg_20, ↓mp_21, ↓mg_21, ↓mg_22, ↓mg_23, ↓mg_24, ↓mg_25, ↓mg_26, ↓mg_27, ↓mg_28, ↓mg_29, ↓mg_30, ↓mg_31, ↓mg_32, ↓mg_33, ↓mg_34, ↓mp_35, ↓mg_35, ↓mp_36, ↓mg_36, ↓mg_37, ↓mg_38, ↓mg_39, ↓ma_1, ↓ms_1, ↓ma_2, ↓ms_2, ↓ma_3, ↓ms_3, ↓ma_4, ↓ms_4, ↓ma_5, ↓ms_5, ↓ma_6, ↓ms_6, ↓ma_9, ↓ms_9, ↓ma_10, ↓ms_10, ↓ma_11, ↓ms_11, ↓ma_12, ↓ms_12, ↓ma_13, ↓ms_13, ↓ma_14, ↓ms_14, ↓ma_15, ↓ms_15, ↓ma_16, ↓ms_16, ↓ma_17, ↓ms_17, ↓ma_18, ↓ms_18, ↓ma_19, ↓ms_19, ↓ma_20, ↓ms_20, ↓ma_21, ↓ms_21, ↓mo_q', ↓ma_L, ↓ms_L, ↓ma_Z, ↓ms_Z, mF_1, mF_2, mWd_1, mWd_w, mWd_2, mA_1, mA_w, mA_a, mA_v, mV_1, mV_w, mV_a, mV_v, mA_mA, mV_mV, mF_mF, nI_add, nI_cl, vpi, i01, i02, i10, i11, ↓reduceIte, not_true_eq_false, not_false_eq_true, and_true, true_and, ne_eq, Nat.reduceAdd, Nat.reduceMul, Nat.reduceSub, Nat.reduceEqDiff, reduceCtorEq, Nat.add_zero, Nat.zero_add, n0p, ite_true, ite_false, if_true, if_false, nlT, nlF, nleT, nleF, neT, neF, n0F, n0T, pk_sub, pk_mul, nIm1, nIm2, nlZ, nleZ, upd_s, upd_n, pk_uLs, pk_uLn, nar_0, nar_1, nar_n0, nar_n1, hN1]
  have fin : ∀ wo : Int32, wo = (if nI 9 < f (2 + i) then nI 9 else f (2 + i)) → xEv xP (xprim sa) (d + 4) m_M_sumOf [.ref q, .int (nI 3), .int (nI 0), .int (nI 9), .int wo] (mM q M0 (mA σ 6 N)) (xrI fun r M => Q (some (.int r)) M) := by
    intro wo hwo
    refine c_M_sumOf (s := 3) he (show rul (mA σ 6 N) l from hr) (by simp (disch := omega) only [↓i01, ↓i02, ↓xrI_mk, ↓xrV_mk, ↓xrL_mk, ↓xrR_mk, ↓mg_0, ↓mg_1, ↓mp_2, ↓mg_2, ↓mg_3, ↓mg_4, ↓mp_5, ↓mg_5, ↓mp_6, ↓mg_6, ↓mp_7, ↓mg_7, ↓mp_8, ↓mg_8, ↓mp_9, ↓mg_9, ↓mp_10, ↓mg_10, ↓mp_11, ↓mg_11, ↓mp_12, ↓mg_12, ↓mp_13, ↓mg_13, ↓mp_14, ↓mg_14, ↓mp_15, ↓mg_15, ↓mp_16, ↓mg_16, ↓mg_17, ↓mp_18, ↓mg_18, ↓mp_19, ↓mg_19, ↓mp_20, ↓mg_20, ↓mp_21, ↓mg_21, ↓mg_22, ↓mg_23, ↓mg_24, ↓mg_25, ↓mg_26, ↓mg_27, ↓mg_28, ↓mg_29, ↓mg_30, ↓mg_31, ↓mg_32, ↓mg_33, ↓mg_34, ↓mp_35, ↓mg_35, ↓mp_36, ↓mg_36, ↓mg_37, ↓mg_38, ↓mg_39, ↓ma_1, ↓ms_1, ↓ma_2, ↓ms_2, ↓ma_3, ↓ms_3, ↓ma_4, ↓ms_4, ↓ma_5, ↓ms_5, ↓ma_6, ↓ms_6, ↓ma_9, ↓ms_9, ↓ma_10, ↓ms_10, ↓ma_11, ↓ms_11, ↓ma_12, ↓ms_12, ↓ma_13, ↓ms_13, ↓ma_14, ↓ms_14, ↓ma_15, ↓ms_15, ↓ma_16, ↓ms_16, ↓ma_17, ↓ms_17, ↓ma_18, ↓ms_18, ↓ma_19, ↓ms_19, ↓ma_20, ↓ms_20, ↓ma_21, ↓ms_21, ↓mo_q', ↓ma_L, ↓ms_L, ↓ma_Z, ↓ms_Z, mF_1, mF_2, mWd_1, mWd_w, mWd_2, mA_1, mA_w, mA_a, mA_v, mV_1, mV_w, mV_a, mV_v, mA_mA, mV_mV, mF_mF, nI_add, nI_cl, vpi, i01, i02, i10, i11, ↓reduceIte, not_true_eq_false, not_false_eq_true, and_true, true_and, ne_eq, Nat.reduceAdd, Nat.reduceMul, Nat.reduceSub, Nat.reduceEqDiff, reduceCtorEq, Nat.add_zero, Nat.zero_add, n0p, ite_true, ite_false, if_true, if_false, nlT, nlF, nleT, nleF, neT, neF, n0F, n0T, pk_sub, pk_mul, nIm1, nIm2, nlZ, nleZ, upd_s, upd_n, pk_uLs, pk_uLn, nar_0, nar_1, nar_n0, nar_n1]; exact hN) (by omega) (by decide) (fun τ s => ?_)
    have := h τ (sm_t (sm_A (k := 6) (f := N) (by simp)) (sm_w s (by simp)))
    unfold sayS at this
    rw [← hwo] at this
    exact this
  by_cases e : f (2 + i) ≤ nI 9
  · rw [if_pos e]
    exact fin _ (by rw [if_neg (Int32.not_lt.mpr e)])
  · rw [if_neg e]
    exact fin _ (by rw [if_pos (Int32.not_le.mp e)])
/-- the sound all say one word, from room n on, w being said (none if below 0) -/
def oneS (R : Nat) (l : List (Nat × Term)) (kd fs f : Nat → Int32) : Nat → Nat → Int32 → Bool
  | 0, _, _ => true
  | m + 1, n, w => if kd n = 0 then (if w < 0 ∨ sayS R l fs f n = w then oneS R l kd fs f m (n + 1) (sayS R l fs f n) else false) else oneS R l kd fs f m (n + 1) w
theorem c_M_areOne (hR : σ.1 2 = nI R) (hR9 : R ≤ 9) {kr x : Nat} (hkr : mI kr = true) (hk6 : kr ≠ 6) (hx : x + 29 ≤ mLen kr) (hx2 : mLen kr < 2 ^ 31) {kd fs f : Nat → Int32} (hkd : ∀ i, i < 9 → σ.2.2.1 10 i = kd i) (hfs : ∀ i, i < 9 → σ.2.2.1 9 i = fs i) (hrow : ∀ j, j < 29 → σ.2.2.1 kr (x + j) = f j) (hb : rb f) (hr : rul σ l) (hf9 : ∀ i, i < 9 → 0 ≤ (fs i).toInt ∧ (fs i).toInt ≤ 9)
    (h : ∀ σ', sm [6, 8] σ σ' → Q (some (.int (if oneS R l kd fs f R 0 (-1) then 1 else 0))) (mM q M0 σ')) : xEv xP (xprim sa) (d + 6) m_M_areOne [.ref q, .ref (q + kr), .int (nI x)] (mM q M0 σ) Q := by
  have hkr8 : kr ≠ 8 := by intro e; subst e; exact absurd hkr (by decide)
  have loop : ∀ (m n : Nat) (w : Int32), m + n = R → oneS R l kd fs f R 0 (-1) = oneS R l kd fs f m n w → ∀ τ : mS, sm [6, 8] σ τ → K_M_areOne sa (d + 5) Q 1 [some (.ref q), some (.ref (q + kr)), some (.int (nI x)), some (.int w), some (.int (nI n)), none] [] (mM q M0 τ) (0, 0) := by
    intro m
    induction m with
    | zero =>
      intro n w hn ho τ hτ
      refine t_M_areOne_1 ?_
      have hR' : τ.1 2 = nI R := by rw [hτ.1]; exact hR
      simp (disch := omega) only [↓i01, ↓i02, ↓xrI_mk, ↓xrV_mk, ↓xrL_mk, ↓xrR_mk, ↓mg_0, ↓mg_1, ↓mp_2, ↓mg_2, ↓mg_3, ↓mg_4, ↓mp_5, ↓mg_5, ↓mp_6, ↓mg_6, ↓mp_7, ↓mg_7, ↓mp_8, ↓mg_8, ↓mp_9, ↓mg_9, ↓mp_10, ↓mg_10, ↓mp_11, ↓mg_11, ↓mp_12, ↓mg_12, ↓mp_13, ↓mg_13, ↓mp_14, ↓mg_14, ↓mp_15, ↓mg_15, ↓mp_16, ↓mg_16, ↓mg_17, ↓mp_18, ↓mg_18, ↓mp_19, ↓mg_19, ↓mp_20, ↓mg_20, ↓mp_21, ↓mg_21, ↓mg_22, ↓mg_23, ↓mg_24, ↓mg_25, ↓mg_26, ↓mg_27, ↓mg_28, ↓mg_29, ↓mg_30, ↓mg_31, ↓mg_32, ↓mg_33, ↓mg_34, ↓mp_35, ↓mg_35, ↓mp_36, ↓mg_36, ↓mg_37, ↓mg_38, ↓mg_39, ↓ma_1, ↓ms_1, ↓ma_2, ↓ms_2, ↓ma_3, ↓ms_3, ↓ma_4, ↓ms_4, ↓ma_5, ↓ms_5, ↓ma_6, ↓ms_6, ↓ma_9, ↓ms_9, ↓ma_10, ↓ms_10, ↓ma_11, ↓ms_11, ↓ma_12, ↓ms_12, ↓ma_13, ↓ms_13, ↓ma_14, ↓ms_14, ↓ma_15, ↓ms_15, ↓ma_16, ↓ms_16, ↓ma_17, ↓ms_17, ↓ma_18, ↓ms_18, ↓ma_19, ↓ms_19, ↓ma_20, ↓ms_20, ↓ma_21, ↓ms_21, ↓mo_q', ↓ma_L, ↓ms_L, ↓ma_Z, ↓ms_Z, mF_1, mF_2, mWd_1, mWd_w, mWd_2, mA_1, mA_w, mA_a, mA_v, mV_1, mV_w, mV_a, mV_v, mA_mA, mV_mV, mF_mF, nI_add, nI_cl, vpi, i01, i02, i10, i11, ↓reduceIte, not_true_eq_false, not_false_eq_true, and_true, true_and, ne_eq, Nat.reduceAdd, Nat.reduceMul, Nat.reduceSub, Nat.reduceEqDiff, reduceCtorEq, Nat.add_zero, Nat.zero_add, n0p, ite_true, ite_false, if_true, if_false, nlT, nlF, nleT, nleF, neT, neF, n0F, n0T, pk_sub, pk_mul, nIm1, nIm2, nlZ, nleZ, upd_s, upd_n, pk_uLs, pk_uLn, nar_0, nar_1, nar_n0, nar_n1, hR']
      have := h τ hτ
      rw [ho] at this
      exact this
    | succ m ih =>
      intro n w hn ho τ hτ
      refine t_M_areOne_1 ?_
      have hR' : τ.1 2 = nI R := by rw [hτ.1]; exact hR
      have hkd' : τ.2.2.1 10 n = kd n := by rw [hτ.2.2 10 (by decide)]; exact hkd n (by omega)
      have hfs' : ∀ i, i < 9 → τ.2.2.1 9 i = fs i := by rw [hτ.2.2 9 (by decide)]; exact hfs
      have hr' : rul τ l := rul_sm hτ (by decide) (by decide) hr
      have hrow' : ∀ j, j < 29 → τ.2.2.1 kr (x + j) = f j := by
        intro j hj
        rw [hτ.2.2 kr (by intro hm; simp only [List.mem_cons, List.not_mem_nil, or_false] at hm; omega)]
        exact hrow j hj
      simp (disch := omega) only [↓i01, ↓i02, ↓xrI_mk, ↓xrV_mk, ↓xrL_mk, ↓xrR_mk, ↓mg_0, ↓mg_1, ↓mp_2, ↓mg_2, ↓mg_3, ↓mg_4, ↓mp_5, ↓mg_5, ↓mp_6, ↓mg_6, ↓mp_7, ↓mg_7, ↓mp_8, ↓mg_8, ↓mp_9, ↓mg_9, ↓mp_10, ↓mg_10, ↓mp_11, ↓mg_11, ↓mp_12, ↓mg_12, ↓mp_13, ↓mg_13, ↓mp_14, ↓mg_14, ↓mp_15, ↓mg_15, ↓mp_16, ↓mg_16, ↓mg_17, ↓mp_18, ↓mg_18, ↓mp_19, ↓mg_19, ↓mp_20, ↓mg_20, ↓mp_21, ↓mg_21, ↓mg_22, ↓mg_23, ↓mg_24, ↓mg_25, ↓mg_26, ↓mg_27, ↓mg_28, ↓mg_29, ↓mg_30, ↓mg_31, ↓mg_32, ↓mg_33, ↓mg_34, ↓mp_35, ↓mg_35, ↓mp_36, ↓mg_36, ↓mg_37, ↓mg_38, ↓mg_39, ↓ma_1, ↓ms_1, ↓ma_2, ↓ms_2, ↓ma_3, ↓ms_3, ↓ma_4, ↓ms_4, ↓ma_5, ↓ms_5, ↓ma_6, ↓ms_6, ↓ma_9, ↓ms_9, ↓ma_10, ↓ms_10, ↓ma_11, ↓ms_11, ↓ma_12, ↓ms_12, ↓ma_13, ↓ms_13, ↓ma_14, ↓ms_14, ↓ma_15, ↓ms_15, ↓ma_16, ↓ms_16, ↓ma_17, ↓ms_17, ↓ma_18, ↓ms_18, ↓ma_19, ↓ms_19, ↓ma_20, ↓ms_20, ↓ma_21, ↓ms_21, ↓mo_q', ↓ma_L, ↓ms_L, ↓ma_Z, ↓ms_Z, mF_1, mF_2, mWd_1, mWd_w, mWd_2, mA_1, mA_w, mA_a, mA_v, mV_1, mV_w, mV_a, mV_v, mA_mA, mV_mV, mF_mF, nI_add, nI_cl, vpi, i01, i02, i10, i11, ↓reduceIte, not_true_eq_false, not_false_eq_true, and_true, true_and, ne_eq, Nat.reduceAdd, Nat.reduceMul, Nat.reduceSub, Nat.reduceEqDiff, reduceCtorEq, Nat.add_zero, Nat.zero_add, n0p, ite_true, ite_false, if_true, if_false, nlT, nlF, nleT, nleF, neT, neF, n0F, n0T, pk_sub, pk_mul, nIm1, nIm2, nlZ, nleZ, upd_s, upd_n, pk_uLs, pk_uLn, nar_0, nar_1, nar_n0, nar_n1, hR', hkd']
      by_cases e0 : kd n = 0
      · rw [if_pos e0]
        refine c_M_says hR' hR9 hkr hk6 hx hx2 (by omega) hfs' hrow' hb hr' hf9 (fun τ2 s2 => ?_)
        simp (disch := omega) only [↓i01, ↓i02, ↓xrI_mk, ↓xrV_mk, ↓xrL_mk, ↓xrR_mk, ↓mg_0, ↓mg_1, ↓mp_2, ↓mg_2, ↓mg_3, ↓mg_4, ↓mp_5, ↓mg_5, ↓mp_6, ↓mg_6, ↓mp_7, ↓mg_7, ↓mp_8, ↓mg_8, ↓mp_9, ↓mg_9, ↓mp_10, ↓mg_10, ↓mp_11, ↓mg_11, ↓mp_12, ↓mg_12, ↓mp_13, ↓mg_13, ↓mp_14, ↓mg_14, ↓mp_15, ↓mg_15, ↓mp_16, ↓mg_16, ↓mg_17, ↓mp_18, ↓mg_18, ↓mp_19, ↓mg_19, ↓mp_20, ↓mg_20, ↓mp_21, ↓mg_21, ↓mg_22, ↓mg_23, ↓mg_24, ↓mg_25, ↓mg_26, ↓mg_27, ↓mg_28, ↓mg_29, ↓mg_30, ↓mg_31, ↓mg_32, ↓mg_33, ↓mg_34, ↓mp_35, ↓mg_35, ↓mp_36, ↓mg_36, ↓mg_37, ↓mg_38, ↓mg_39, ↓ma_1, ↓ms_1, ↓ma_2, ↓ms_2, ↓ma_3, ↓ms_3, ↓ma_4, ↓ms_4, ↓ma_5, ↓ms_5, ↓ma_6, ↓ms_6, ↓ma_9, ↓ms_9, ↓ma_10, ↓ms_10, ↓ma_11, ↓ms_11, ↓ma_12, ↓ms_12, ↓ma_13, ↓ms_13, ↓ma_14, ↓ms_14, ↓ma_15, ↓ms_15, ↓ma_16, ↓ms_16, ↓ma_17, ↓ms_17, ↓ma_18, ↓ms_18, ↓ma_19, ↓ms_19, ↓ma_20, ↓ms_20, ↓ma_21, ↓ms_21, ↓mo_q', ↓ma_L, ↓ms_L, ↓ma_Z, ↓ms_Z, mF_1, mF_2, mWd_1, mWd_w, mWd_2, mA_1, mA_w, mA_a, mA_v, mV_1, mV_w, mV_a, mV_v, mA_mA, mV_mV, mF_mF, nI_add, nI_cl, vpi, i01, i02, i10, i11, ↓reduceIte, not_true_eq_false, not_false_eq_true, and_true, true_and, ne_eq, Nat.reduceAdd, Nat.reduceMul, Nat.reduceSub, Nat.reduceEqDiff, reduceCtorEq, Nat.add_zero, Nat.zero_add, n0p, ite_true, ite_false, if_true, if_false, nlT, nlF, nleT, nleF, neT, neF, n0F, n0T, pk_sub, pk_mul, nIm1, nIm2, nlZ, nleZ, upd_s, upd_n, pk_uLs, pk_uLn, nar_0, nar_1, nar_n0, nar_n1]
        have st := sm_t hτ s2
        have ho' : oneS R l kd fs f (m + 1) n w = (if w < 0 ∨ sayS R l fs f n = w then oneS R l kd fs f m (n + 1) (sayS R l fs f n) else false) := if_pos e0
        by_cases ew : w < 0
        · rw [if_pos ew]
          exact ih (n + 1) _ (by omega) (by rw [ho, ho', if_pos (Or.inl ew)]) τ2 st
        · rw [if_neg ew]
          by_cases es : sayS R l fs f n = w
          · rw [if_pos es]
            exact ih (n + 1) _ (by omega) (by rw [ho, ho', if_pos (Or.inr es)]) τ2 st
          · rw [if_neg es]
            have := h τ2 st
            have hne : ¬ (w < 0 ∨ sayS R l fs f n = w) := fun a => a.elim ew es
            rw [ho, ho', if_neg hne] at this
            exact this
      · rw [if_neg e0]
        exact ih (n + 1) w (by omega) (by rw [ho]; exact if_neg e0) τ hτ
  refine t_M_areOne ?_
  exact loop R 0 _ (by omega) rfl σ sm_r
theorem lay_lay {f r r' : Nat → Int32} {x n : Nat} : lay (lay f x n r) x n r' = lay f x n r' := by
  funext j
  unfold lay
  split <;> rfl
theorem c_M_goOn (hR : σ.1 2 = nI R) (hR3 : 3 ≤ R) (hR9 : R ≤ 9) {A kd fs f : Nat → Int32} (hA : σ.2.2.1 1 = A) (hkd : ∀ i, i < 9 → σ.2.2.1 10 i = kd i) (hfs : ∀ i, i < 9 → σ.2.2.1 9 i = fs i) (hrow : ∀ j, j < 29 → σ.2.2.1 11 j = f j) (hb : rb f) (hr : rul σ l) (hf9 : ∀ i, i < 9 → 0 ≤ (fs i).toInt ∧ (fs i).toInt ≤ 9) (hlie : ∀ i, i < 9 → iv (A (40 + 3 * i)) (-1) (nI 99) ∧ iv (A (41 + 3 * i)) (-1) (nI 99))
    (h : ∀ σ', sm [6, 8, 11] σ σ' → (∀ j, j < 29 → σ'.2.2.1 11 j = goS R l A kd fs f j) → Q none (mM q M0 σ')) : xEv xP (xprim sa) (d + 6) m_M_goOn [.ref q] (mM q M0 σ) Q := by
  refine t_M_goOn ?_
  simp (disch := omega) only [↓i01, ↓i02, ↓xrI_mk, ↓xrV_mk, ↓xrL_mk, ↓xrR_mk, ↓mg_0, ↓mg_1, ↓mp_2, ↓mg_2, ↓mg_3, ↓mg_4, ↓mp_5, ↓mg_5, ↓mp_6, ↓mg_6, ↓mp_7, ↓mg_7, ↓mp_8, ↓mg_8, ↓mp_9, ↓mg_9, ↓mp_10, ↓mg_10, ↓mp_11, ↓mg_11, ↓mp_12, ↓mg_12, ↓mp_13, ↓mg_13, ↓mp_14, ↓mg_14, ↓mp_15, ↓mg_15, ↓mp_16, ↓mg_16, ↓mg_17, ↓mp_18, ↓mg_18, ↓mp_19, ↓mg_19, ↓mp_20, ↓mg_20, ↓mp_21, ↓mg_21, ↓mg_22, ↓mg_23, ↓mg_24, ↓mg_25, ↓mg_26, ↓mg_27, ↓mg_28, ↓mg_29, ↓mg_30, ↓mg_31, ↓mg_32, ↓mg_33, ↓mg_34, ↓mp_35, ↓mg_35, ↓mp_36, ↓mg_36, ↓mg_37, ↓mg_38, ↓mg_39, ↓ma_1, ↓ms_1, ↓ma_2, ↓ms_2, ↓ma_3, ↓ms_3, ↓ma_4, ↓ms_4, ↓ma_5, ↓ms_5, ↓ma_6, ↓ms_6, ↓ma_9, ↓ms_9, ↓ma_10, ↓ms_10, ↓ma_11, ↓ms_11, ↓ma_12, ↓ms_12, ↓ma_13, ↓ms_13, ↓ma_14, ↓ms_14, ↓ma_15, ↓ms_15, ↓ma_16, ↓ms_16, ↓ma_17, ↓ms_17, ↓ma_18, ↓ms_18, ↓ma_19, ↓ms_19, ↓ma_20, ↓ms_20, ↓ma_21, ↓ms_21, ↓mo_q', ↓ma_L, ↓ms_L, ↓ma_Z, ↓ms_Z, mF_1, mF_2, mWd_1, mWd_w, mWd_2, mA_1, mA_w, mA_a, mA_v, mV_1, mV_w, mV_a, mV_v, mA_mA, mV_mV, mF_mF, nI_add, nI_cl, vpi, i01, i02, i10, i11, ↓reduceIte, not_true_eq_false, not_false_eq_true, and_true, true_and, ne_eq, Nat.reduceAdd, Nat.reduceMul, Nat.reduceSub, Nat.reduceEqDiff, reduceCtorEq, Nat.add_zero, Nat.zero_add, n0p, ite_true, ite_false, if_true, if_false, nlT, nlF, nleT, nleF, neT, neF, n0F, n0T, pk_sub, pk_mul, nIm1, nIm2, nlZ, nleZ, upd_s, upd_n, pk_uLs, pk_uLn, nar_0, nar_1, nar_n0, nar_n1]
  refine c_M_go hR hR3 hR9 (kr := 11) (x := 0) (ke := 11) (y := 30) rfl (by decide) (by decide) (by decide) (Or.inl rfl) (by decide) (Or.inr (by omega)) hA hkd hfs (fun j hj => by rw [Nat.zero_add]; exact hrow j hj) hb hr hf9 hlie (fun τ hτ ht => ?_)
  rw [xrV_mk]
  have loop : ∀ (m n : Nat), m + n = 30 → K_M_goOn sa (d + 5) Q 1 [some (.ref q), some (.int (nI n))] [] (mM q M0 (mA τ 11 (lay (τ.2.2.1 11) 0 n (fun j => τ.2.2.1 11 (30 + j))))) (0, 0) := by
    intro m
    induction m with
    | zero =>
      intro n hn
      refine t_M_goOn_1 ?_
      simp (disch := omega) only [↓i01, ↓i02, ↓xrI_mk, ↓xrV_mk, ↓xrL_mk, ↓xrR_mk, ↓mg_0, ↓mg_1, ↓mp_2, ↓mg_2, ↓mg_3, ↓mg_4, ↓mp_5, ↓mg_5, ↓mp_6, ↓mg_6, ↓mp_7, ↓mg_7, ↓mp_8, ↓mg_8, ↓mp_9, ↓mg_9, ↓mp_10, ↓mg_10, ↓mp_11, ↓mg_11, ↓mp_12, ↓mg_12, ↓mp_13, ↓mg_13, ↓mp_14, ↓mg_14, ↓mp_15, ↓mg_15, ↓mp_16, ↓mg_16, ↓mg_17, ↓mp_18, ↓mg_18, ↓mp_19, ↓mg_19, ↓mp_20, ↓mg_20, ↓mp_21, ↓mg_21, ↓mg_22, ↓mg_23, ↓mg_24, ↓mg_25, ↓mg_26, ↓mg_27, ↓mg_28, ↓mg_29, ↓mg_30, ↓mg_31, ↓mg_32, ↓mg_33, ↓mg_34, ↓mp_35, ↓mg_35, ↓mp_36, ↓mg_36, ↓mg_37, ↓mg_38, ↓mg_39, ↓ma_1, ↓ms_1, ↓ma_2, ↓ms_2, ↓ma_3, ↓ms_3, ↓ma_4, ↓ms_4, ↓ma_5, ↓ms_5, ↓ma_6, ↓ms_6, ↓ma_9, ↓ms_9, ↓ma_10, ↓ms_10, ↓ma_11, ↓ms_11, ↓ma_12, ↓ms_12, ↓ma_13, ↓ms_13, ↓ma_14, ↓ms_14, ↓ma_15, ↓ms_15, ↓ma_16, ↓ms_16, ↓ma_17, ↓ms_17, ↓ma_18, ↓ms_18, ↓ma_19, ↓ms_19, ↓ma_20, ↓ms_20, ↓ma_21, ↓ms_21, ↓mo_q', ↓ma_L, ↓ms_L, ↓ma_Z, ↓ms_Z, mF_1, mF_2, mWd_1, mWd_w, mWd_2, mA_1, mA_w, mA_a, mA_v, mV_1, mV_w, mV_a, mV_v, mA_mA, mV_mV, mF_mF, nI_add, nI_cl, vpi, i01, i02, i10, i11, ↓reduceIte, not_true_eq_false, not_false_eq_true, and_true, true_and, ne_eq, Nat.reduceAdd, Nat.reduceMul, Nat.reduceSub, Nat.reduceEqDiff, reduceCtorEq, Nat.add_zero, Nat.zero_add, n0p, ite_true, ite_false, if_true, if_false, nlT, nlF, nleT, nleF, neT, neF, n0F, n0T, pk_sub, pk_mul, nIm1, nIm2, nlZ, nleZ, upd_s, upd_n, pk_uLs, pk_uLn, nar_0, nar_1, nar_n0, nar_n1]
      refine h _ (sm_t hτ (sm_A (by decide))) (fun j hj => ?_)
      simp (disch := omega) only [↓i01, ↓i02, ↓xrI_mk, ↓xrV_mk, ↓xrL_mk, ↓xrR_mk, ↓mg_0, ↓mg_1, ↓mp_2, ↓mg_2, ↓mg_3, ↓mg_4, ↓mp_5, ↓mg_5, ↓mp_6, ↓mg_6, ↓mp_7, ↓mg_7, ↓mp_8, ↓mg_8, ↓mp_9, ↓mg_9, ↓mp_10, ↓mg_10, ↓mp_11, ↓mg_11, ↓mp_12, ↓mg_12, ↓mp_13, ↓mg_13, ↓mp_14, ↓mg_14, ↓mp_15, ↓mg_15, ↓mp_16, ↓mg_16, ↓mg_17, ↓mp_18, ↓mg_18, ↓mp_19, ↓mg_19, ↓mp_20, ↓mg_20, ↓mp_21, ↓mg_21, ↓mg_22, ↓mg_23, ↓mg_24, ↓mg_25, ↓mg_26, ↓mg_27, ↓mg_28, ↓mg_29, ↓mg_30, ↓mg_31, ↓mg_32, ↓mg_33, ↓mg_34, ↓mp_35, ↓mg_35, ↓mp_36, ↓mg_36, ↓mg_37, ↓mg_38, ↓mg_39, ↓ma_1, ↓ms_1, ↓ma_2, ↓ms_2, ↓ma_3, ↓ms_3, ↓ma_4, ↓ms_4, ↓ma_5, ↓ms_5, ↓ma_6, ↓ms_6, ↓ma_9, ↓ms_9, ↓ma_10, ↓ms_10, ↓ma_11, ↓ms_11, ↓ma_12, ↓ms_12, ↓ma_13, ↓ms_13, ↓ma_14, ↓ms_14, ↓ma_15, ↓ms_15, ↓ma_16, ↓ms_16, ↓ma_17, ↓ms_17, ↓ma_18, ↓ms_18, ↓ma_19, ↓ms_19, ↓ma_20, ↓ms_20, ↓ma_21, ↓ms_21, ↓mo_q', ↓ma_L, ↓ms_L, ↓ma_Z, ↓ms_Z, mF_1, mF_2, mWd_1, mWd_w, mWd_2, mA_1, mA_w, mA_a, mA_v, mV_1, mV_w, mV_a, mV_v, mA_mA, mV_mV, mF_mF, nI_add, nI_cl, vpi, i01, i02, i10, i11, ↓reduceIte, not_true_eq_false, not_false_eq_true, and_true, true_and, ne_eq, Nat.reduceAdd, Nat.reduceMul, Nat.reduceSub, Nat.reduceEqDiff, reduceCtorEq, Nat.add_zero, Nat.zero_add, n0p, ite_true, ite_false, if_true, if_false, nlT, nlF, nleT, nleF, neT, neF, n0F, n0T, pk_sub, pk_mul, nIm1, nIm2, nlZ, nleZ, upd_s, upd_n, pk_uLs, pk_uLn, nar_0, nar_1, nar_n0, nar_n1]
      have e := lay_in (f := τ.2.2.1 11) (r := fun j => τ.2.2.1 11 (30 + j)) (x := 0) (n := n) (j := j) (by omega)
      rw [Nat.zero_add] at e
      rw [e, ht, lay_in (by omega)]
    | succ m ih =>
      intro n hn
      refine t_M_goOn_1 ?_
      have e : lay (τ.2.2.1 11) 0 n (fun j => τ.2.2.1 11 (30 + j)) (30 + n) = τ.2.2.1 11 (30 + n) := lay_out (by omega)
      simp (disch := omega) only [↓i01, ↓i02, ↓xrI_mk, ↓xrV_mk, ↓xrL_mk, ↓xrR_mk, ↓mg_0, ↓mg_1, ↓mp_2, ↓mg_2, ↓mg_3, ↓mg_4, ↓mp_5, ↓mg_5, ↓mp_6, ↓mg_6, ↓mp_7, ↓mg_7, ↓mp_8, ↓mg_8, ↓mp_9, ↓mg_9, ↓mp_10, ↓mg_10, ↓mp_11, ↓mg_11, ↓mp_12, ↓mg_12, ↓mp_13, ↓mg_13, ↓mp_14, ↓mg_14, ↓mp_15, ↓mg_15, ↓mp_16, ↓mg_16, ↓mg_17, ↓mp_18, ↓mg_18, ↓mp_19, ↓mg_19, ↓mp_20, ↓mg_20, ↓mp_21, ↓mg_21, ↓mg_22, ↓mg_23, ↓mg_24, ↓mg_25, ↓mg_26, ↓mg_27, ↓mg_28, ↓mg_29, ↓mg_30, ↓mg_31, ↓mg_32, ↓mg_33, ↓mg_34, ↓mp_35, ↓mg_35, ↓mp_36, ↓mg_36, ↓mg_37, ↓mg_38, ↓mg_39, ↓ma_1, ↓ms_1, ↓ma_2, ↓ms_2, ↓ma_3, ↓ms_3, ↓ma_4, ↓ms_4, ↓ma_5, ↓ms_5, ↓ma_6, ↓ms_6, ↓ma_9, ↓ms_9, ↓ma_10, ↓ms_10, ↓ma_11, ↓ms_11, ↓ma_12, ↓ms_12, ↓ma_13, ↓ms_13, ↓ma_14, ↓ms_14, ↓ma_15, ↓ms_15, ↓ma_16, ↓ms_16, ↓ma_17, ↓ms_17, ↓ma_18, ↓ms_18, ↓ma_19, ↓ms_19, ↓ma_20, ↓ms_20, ↓ma_21, ↓ms_21, ↓mo_q', ↓ma_L, ↓ms_L, ↓ma_Z, ↓ms_Z, mF_1, mF_2, mWd_1, mWd_w, mWd_2, mA_1, mA_w, mA_a, mA_v, mV_1, mV_w, mV_a, mV_v, mA_mA, mV_mV, mF_mF, nI_add, nI_cl, vpi, i01, i02, i10, i11, ↓reduceIte, not_true_eq_false, not_false_eq_true, and_true, true_and, ne_eq, Nat.reduceAdd, Nat.reduceMul, Nat.reduceSub, Nat.reduceEqDiff, reduceCtorEq, Nat.add_zero, Nat.zero_add, n0p, ite_true, ite_false, if_true, if_false, nlT, nlF, nleT, nleF, neT, neF, n0F, n0T, pk_sub, pk_mul, nIm1, nIm2, nlZ, nleZ, upd_s, upd_n, pk_uLs, pk_uLn, nar_0, nar_1, nar_n0, nar_n1, e]
      have := ih (n + 1) (by omega)
      rw [← lay_s, Nat.zero_add] at this
      exact this
  have := loop 30 0 rfl
  rw [lay_0, mA_self] at this
  exact this
end MC8
