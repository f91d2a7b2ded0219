/-! the reference's side of hours, of, agree, agrees, about, feed -/
def kdB (s : aS) : Nat → Int32 := fun i => s.1 (10 + i)
def fsB (s : aS) : Nat → Int32 := fun i => s.1 (20 + i)
/-- an hour -/
def oHour (R : Nat) (s : fS) : fS := ((s.1.1, goS R (rulL s.1 s.2.2.1) s.1.1 (kdB s.1) (fsB s.1) s.1.2.1, (s.1.2.1 :: s.1.2.2).take 40), s.2)
def oHourN (R : Nat) : Nat → fS → fS
  | 0, s => s
  | n + 1, s => oHourN R n (oHour R s)
def oHours (R : Nat) (v : Int32) (s : fS) : Int32 × fS := if ivB v (nI 1) (nI 99) = true then (if s.1.2.1 0 + v ≤ nI 999 then ((oHourN R (cN v) s).1.2.1 0, oHourN R (cN v) s) else (-1, s)) else (-1, s)
theorem rul_hour {R : Nat} {s : fS} : rulL (oHour R s).1 (oHour R s).2.2.1 = rulL s.1 s.2.2.1 := rfl
theorem fs_ok {R : Nat} {s : fS} (ho : okF R s) : ∀ i, i < 9 → 0 ≤ (fsB s.1 i).toInt ∧ (fsB s.1 i).toInt ≤ 9 := fun i hi => iv_9 (ho.2.2.1.2.2.1 i hi).2.1
theorem okF_row {R : Nat} {s : fS} {f : Nat → Int32} {P : List (Nat → Int32)} (ho : okF R s) (hf : rowV R f) (hP : P.length ≤ 40) (hv : ∀ (j : Nat) (g : Nat → Int32), P[j]? = some g → rowV R g) : okF R ((s.1.1, f, P), s.2) :=
  ⟨ho.1, ho.2.1, ⟨ho.2.2.1.1, ho.2.2.1.2.1, ho.2.2.1.2.2.1, ho.2.2.1.2.2.2.1, ho.2.2.1.2.2.2.2.1, hf, hP, hv⟩, ho.2.2.2⟩
theorem goS_V {R : Nat} {l : List (Nat × Term)} {A kd fs f : Nat → Int32} (hR : R ≤ 9) (hl : lieV A) (hf : rowV R f) (h0 : (f 0).toInt < 999) : rowV R (goS R l A kd fs f) := by
  refine ⟨goS_rk hR hl hf.1, goS_cn hf.2.1, ?_⟩
  rw [goS_0, iv_i]
  have h1 := iv_i.mp hf.2.2
  have e : (f 0 + 1).toInt = (f 0).toInt + 1 := by
    rw [Int32.toInt_add]
    have : (0 : Int32).toInt = 0 := rfl
    exact bm32 (by show -2147483648 ≤ (f 0).toInt + 1; omega) (by show (f 0).toInt + 1 < 2147483648; omega)
  rw [e]
  have : (0 : Int32).toInt = 0 := rfl
  rw [nI_i (by omega)] at *
  omega
theorem ok_hour {R : Nat} {s : fS} (ho : okF R s) (h0 : (s.1.2.1 0).toInt < 999) : okF R (oHour R s) := by
  have hs := ho.2.2.1
  refine okF_row ho (goS_V ho.2.1 hs.2.2.2.1 hs.2.2.2.2.2.1 h0) (by rw [List.length_take]; omega) (fun j g hg => ?_)
  have hj : j < 40 := by
    rcases Nat.lt_or_ge j 40 with h | h
    · exact h
    · rw [List.getElem?_eq_none (by rw [List.length_take]; omega)] at hg; exact nomatch hg
  rw [List.getElem?_take_of_lt hj] at hg
  cases j with
  | zero =>
    have hg : s.1.2.1 = g := Option.some.inj hg
    rw [← hg]; exact hs.2.2.2.2.2.1
  | succ j => exact hs.2.2.2.2.2.2.2 j g hg
theorem hour_0 {R : Nat} {s : fS} : (oHour R s).1.2.1 0 = s.1.2.1 0 + 1 := by
  show goS R (rulL s.1 s.2.2.1) s.1.1 (kdB s.1) (fsB s.1) s.1.2.1 0 = _
  exact goS_0
section OM3
variable {sa : Nat → Nat} {d : Nat} {Q : xQ} {q : Nat} {M0 M : xM} {σ : mS} {R : Nat} {s : fS}
/-- the scratch rows hold what was told -/
def told9 (σ : mS) (s : aS) : Prop := ∀ i, i < 9 → σ.2.2.1 9 i = fsB s i ∧ σ.2.2.1 10 i = kdB s i
theorem q_asTold (hm : mR R σ s) (h : ∀ σ', mR R σ' s → told9 σ' s.1 → kp σ σ' → Q none (mM q M0 σ')) : xEv xP (xprim sa) (d + 1) m_M_asTold [.ref q] (mM q M0 σ) Q := by
  refine c_M_asTold (fun σ' e => ?_)
  have hk : kp σ σ' := by
    subst e
    refine ⟨⟨rfl, rfl, rfl, rfl⟩, fun k h1 h4 => ?_⟩
    show (if k = 10 then _ else if k = 9 then _ else _) = _
    rw [if_neg (by omega), if_neg (by omega)]
  refine h σ' (mR_kp hk hm) (fun i hi => ?_) hk
  subst e
  constructor
  · show (if i < 9 then σ.2.2.1 1 (20 + i) else _) = _
    rw [if_pos hi]; exact hm.2.1.1 (20 + i) (by omega) (by omega)
  · show (if i < 9 then σ.2.2.1 1 (10 + i) else _) = _
    rw [if_pos hi]; exact hm.2.1.1 (10 + i) (by omega) (by omega)
theorem op_M_hours (hm : mR R σ s) (ho : okF R s) {v : Int32} (h : ∀ σ', mR R σ' (oHours R v s).2 → Q (some (.int (oHours R v s).1)) (mM q M0 σ')) : xEv xP (xprim sa) (d + 6) m_M_hours [.ref q, .int v] (mM q M0 σ) Q := by
  unfold oHours at h
  have e190 : σ.2.2.1 1 190 = s.1.2.1 0 := hm.2.1.2.2.1 0 (by omega)
  refine t_M_hours (c_M_isIn (fun hi => ?_) (fun hn => ?_))
  · rw [ivB_t hi, if_pos rfl] at h
    simp (disch := omega) only [↓i01, ↓i02, ↓xrI_mk, ↓xrV_mk, ↓xrL_mk, ↓xrR_mk, ↓mg_0, ↓mg_1, ↓mp_2, ↓mg_2, ↓mg_3, ↓mg_4, ↓mp_5, ↓mg_5, ↓mp_6, ↓mg_6, ↓mp_7, ↓mg_7, ↓mp_8, ↓mg_8, ↓mp_9, ↓mg_9, ↓mp_10, ↓mg_10, ↓mp_11, ↓mg_11, ↓mp_12, ↓mg_12, ↓mp_13, ↓mg_13, ↓mp_14, ↓mg_14, ↓mp_15, ↓mg_15, ↓mp_16, ↓mg_16, ↓mg_17, ↓mp_18, ↓mg_18, ↓mp_19, ↓mg_19, ↓mp_20, ↓mg_20, ↓mp_21, ↓mg_21, ↓mg_22, ↓mg_23, ↓mg_24, ↓mg_25, ↓mg_26, ↓mg_27, ↓mg_28, ↓mg_29, ↓mg_30, ↓mg_31, ↓mg_32, ↓mg_33, ↓mg_34, ↓mp_35, ↓mg_35, ↓mp_36, ↓mg_36, ↓mg_37, ↓mg_38, ↓mg_39, ↓ma_1, ↓ms_1, ↓ma_2, ↓ms_2, ↓ma_3, ↓ms_3, ↓ma_4, ↓ms_4, ↓ma_5, ↓ms_5, ↓ma_6, ↓ms_6, ↓ma_9, ↓ms_9, ↓ma_10, ↓ms_10, ↓ma_11, ↓ms_11, ↓ma_12, ↓ms_12, ↓ma_13, ↓ms_13, ↓ma_14, ↓ms_14, ↓ma_15, ↓ms_15, ↓ma_16, ↓ms_16, ↓ma_17, ↓ms_17, ↓ma_18, ↓ms_18, ↓ma_19, ↓ms_19, ↓ma_20, ↓ms_20, ↓ma_21, ↓ms_21, ↓mo_q', ↓ma_L, ↓ms_L, ↓ma_Z, ↓ms_Z, mF_1, mF_2, mWd_1, mWd_w, mWd_2, mA_1, mA_w, mA_a, mA_v, mV_1, mV_w, mV_a, mV_v, mA_mA, mV_mV, mF_mF, nI_add, nI_cl, vpi, i01, i02, i10, i11, ↓reduceIte, not_true_eq_false, not_false_eq_true, and_true, true_and, ne_eq, Nat.reduceAdd, Nat.reduceMul, Nat.reduceSub, Nat.reduceEqDiff, reduceCtorEq, Nat.add_zero, Nat.zero_add, n0p, ite_true, ite_false, if_true, if_false, nlT, nlF, nleT, nleF, neT, neF, n0F, n0T, pk_sub, pk_mul, nIm1, nIm2, nlZ, nleZ, upd_s, upd_n, pk_uLs, pk_uLn, nar_0, nar_1, nar_n0, nar_n1, e190]
    by_cases e : s.1.2.1 0 + v ≤ nI 999
    · rw [if_pos e] at h ⊢
      obtain ⟨n, hn9, rfl⟩ := nI_rng (Int32.le_trans (by decide) hi.1) hi.2 (by omega)
      have hc : cN (nI n) = n := nI_cl (by omega)
      rw [hc] at h
      refine q_asTold hm (fun τ hmτ ht hk => ?_)
      rw [xrV_mk]
      have h0 := iv_i.mp ho.2.2.1.2.2.2.2.2.1.2.2
      rw [nI_i (by omega)] at h0
      have z0 : (0 : Int32).toInt = 0 := rfl
      have hsum : (s.1.2.1 0).toInt + n ≤ 999 := by
        have := Int32.le_iff_toInt_le.mp e
        rw [Int32.toInt_add, nI_i (by omega), nI_i (by omega), bm32 (by omega) (by omega)] at this
        exact this
      have loop : ∀ (m i : Nat), m + i = n → ∀ (τ : mS) (s' : fS), mR R τ s' → okF R s' → told9 τ s'.1 → (s'.1.2.1 0).toInt + m ≤ 999 → oHourN R n s = oHourN R m s' → K_M_hours sa (d + 5) Q 4 [some (.ref q), some (.int (nI n)), some (.int (nI i)), none] [] (mM q M0 τ) (0, 0) := by
        intro m
        induction m with
        | zero =>
          intro i hi τ s' hm' ho' ht' h9' he
          refine t_M_hours_4 ?_
          have e1 : τ.2.2.1 1 190 = s'.1.2.1 0 := hm'.2.1.2.2.1 0 (by omega)
          simp (disch := omega) only [↓i01, ↓i02, ↓xrI_mk, ↓xrV_mk, ↓xrL_mk, ↓xrR_mk, ↓mg_0, ↓mg_1, ↓mp_2, ↓mg_2, ↓mg_3, ↓mg_4, ↓mp_5, ↓mg_5, ↓mp_6, ↓mg_6, ↓mp_7, ↓mg_7, ↓mp_8, ↓mg_8, ↓mp_9, ↓mg_9, ↓mp_10, ↓mg_10, ↓mp_11, ↓mg_11, ↓mp_12, ↓mg_12, ↓mp_13, ↓mg_13, ↓mp_14, ↓mg_14, ↓mp_15, ↓mg_15, ↓mp_16, ↓mg_16, ↓mg_17, ↓mp_18, ↓mg_18, ↓mp_19, ↓mg_19, ↓mp_20, ↓mg_20, ↓mp_21, ↓mg_21, ↓mg_22, ↓mg_23, ↓mg_24, ↓mg_25, ↓mg_26, ↓mg_27, ↓mg_28, ↓mg_29, ↓mg_30, ↓mg_31, ↓mg_32, ↓mg_33, ↓mg_34, ↓mp_35, ↓mg_35, ↓mp_36, ↓mg_36, ↓mg_37, ↓mg_38, ↓mg_39, ↓ma_1, ↓ms_1, ↓ma_2, ↓ms_2, ↓ma_3, ↓ms_3, ↓ma_4, ↓ms_4, ↓ma_5, ↓ms_5, ↓ma_6, ↓ms_6, ↓ma_9, ↓ms_9, ↓ma_10, ↓ms_10, ↓ma_11, ↓ms_11, ↓ma_12, ↓ms_12, ↓ma_13, ↓ms_13, ↓ma_14, ↓ms_14, ↓ma_15, ↓ms_15, ↓ma_16, ↓ms_16, ↓ma_17, ↓ms_17, ↓ma_18, ↓ms_18, ↓ma_19, ↓ms_19, ↓ma_20, ↓ms_20, ↓ma_21, ↓ms_21, ↓mo_q', ↓ma_L, ↓ms_L, ↓ma_Z, ↓ms_Z, mF_1, mF_2, mWd_1, mWd_w, mWd_2, mA_1, mA_w, mA_a, mA_v, mV_1, mV_w, mV_a, mV_v, mA_mA, mV_mV, mF_mF, nI_add, nI_cl, vpi, i01, i02, i10, i11, ↓reduceIte, not_true_eq_false, not_false_eq_true, and_true, true_and, ne_eq, Nat.reduceAdd, Nat.reduceMul, Nat.reduceSub, Nat.reduceEqDiff, reduceCtorEq, Nat.add_zero, Nat.zero_add, n0p, ite_true, ite_false, if_true, if_false, nlT, nlF, nleT, nleF, neT, neF, n0F, n0T, pk_sub, pk_mul, nIm1, nIm2, nlZ, nleZ, upd_s, upd_n, pk_uLs, pk_uLn, nar_0, nar_1, nar_n0, nar_n1, e1]
          rw [he] at h
          exact h τ hm'
        | succ m ih =>
          intro i hi τ s' hm' ho' ht' h9' he
          refine t_M_hours_4 ?_
          simp (disch := omega) only [↓i01, ↓i02, ↓xrI_mk, ↓xrV_mk, ↓xrL_mk, ↓xrR_mk, ↓mg_0, ↓mg_1, ↓mp_2, ↓mg_2, ↓mg_3, ↓mg_4, ↓mp_5, ↓mg_5, ↓mp_6, ↓mg_6, ↓mp_7, ↓mg_7, ↓mp_8, ↓mg_8, ↓mp_9, ↓mg_9, ↓mp_10, ↓mg_10, ↓mp_11, ↓mg_11, ↓mp_12, ↓mg_12, ↓mp_13, ↓mg_13, ↓mp_14, ↓mg_14, ↓mp_15, ↓mg_15, ↓mp_16, ↓mg_16, ↓mg_17, ↓mp_18, ↓mg_18, ↓mp_19, ↓mg_19, ↓mp_20, ↓mg_20, ↓mp_21, ↓mg_21, ↓mg_22, ↓mg_23, ↓mg_24, ↓mg_25, ↓mg_26, ↓mg_27, ↓mg_28, ↓mg_29, ↓mg_30, ↓mg_31, ↓mg_32, ↓mg_33, ↓mg_34, ↓mp_35, ↓mg_35, ↓mp_36, ↓mg_36, ↓mg_37, ↓mg_38, ↓mg_39, ↓ma_1, ↓ms_1, ↓ma_2, ↓ms_2, ↓ma_3, ↓ms_3, ↓ma_4, ↓ms_4, ↓ma_5, ↓ms_5, ↓ma_6, ↓ms_6, ↓ma_9, ↓ms_9, ↓ma_10, ↓ms_10, ↓ma_11, ↓ms_11, ↓ma_12, ↓ms_12, ↓ma_13, ↓ms_13, ↓ma_14, ↓ms_14, ↓ma_15, ↓ms_15, ↓ma_16, ↓ms_16, ↓ma_17, ↓ms_17, ↓ma_18, ↓ms_18, ↓ma_19, ↓ms_19, ↓ma_20, ↓ms_20, ↓ma_21, ↓ms_21, ↓mo_q', ↓ma_L, ↓ms_L, ↓ma_Z, ↓ms_Z, mF_1, mF_2, mWd_1, mWd_w, mWd_2, mA_1, mA_w, mA_a, mA_v, mV_1, mV_w, mV_a, mV_v, mA_mA, mV_mV, mF_mF, nI_add, nI_cl, vpi, i01, i02, i10, i11, ↓reduceIte, not_true_eq_false, not_false_eq_true, and_true, true_and, ne_eq, Nat.reduceAdd, Nat.reduceMul, Nat.reduceSub, Nat.reduceEqDiff, reduceCtorEq, Nat.add_zero, Nat.zero_add, n0p, ite_true, ite_false, if_true, if_false, nlT, nlF, nleT, nleF, neT, neF, n0F, n0T, pk_sub, pk_mul, nIm1, nIm2, nlZ, nleZ, upd_s, upd_n, pk_uLs, pk_uLn, nar_0, nar_1, nar_n0, nar_n1]
          have h40 : s'.1.2.2.length ≤ 40 := ho'.2.2.1.2.2.2.2.2.2.1
          refine c_M_keepHour hm'.2.1.2.1 h40 ?_
          simp (disch := omega) only [↓i01, ↓i02, ↓xrI_mk, ↓xrV_mk, ↓xrL_mk, ↓xrR_mk, ↓mg_0, ↓mg_1, ↓mp_2, ↓mg_2, ↓mg_3, ↓mg_4, ↓mp_5, ↓mg_5, ↓mp_6, ↓mg_6, ↓mp_7, ↓mg_7, ↓mp_8, ↓mg_8, ↓mp_9, ↓mg_9, ↓mp_10, ↓mg_10, ↓mp_11, ↓mg_11, ↓mp_12, ↓mg_12, ↓mp_13, ↓mg_13, ↓mp_14, ↓mg_14, ↓mp_15, ↓mg_15, ↓mp_16, ↓mg_16, ↓mg_17, ↓mp_18, ↓mg_18, ↓mp_19, ↓mg_19, ↓mp_20, ↓mg_20, ↓mp_21, ↓mg_21, ↓mg_22, ↓mg_23, ↓mg_24, ↓mg_25, ↓mg_26, ↓mg_27, ↓mg_28, ↓mg_29, ↓mg_30, ↓mg_31, ↓mg_32, ↓mg_33, ↓mg_34, ↓mp_35, ↓mg_35, ↓mp_36, ↓mg_36, ↓mg_37, ↓mg_38, ↓mg_39, ↓ma_1, ↓ms_1, ↓ma_2, ↓ms_2, ↓ma_3, ↓ms_3, ↓ma_4, ↓ms_4, ↓ma_5, ↓ms_5, ↓ma_6, ↓ms_6, ↓ma_9, ↓ms_9, ↓ma_10, ↓ms_10, ↓ma_11, ↓ms_11, ↓ma_12, ↓ms_12, ↓ma_13, ↓ms_13, ↓ma_14, ↓ms_14, ↓ma_15, ↓ms_15, ↓ma_16, ↓ms_16, ↓ma_17, ↓ms_17, ↓ma_18, ↓ms_18, ↓ma_19, ↓ms_19, ↓ma_20, ↓ms_20, ↓ma_21, ↓ms_21, ↓mo_q', ↓ma_L, ↓ms_L, ↓ma_Z, ↓ms_Z, mF_1, mF_2, mWd_1, mWd_w, mWd_2, mA_1, mA_w, mA_a, mA_v, mV_1, mV_w, mV_a, mV_v, mA_mA, mV_mV, mF_mF, nI_add, nI_cl, vpi, i01, i02, i10, i11, ↓reduceIte, not_true_eq_false, not_false_eq_true, and_true, true_and, ne_eq, Nat.reduceAdd, Nat.reduceMul, Nat.reduceSub, Nat.reduceEqDiff, reduceCtorEq, Nat.add_zero, Nat.zero_add, n0p, ite_true, ite_false, if_true, if_false, nlT, nlF, nleT, nleF, neT, neF, n0F, n0T, pk_sub, pk_mul, nIm1, nIm2, nlZ, nleZ, upd_s, upd_n, pk_uLs, pk_uLn, nar_0, nar_1, nar_n0, nar_n1]
          have hk1 := rA_keep (A := τ.2.2.1 1) (B := s'.1.1) (f := s'.1.2.1) (P := s'.1.2.2) hm'.2.1 h40
          have hf0 := iv_i.mp ho'.2.2.1.2.2.2.2.2.1.2.2
          rw [nI_i (by omega)] at hf0
          have lie' : lieV (keepA (τ.2.2.1 1) s'.1.2.2.length) := by
            intro j hj
            rw [hk1.1 (40 + 3 * j) (by omega) (by omega), hk1.1 (41 + 3 * j) (by omega) (by omega)]
            exact ho'.2.2.1.2.2.2.1 j hj
          have hrl : rul (mA τ 1 (keepA (τ.2.2.1 1) s'.1.2.2.length)) (rulL s'.1 s'.2.2.1) := by
            have := rul_of hm' ho'
            unfold rul at *
            have e1 : (mA τ 1 (keepA (τ.2.2.1 1) s'.1.2.2.length)).2.2.1 1 1 = τ.2.2.1 1 1 := (hk1.1 1 (by omega) (by omega)).trans (hm'.2.1.1 1 (by omega) (by omega)).symm
            rw [e1]
            exact this
          refine c_M_go (kd := kdB s'.1) (fs := fsB s'.1) (f := s'.1.2.1) (show (mA τ 1 _).1 2 = nI R from hm'.1) ho'.1 ho'.2.1 (kr := 1) (x := 190) (ke := 11) (y := 30) rfl (by decide) (by decide) (by decide) (Or.inl rfl) (by decide) (Or.inl (by decide)) rfl (fun i hi => (ht' i hi).2) (fun i hi => (ht' i hi).1) (fun j hj => hk1.2.2.1 j hj) (rb_of ho'.2.2.1.2.2.2.2.2.1.1 (by omega)) hrl (fs_ok ho') lie' (fun τ2 s2 r2 => ?_)
          rw [xrV_mk]
          have e21 : τ2.2.2.1 1 = keepA (τ.2.2.1 1) s'.1.2.2.length := s2.2.2 1 (by decide)
          have hgo : goS R (rulL s'.1 s'.2.2.1) (keepA (τ.2.2.1 1) s'.1.2.2.length) (kdB s'.1) (fsB s'.1) s'.1.2.1 = (oHour R s').1.2.1 := goS_A (fun j h1 h2 => hk1.1 j (by omega) (by omega)) ho'.2.1 lie'
          have cp : ∀ (m' e : Nat), m' + e = 30 → K_M_hours sa (d + 5) Q 6 [some (.ref q), some (.int (nI n)), some (.int (nI i)), some (.int (nI e))] [] (mM q M0 (mA τ2 1 (lay (τ2.2.2.1 1) 190 e (fun j => τ2.2.2.1 11 (30 + j))))) (0, 0) := by
            intro m'
            induction m' with
            | zero =>
              intro e he'
              refine t_M_hours_6 ?_
              simp (disch := omega) only [↓i01, ↓i02, ↓xrI_mk, ↓xrV_mk, ↓xrL_mk, ↓xrR_mk, ↓mg_0, ↓mg_1, ↓mp_2, ↓mg_2, ↓mg_3, ↓mg_4, ↓mp_5, ↓mg_5, ↓mp_6, ↓mg_6, ↓mp_7, ↓mg_7, ↓mp_8, ↓mg_8, ↓mp_9, ↓mg_9, ↓mp_10, ↓mg_10, ↓mp_11, ↓mg_11, ↓mp_12, ↓mg_12, ↓mp_13, ↓mg_13, ↓mp_14, ↓mg_14, ↓mp_15, ↓mg_15, ↓mp_16, ↓mg_16, ↓mg_17, ↓mp_18, ↓mg_18, ↓mp_19, ↓mg_19, ↓mp_20, ↓mg_20, ↓mp_21, ↓mg_21, ↓mg_22, ↓mg_23, ↓mg_24, ↓mg_25, ↓mg_26, ↓mg_27, ↓mg_28, ↓mg_29, ↓mg_30, ↓mg_31, ↓mg_32, ↓mg_33, ↓mg_34, ↓mp_35, ↓mg_35, ↓mp_36, ↓mg_36, ↓mg_37, ↓mg_38, ↓mg_39, ↓ma_1, ↓ms_1, ↓ma_2, ↓ms_2, ↓ma_3, ↓ms_3, ↓ma_4, ↓ms_4, ↓ma_5, ↓ms_5, ↓ma_6, ↓ms_6, ↓ma_9, ↓ms_9, ↓ma_10, ↓ms_10, ↓ma_11, ↓ms_11, ↓ma_12, ↓ms_12, ↓ma_13, ↓ms_13, ↓ma_14, ↓ms_14, ↓ma_15, ↓ms_15, ↓ma_16, ↓ms_16, ↓ma_17, ↓ms_17, ↓ma_18, ↓ms_18, ↓ma_19, ↓ms_19, ↓ma_20, ↓ms_20, ↓ma_21, ↓ms_21, ↓mo_q', ↓ma_L, ↓ms_L, ↓ma_Z, ↓ms_Z, mF_1, mF_2, mWd_1, mWd_w, mWd_2, mA_1, mA_w, mA_a, mA_v, mV_1, mV_w, mV_a, mV_v, mA_mA, mV_mV, mF_mF, nI_add, nI_cl, vpi, i01, i02, i10, i11, ↓reduceIte, not_true_eq_false, not_false_eq_true, and_true, true_and, ne_eq, Nat.reduceAdd, Nat.reduceMul, Nat.reduceSub, Nat.reduceEqDiff, reduceCtorEq, Nat.add_zero, Nat.zero_add, n0p, ite_true, ite_false, if_true, if_false, nlT, nlF, nleT, nleF, neT, neF, n0F, n0T, pk_sub, pk_mul, nIm1, nIm2, nlZ, nleZ, upd_s, upd_n, pk_uLs, pk_uLn, nar_0, nar_1, nar_n0, nar_n1]
              rw [show e = 30 by omega]
              have hnow := rA_now (A := τ2.2.2.1 1) (g := (oHour R s').1.2.1) (r := fun j => τ2.2.2.1 11 (30 + j)) (s := (s'.1.1, s'.1.2.1, (s'.1.2.1 :: s'.1.2.2).take 40)) (by rw [e21]; exact hk1) (fun e he => by
                show τ2.2.2.1 11 (30 + e) = _
                rw [r2, lay_in (by omega)]
                exact congrFun hgo e)
              have hk2 : kp (mA τ 1 (keepA (τ.2.2.1 1) s'.1.2.2.length)) τ2 := kp_sm s2 (by decide)
              have hmA : mR R (mA τ 1 (keepA (τ.2.2.1 1) s'.1.2.2.length)) ((s'.1.1, s'.1.2.1, (s'.1.2.1 :: s'.1.2.2).take 40), s'.2) := mR_A hm' hk1 rfl
              have hm2 := mR_kp hk2 hmA
              have hm3 : mR R (mA τ2 1 (lay (τ2.2.2.1 1) 190 30 (fun j => τ2.2.2.1 11 (30 + j)))) (oHour R s') := mR_A (s := ((s'.1.1, s'.1.2.1, (s'.1.2.1 :: s'.1.2.2).take 40), s'.2)) (a := (oHour R s').1) hm2 hnow rfl
              refine ih (i + 1) (by omega) _ (oHour R s') hm3 (ok_hour ho' (by omega)) (fun j hj => ?_) ?_ he
              · have a9 : τ2.2.2.1 9 = τ.2.2.1 9 := s2.2.2 9 (by decide)
                have a10 : τ2.2.2.1 10 = τ.2.2.1 10 := s2.2.2 10 (by decide)
                show τ2.2.2.1 9 j = _ ∧ τ2.2.2.1 10 j = _
                rw [a9, a10]
                exact ht' j hj
              · rw [hour_0, Int32.toInt_add]
                have : (1 : Int32).toInt = 1 := rfl
                rw [this, bm32 (by omega) (by omega)]
                omega
            | succ m' ihc =>
              intro e he'
              refine t_M_hours_6 ?_
              simp (disch := omega) only [↓i01, ↓i02, ↓xrI_mk, ↓xrV_mk, ↓xrL_mk, ↓xrR_mk, ↓mg_0, ↓mg_1, ↓mp_2, ↓mg_2, ↓mg_3, ↓mg_4, ↓mp_5, ↓mg_5, ↓mp_6, ↓mg_6, ↓mp_7, ↓mg_7, ↓mp_8, ↓mg_8, ↓mp_9, ↓mg_9, ↓mp_10, ↓mg_10, ↓mp_11, ↓mg_11, ↓mp_12, ↓mg_12, ↓mp_13, ↓mg_13, ↓mp_14, ↓mg_14, ↓mp_15, ↓mg_15, ↓mp_16, ↓mg_16, ↓mg_17, ↓mp_18, ↓mg_18, ↓mp_19, ↓mg_19, ↓mp_20, ↓mg_20, ↓mp_21, ↓mg_21, ↓mg_22, ↓mg_23, ↓mg_24, ↓mg_25, ↓mg_26, ↓mg_27, ↓mg_28, ↓mg_29, ↓mg_30, ↓mg_31, ↓mg_32, ↓mg_33, ↓mg_34, ↓mp_35, ↓mg_35, ↓mp_36, ↓mg_36, ↓mg_37, ↓mg_38, ↓mg_39, ↓ma_1, ↓ms_1, ↓ma_2, ↓ms_2, ↓ma_3, ↓ms_3, ↓ma_4, ↓ms_4, ↓ma_5, ↓ms_5, ↓ma_6, ↓ms_6, ↓ma_9, ↓ms_9, ↓ma_10, ↓ms_10, ↓ma_11, ↓ms_11, ↓ma_12, ↓ms_12, ↓ma_13, ↓ms_13, ↓ma_14, ↓ms_14, ↓ma_15, ↓ms_15, ↓ma_16, ↓ms_16, ↓ma_17, ↓ms_17, ↓ma_18, ↓ms_18, ↓ma_19, ↓ms_19, ↓ma_20, ↓ms_20, ↓ma_21, ↓ms_21, ↓mo_q', ↓ma_L, ↓ms_L, ↓ma_Z, ↓ms_Z, mF_1, mF_2, mWd_1, mWd_w, mWd_2, mA_1, mA_w, mA_a, mA_v, mV_1, mV_w, mV_a, mV_v, mA_mA, mV_mV, mF_mF, nI_add, nI_cl, vpi, i01, i02, i10, i11, ↓reduceIte, not_true_eq_false, not_false_eq_true, and_true, true_and, ne_eq, Nat.reduceAdd, Nat.reduceMul, Nat.reduceSub, Nat.reduceEqDiff, reduceCtorEq, Nat.add_zero, Nat.zero_add, n0p, ite_true, ite_false, if_true, if_false, nlT, nlF, nleT, nleF, neT, neF, n0F, n0T, pk_sub, pk_mul, nIm1, nIm2, nlZ, nleZ, upd_s, upd_n, pk_uLs, pk_uLn, nar_0, nar_1, nar_n0, nar_n1]
              have := ihc (e + 1) (by omega)
              rw [← lay_s] at this
              exact this
          have := cp 30 0 rfl
          rw [lay_0, mA_self] at this
          exact this
      exact loop n 0 (by omega) τ s hmτ ho ht (by omega) rfl
    · rw [if_neg e] at h ⊢
      exact h _ hm
  · rw [ivB_f hn, if_neg (by decide)] at h
    simp (disch := omega) only [↓i01, ↓i02, ↓xrI_mk, ↓xrV_mk, ↓xrL_mk, ↓xrR_mk, ↓mg_0, ↓mg_1, ↓mp_2, ↓mg_2, ↓mg_3, ↓mg_4, ↓mp_5, ↓mg_5, ↓mp_6, ↓mg_6, ↓mp_7, ↓mg_7, ↓mp_8, ↓mg_8, ↓mp_9, ↓mg_9, ↓mp_10, ↓mg_10, ↓mp_11, ↓mg_11, ↓mp_12, ↓mg_12, ↓mp_13, ↓mg_13, ↓mp_14, ↓mg_14, ↓mp_15, ↓mg_15, ↓mp_16, ↓mg_16, ↓mg_17, ↓mp_18, ↓mg_18, ↓mp_19, ↓mg_19, ↓mp_20, ↓mg_20, ↓mp_21, ↓mg_21, ↓mg_22, ↓mg_23, ↓mg_24, ↓mg_25, ↓mg_26, ↓mg_27, ↓mg_28, ↓mg_29, ↓mg_30, ↓mg_31, ↓mg_32, ↓mg_33, ↓mg_34, ↓mp_35, ↓mg_35, ↓mp_36, ↓mg_36, ↓mg_37, ↓mg_38, ↓mg_39, ↓ma_1, ↓ms_1, ↓ma_2, ↓ms_2, ↓ma_3, ↓ms_3, ↓ma_4, ↓ms_4, ↓ma_5, ↓ms_5, ↓ma_6, ↓ms_6, ↓ma_9, ↓ms_9, ↓ma_10, ↓ms_10, ↓ma_11, ↓ms_11, ↓ma_12, ↓ms_12, ↓ma_13, ↓ms_13, ↓ma_14, ↓ms_14, ↓ma_15, ↓ms_15, ↓ma_16, ↓ms_16, ↓ma_17, ↓ms_17, ↓ma_18, ↓ms_18, ↓ma_19, ↓ms_19, ↓ma_20, ↓ms_20, ↓ma_21, ↓ms_21, ↓mo_q', ↓ma_L, ↓ms_L, ↓ma_Z, ↓ms_Z, mF_1, mF_2, mWd_1, mWd_w, mWd_2, mA_1, mA_w, mA_a, mA_v, mV_1, mV_w, mV_a, mV_v, mA_mA, mV_mV, mF_mF, nI_add, nI_cl, vpi, i01, i02, i10, i11, ↓reduceIte, not_true_eq_false, not_false_eq_true, and_true, true_and, ne_eq, Nat.reduceAdd, Nat.reduceMul, Nat.reduceSub, Nat.reduceEqDiff, reduceCtorEq, Nat.add_zero, Nat.zero_add, n0p, ite_true, ite_false, if_true, if_false, nlT, nlF, nleT, nleF, neT, neF, n0F, n0T, pk_sub, pk_mul, nIm1, nIm2, nlZ, nleZ, upd_s, upd_n, pk_uLs, pk_uLn, nar_0, nar_1, nar_n0, nar_n1]
    exact h _ hm
end OM3
