/-! the reference: ranks, the pile (the top first), what was written -/
def rkN (p : Nat) : Nat := if 40 ≤ p then 0 else if p = 22 then 1 else if p = 21 then 2 else if p = 20 then 3 else if 10 ≤ p then 4 else if p = 2 then 7 else if 5 ≤ p then 6 else 5
def mkP : List Nat → Int32
  | [] => -1
  | p :: P => if 40 ≤ p then nI P.length else mkP P
def koN (e : Bool) : List Nat → Nat
  | [] => if e then 41 else 40
  | p :: P => if 40 ≤ p then p else koN e P
def cpB : List Nat → Bool
  | [] => false
  | p :: P => if 4 < rkN p then cpB P else decide (rkN p = 4)
def cntO : List Nat → Nat
  | [] => 0
  | p :: P => (if p = 2 ∨ p = 20 then 1 else 0) + cntO P
def pileR (σ : mS) (P : List Nat) : Prop := σ.1 18 = nI P.length ∧ P.length ≤ 160 ∧ ∀ (j p : Nat), P[j]? = some p → σ.2.2.1 5 (P.length - 1 - j) = nI p ∧ p < 64
abbrev cD : Type := List (Nat × Int32)
def outR (σ : mS) (t0 : Nat) (cd : cD) : Prop := σ.1 13 = nI t0 ∧ σ.1 15 = nI cd.length ∧ cAt (σ.2.2.1 3) (t0 + 40) 0 cd ∧ t0 + 645 ≤ 2580
def ops (S : List Nat) : cD := S.map (fun p => (p, 0))
/-- the reading leaves the rest as it was -/
def frP (t0 : Nat) (σ σ' : mS) : Prop := (∀ j, j ∉ [8, 9, 10, 11, 15, 18, 19, 20] → σ'.1 j = σ.1 j) ∧ (∀ k, k ≠ 3 → k ≠ 5 → σ'.2.2.1 k = σ.2.2.1 k) ∧ ∀ j, j < t0 + 40 ∨ t0 + 645 ≤ j → σ'.2.2.1 3 j = σ.2.2.1 3 j
theorem frP_r {t0 : Nat} {σ : mS} : frP t0 σ σ := ⟨fun _ _ => rfl, fun _ _ _ => rfl, fun _ _ => rfl⟩
theorem frP_t {t0 : Nat} {σ σ' σ'' : mS} (h : frP t0 σ σ') (h' : frP t0 σ' σ'') : frP t0 σ σ'' := ⟨fun j hj => (h'.1 j hj).trans (h.1 j hj), fun k h3 h5 => (h'.2.1 k h3 h5).trans (h.2.1 k h3 h5), fun j hj => (h'.2.2 j hj).trans (h.2.2 j hj)⟩
theorem frP_F {t0 : Nat} {σ : mS} {j : Nat} {v : Int32} (h : j ∈ [8, 9, 10, 11, 15, 18, 19, 20]) : frP t0 σ (mF σ j v) := ⟨(smF_F (v := v) h).1, fun _ _ _ => rfl, fun _ _ => rfl⟩
theorem frP_sm {t0 : Nat} {F : List Nat} {σ σ' : mS} (h : smF F σ σ') (hF : ∀ k, k ∈ F → k ∈ [8, 9, 10, 11, 15, 18, 19, 20]) : frP t0 σ σ' := ⟨(smF_w h hF).1, fun k _ _ => by rw [h.2], fun j _ => by rw [h.2]⟩
theorem frP_5 {t0 : Nat} {σ : mS} {f : Nat → Int32} : frP t0 σ (mA σ 5 f) := ⟨fun _ _ => rfl, fun k _ h5 => if_neg h5, fun _ _ => rfl⟩
theorem tpR_P {t0 : Nat} {σ σ' : mS} {b : Nat → Nat} {n : Nat} (h : frP t0 σ σ') (ht : tpR σ b n) : tpR σ' b n := by
  unfold tpR
  rw [h.1 5 (by decide), h.2.1 4 (by decide) (by decide)]
  exact ht
theorem mkP_a {P : List Nat} : ∀ S : List Nat, (∀ p, p ∈ S → p < 40) → mkP (S ++ P) = mkP P
  | [], _ => rfl
  | p :: S, h => by
    show (if 40 ≤ p then _ else mkP (S ++ P)) = _
    rw [if_neg (by have := h p List.mem_cons_self; omega)]
    exact mkP_a S (fun p hp => h p (List.mem_cons_of_mem _ hp))
theorem koN_a {e : Bool} {P : List Nat} : ∀ S : List Nat, (∀ p, p ∈ S → p < 40) → koN e (S ++ P) = koN e P
  | [], _ => rfl
  | p :: S, h => by
    show (if 40 ≤ p then _ else koN e (S ++ P)) = _
    rw [if_neg (by have := h p List.mem_cons_self; omega)]
    exact koN_a S (fun p hp => h p (List.mem_cons_of_mem _ hp))
theorem cpB_a {P : List Nat} : ∀ S : List Nat, (∀ p, p ∈ S → 4 < rkN p) → cpB (S ++ P) = cpB P
  | [], _ => rfl
  | p :: S, h => by
    show (if 4 < rkN p then cpB (S ++ P) else _) = _
    rw [if_pos (h p List.mem_cons_self)]
    exact cpB_a S (fun p hp => h p (List.mem_cons_of_mem _ hp))
theorem cpB_t {P : List Nat} : ∀ S : List Nat, cpB S = true → cpB (S ++ P) = true
  | [], h => nomatch h
  | p :: S, h => by
    show (if 4 < rkN p then cpB (S ++ P) else _) = true
    have h : (if 4 < rkN p then cpB S else decide (rkN p = 4)) = true := h
    by_cases e : 4 < rkN p
    · rw [if_pos e] at h ⊢; exact cpB_t S h
    · rw [if_neg e] at h ⊢; exact h
theorem cntO_a (P : List Nat) : ∀ S : List Nat, cntO (S ++ P) = cntO S + cntO P
  | [] => by show cntO P = 0 + cntO P; omega
  | p :: S => by
    show _ + cntO (S ++ P) = _ + cntO S + cntO P
    rw [cntO_a P S]; omega
theorem rkN_40 {p : Nat} (h : 1 ≤ rkN p) : p < 40 := by
  unfold rkN at h
  by_cases e : 40 ≤ p
  · rw [if_pos e] at h; omega
  · omega
theorem pile_tl {σ : mS} {p : Nat} {P : List Nat} (h : pileR σ (p :: P)) : σ.2.2.1 5 P.length = nI p ∧ p < 64 := by
  have := h.2.2 0 p rfl
  rw [show (p :: P).length - 1 - 0 = P.length by rw [List.length_cons]; omega] at this
  exact this
theorem pile_pop {σ : mS} {p : Nat} {P : List Nat} (h : pileR σ (p :: P)) : pileR (mF σ 18 (nI P.length)) P := by
  have hl := h.2.1
  rw [List.length_cons] at hl
  refine ⟨rfl, by omega, fun j x hx => ?_⟩
  have := h.2.2 (j + 1) x hx
  rw [show (p :: P).length - 1 - (j + 1) = P.length - 1 - j by rw [List.length_cons]; omega] at this
  exact this
theorem pile_push {σ : mS} {p : Nat} {P : List Nat} (h : pileR σ P) (hl : P.length < 160) (hp : p < 64) : pileR (mF (mA σ 5 (upd (σ.2.2.1 5) P.length (nI p))) 18 (nI (P.length + 1))) (p :: P) := by
  refine ⟨rfl, by rw [List.length_cons]; omega, fun j x hx => ?_⟩
  show upd (σ.2.2.1 5) P.length (nI p) ((p :: P).length - 1 - j) = _ ∧ _
  rw [List.length_cons]
  cases j with
  | zero =>
    have hx : p = x := Option.some.inj hx
    subst hx
    rw [show P.length + 1 - 1 - 0 = P.length by omega, upd_s]
    exact ⟨rfl, hp⟩
  | succ j =>
    have hx : P[j]? = some x := hx
    have := gt_lt hx
    rw [upd_n (by omega), show P.length + 1 - 1 - (j + 1) = P.length - 1 - j by omega]
    exact h.2.2 j x hx
theorem pile_F {σ : mS} {P : List Nat} {j : Nat} {v : Int32} (h : pileR σ P) (hj : j ≠ 18) : pileR (mF σ j v) P := by
  refine ⟨?_, h.2⟩
  show (if 18 = j then v else σ.1 18) = _
  rw [if_neg (Ne.symm hj)]; exact h.1
theorem pile_sm {F : List Nat} {σ σ' : mS} {P : List Nat} (hs : smF F σ σ') (h18 : 18 ∉ F) (h : pileR σ P) : pileR σ' P := by
  unfold pileR
  rw [hs.1 18 h18, hs.2]
  exact h
theorem out_sm {F : List Nat} {σ σ' : mS} {t0 : Nat} {cd : cD} (hs : smF F σ σ') (h13 : 13 ∉ F) (h15 : 15 ∉ F) (h : outR σ t0 cd) : outR σ' t0 cd := by
  unfold outR
  rw [hs.1 13 h13, hs.1 15 h15, hs.2]
  exact h
theorem out_F {σ : mS} {t0 : Nat} {cd : cD} {j : Nat} {v : Int32} (h : outR σ t0 cd) (h13 : j ≠ 13) (h15 : j ≠ 15) : outR (mF σ j v) t0 cd := by
  refine ⟨?_, ?_, h.2.2⟩
  · show (if 13 = j then v else σ.1 13) = _
    rw [if_neg (Ne.symm h13)]; exact h.1
  · show (if 15 = j then v else σ.1 15) = _
    rw [if_neg (Ne.symm h15)]; exact h.2.1
/-- one more is written -/
def emS (σ : mS) (t0 w : Nat) (o v : Int32) : mS := mF (mA σ 3 (upd (upd (σ.2.2.1 3) (t0 + 40 + 2 * w) o) (t0 + 40 + 2 * w + 1) v)) 15 (nI (w + 1))
theorem out_em {σ : mS} {t0 : Nat} {cd : cD} {o : Nat} {v : Int32} (h : outR σ t0 cd) : outR (emS σ t0 cd.length (nI o) v) t0 (cd ++ [(o, v)]) := by
  refine ⟨h.1, ?_, fun j p hp => ?_, h.2.2.2⟩
  · show nI _ = _
    rw [List.length_append, List.length_singleton]
  · show upd (upd (σ.2.2.1 3) (t0 + 40 + 2 * cd.length) (nI o)) (t0 + 40 + 2 * cd.length + 1) v (t0 + 40 + 2 * (0 + j)) = _ ∧ upd (upd (σ.2.2.1 3) (t0 + 40 + 2 * cd.length) (nI o)) (t0 + 40 + 2 * cd.length + 1) v (t0 + 40 + 2 * (0 + j) + 1) = _
    rcases gt_app hp with hp | ⟨e1, e2⟩
    · have hj := gt_lt hp
      have := h.2.2.1 j p hp
      rw [upd_n (by omega), upd_n (by omega), upd_n (by omega), upd_n (by omega)]
      exact this
    · subst e1 e2
      rw [Nat.zero_add, upd_n (by omega), upd_s, upd_s]
      exact ⟨rfl, rfl⟩
theorem fr_em {σ : mS} {t0 w : Nat} {o v : Int32} (hw : w ≤ 301) : frP t0 σ (emS σ t0 w o v) := by
  refine ⟨fun j hj => ?_, fun k h3 _ => if_neg h3, fun j hj => ?_⟩
  · show (if j = 15 then _ else σ.1 j) = _
    rw [if_neg (fun e => hj (by rw [e]; decide))]
  · show upd (upd (σ.2.2.1 3) (t0 + 40 + 2 * w) o) (t0 + 40 + 2 * w + 1) v j = _
    rw [upd_n (by omega), upd_n (by omega)]
theorem pile_em {σ : mS} {t0 w : Nat} {o v : Int32} {P : List Nat} (h : pileR σ P) : pileR (emS σ t0 w o v) P := h
theorem sub1 (x : Int32) : x - nI 1 = x + (-1) := Int32.sub_eq_add_neg x (nI 1)
section MP
variable {sa : Nat → Nat} {d : Nat} {Q : xQ} {q : Nat} {M0 M : xM} {σ : mS} {b : Nat → Nat} {n p T e v t0 : Nat} {P : List Nat} {cd : cD}
theorem c_M_emit (ho : outR σ t0 cd) (hl : cd.length ≤ 301) {o : Nat} {v : Int32} (h : Q none (mM q M0 (emS σ t0 cd.length (nI o) v))) : xEv xP (xprim sa) (d + 1) m_M_emit [.ref q, .int (nI o), .int v] (mM q M0 σ) Q := by
  have h13 := ho.1
  have h15 := ho.2.1
  have h4 := ho.2.2.2
  refine t_M_emit ?_
  simp (disch := omega) only [↓i01, ↓i02, ↓xrI_mk, ↓xrV_mk, ↓xrL_mk, ↓xrR_mk, ↓mg_0, ↓mg_1, ↓mp_2, ↓mg_2, ↓mg_3, ↓mg_4, ↓mp_5, ↓mg_5, ↓mp_6, ↓mg_6, ↓mp_7, ↓mg_7, ↓mp_8, ↓mg_8, ↓mp_9, ↓mg_9, ↓mp_10, ↓mg_10, ↓mp_11, ↓mg_11, ↓mp_12, ↓mg_12, ↓mp_13, ↓mg_13, ↓mp_14, ↓mg_14, ↓mp_15, ↓mg_15, ↓mp_16, ↓mg_16, ↓mg_17, ↓mp_18, ↓mg_18, ↓mp_19, ↓mg_19, ↓mp_20, ↓mg_20, ↓mp_21, ↓mg_21, ↓mg_22, ↓mg_23, ↓mg_24, ↓mg_25, ↓mg_26, ↓mg_27, ↓mg_28, ↓mg_29, ↓mg_30, ↓mg_31, ↓mg_32, ↓mg_33, ↓mg_34, ↓mp_35, ↓mg_35, ↓mp_36, ↓mg_36, ↓mg_37, ↓mg_38, ↓mg_39, ↓ma_1, ↓ms_1, ↓ma_2, ↓ms_2, ↓ma_3, ↓ms_3, ↓ma_4, ↓ms_4, ↓ma_5, ↓ms_5, ↓ma_6, ↓ms_6, ↓ma_9, ↓ms_9, ↓ma_10, ↓ms_10, ↓ma_11, ↓ms_11, ↓ma_12, ↓ms_12, ↓ma_13, ↓ms_13, ↓ma_14, ↓ms_14, ↓ma_15, ↓ms_15, ↓ma_16, ↓ms_16, ↓ma_17, ↓ms_17, ↓ma_18, ↓ms_18, ↓ma_19, ↓ms_19, ↓ma_20, ↓ms_20, ↓ma_21, ↓ms_21, ↓mo_q', ↓ma_L, ↓ms_L, ↓ma_Z, ↓ms_Z, mF_1, mF_2, mWd_1, mWd_w, mWd_2, mA_1, mA_w, mA_a, mA_v, mV_1, mV_w, mV_a, mV_v, mA_mA, mV_mV, mF_mF, nI_add, nI_cl, vpi, i01, i02, i10, i11, ↓reduceIte, not_true_eq_false, not_false_eq_true, and_true, true_and, ne_eq, Nat.reduceAdd, Nat.reduceMul, Nat.reduceSub, Nat.reduceEqDiff, reduceCtorEq, Nat.add_zero, Nat.zero_add, n0p, ite_true, ite_false, if_true, if_false, nlT, nlF, nleT, nleF, neT, neF, n0F, n0T, pk_sub, pk_mul, nIm1, nIm2, nlZ, nleZ, upd_s, upd_n, pk_uLs, pk_uLn, nar_0, nar_1, nar_n0, nar_n1, h13, h15]
  exact h
theorem c_M_push (hP : pileR σ P) (hl : P.length < 160) {p : Nat} (h : Q none (mM q M0 (mF (mA σ 5 (upd (σ.2.2.1 5) P.length (nI p))) 18 (nI (P.length + 1))))) : xEv xP (xprim sa) (d + 1) m_M_push [.ref q, .int (nI p)] (mM q M0 σ) Q := by
  have h18 := hP.1
  refine t_M_push ?_
  simp (disch := omega) only [↓i01, ↓i02, ↓xrI_mk, ↓xrV_mk, ↓xrL_mk, ↓xrR_mk, ↓mg_0, ↓mg_1, ↓mp_2, ↓mg_2, ↓mg_3, ↓mg_4, ↓mp_5, ↓mg_5, ↓mp_6, ↓mg_6, ↓mp_7, ↓mg_7, ↓mp_8, ↓mg_8, ↓mp_9, ↓mg_9, ↓mp_10, ↓mg_10, ↓mp_11, ↓mg_11, ↓mp_12, ↓mg_12, ↓mp_13, ↓mg_13, ↓mp_14, ↓mg_14, ↓mp_15, ↓mg_15, ↓mp_16, ↓mg_16, ↓mg_17, ↓mp_18, ↓mg_18, ↓mp_19, ↓mg_19, ↓mp_20, ↓mg_20, ↓mp_21, ↓mg_21, ↓mg_22, ↓mg_23, ↓mg_24, ↓mg_25, ↓mg_26, ↓mg_27, ↓mg_28, ↓mg_29, ↓mg_30, ↓mg_31, ↓mg_32, ↓mg_33, ↓mg_34, ↓mp_35, ↓mg_35, ↓mp_36, ↓mg_36, ↓mg_37, ↓mg_38, ↓mg_39, ↓ma_1, ↓ms_1, ↓ma_2, ↓ms_2, ↓ma_3, ↓ms_3, ↓ma_4, ↓ms_4, ↓ma_5, ↓ms_5, ↓ma_6, ↓ms_6, ↓ma_9, ↓ms_9, ↓ma_10, ↓ms_10, ↓ma_11, ↓ms_11, ↓ma_12, ↓ms_12, ↓ma_13, ↓ms_13, ↓ma_14, ↓ms_14, ↓ma_15, ↓ms_15, ↓ma_16, ↓ms_16, ↓ma_17, ↓ms_17, ↓ma_18, ↓ms_18, ↓ma_19, ↓ms_19, ↓ma_20, ↓ms_20, ↓ma_21, ↓ms_21, ↓mo_q', ↓ma_L, ↓ms_L, ↓ma_Z, ↓ms_Z, mF_1, mF_2, mWd_1, mWd_w, mWd_2, mA_1, mA_w, mA_a, mA_v, mV_1, mV_w, mV_a, mV_v, mA_mA, mV_mV, mF_mF, nI_add, nI_cl, vpi, i01, i02, i10, i11, ↓reduceIte, not_true_eq_false, not_false_eq_true, and_true, true_and, ne_eq, Nat.reduceAdd, Nat.reduceMul, Nat.reduceSub, Nat.reduceEqDiff, reduceCtorEq, Nat.add_zero, Nat.zero_add, n0p, ite_true, ite_false, if_true, if_false, nlT, nlF, nleT, nleF, neT, neF, n0F, n0T, pk_sub, pk_mul, nIm1, nIm2, nlZ, nleZ, upd_s, upd_n, pk_uLs, pk_uLn, nar_0, nar_1, nar_n0, nar_n1, h18]
  exact h
theorem c_M_rank {p : Nat} (hp : p < 64) (h : Q (some (.int (nI (rkN p)))) M) : xEv xP (xprim sa) (d + 1) m_M_rank [.int (nI p)] M Q := by
  refine t_M_rank ?_
  unfold rkN at h
  by_cases e1 : 40 ≤ p
  · rw [if_pos e1] at h
    simp (disch := omega) only [↓i01, ↓i02, ↓xrI_mk, ↓xrV_mk, ↓xrL_mk, ↓xrR_mk, ↓mg_0, ↓mg_1, ↓mp_2, ↓mg_2, ↓mg_3, ↓mg_4, ↓mp_5, ↓mg_5, ↓mp_6, ↓mg_6, ↓mp_7, ↓mg_7, ↓mp_8, ↓mg_8, ↓mp_9, ↓mg_9, ↓mp_10, ↓mg_10, ↓mp_11, ↓mg_11, ↓mp_12, ↓mg_12, ↓mp_13, ↓mg_13, ↓mp_14, ↓mg_14, ↓mp_15, ↓mg_15, ↓mp_16, ↓mg_16, ↓mg_17, ↓mp_18, ↓mg_18, ↓mp_19, ↓mg_19, ↓mp_20, ↓mg_20, ↓mp_21, ↓mg_21, ↓mg_22, ↓mg_23, ↓mg_24, ↓mg_25, ↓mg_26, ↓mg_27, ↓mg_28, ↓mg_29, ↓mg_30, ↓mg_31, ↓mg_32, ↓mg_33, ↓mg_34, ↓mp_35, ↓mg_35, ↓mp_36, ↓mg_36, ↓mg_37, ↓mg_38, ↓mg_39, ↓ma_1, ↓ms_1, ↓ma_2, ↓ms_2, ↓ma_3, ↓ms_3, ↓ma_4, ↓ms_4, ↓ma_5, ↓ms_5, ↓ma_6, ↓ms_6, ↓ma_9, ↓ms_9, ↓ma_10, ↓ms_10, ↓ma_11, ↓ms_11, ↓ma_12, ↓ms_12, ↓ma_13, ↓ms_13, ↓ma_14, ↓ms_14, ↓ma_15, ↓ms_15, ↓ma_16, ↓ms_16, ↓ma_17, ↓ms_17, ↓ma_18, ↓ms_18, ↓ma_19, ↓ms_19, ↓ma_20, ↓ms_20, ↓ma_21, ↓ms_21, ↓mo_q', ↓ma_L, ↓ms_L, ↓ma_Z, ↓ms_Z, mF_1, mF_2, mWd_1, mWd_w, mWd_2, mA_1, mA_w, mA_a, mA_v, mV_1, mV_w, mV_a, mV_v, mA_mA, mV_mV, mF_mF, nI_add, nI_cl, vpi, i01, i02, i10, i11, ↓reduceIte, not_true_eq_false, not_false_eq_true, and_true, true_and, ne_eq, Nat.reduceAdd, Nat.reduceMul, Nat.reduceSub, Nat.reduceEqDiff, reduceCtorEq, Nat.add_zero, Nat.zero_add, n0p, ite_true, ite_false, if_true, if_false, nlT, nlF, nleT, nleF, neT, neF, n0F, n0T, pk_sub, pk_mul, nIm1, nIm2, nlZ, nleZ, upd_s, upd_n, pk_uLs, pk_uLn, nar_0, nar_1, nar_n0, nar_n1]
    exact h
  rw [if_neg e1] at h
  by_cases e2 : p = 22
  · rw [if_pos e2] at h
    simp (disch := omega) only [↓i01, ↓i02, ↓xrI_mk, ↓xrV_mk, ↓xrL_mk, ↓xrR_mk, ↓mg_0, ↓mg_1, ↓mp_2, ↓mg_2, ↓mg_3, ↓mg_4, ↓mp_5, ↓mg_5, ↓mp_6, ↓mg_6, ↓mp_7, ↓mg_7, ↓mp_8, ↓mg_8, ↓mp_9, ↓mg_9, ↓mp_10, ↓mg_10, ↓mp_11, ↓mg_11, ↓mp_12, ↓mg_12, ↓mp_13, ↓mg_13, ↓mp_14, ↓mg_14, ↓mp_15, ↓mg_15, ↓mp_16, ↓mg_16, ↓mg_17, ↓mp_18, ↓mg_18, ↓mp_19, ↓mg_19, ↓mp_20, ↓mg_20, ↓mp_21, ↓mg_21, ↓mg_22, ↓mg_23, ↓mg_24, ↓mg_25, ↓mg_26, ↓mg_27, ↓mg_28, ↓mg_29, ↓mg_30, ↓mg_31, ↓mg_32, ↓mg_33, ↓mg_34, ↓mp_35, ↓mg_35, ↓mp_36, ↓mg_36, ↓mg_37, ↓mg_38, ↓mg_39, ↓ma_1, ↓ms_1, ↓ma_2, ↓ms_2, ↓ma_3, ↓ms_3, ↓ma_4, ↓ms_4, ↓ma_5, ↓ms_5, ↓ma_6, ↓ms_6, ↓ma_9, ↓ms_9, ↓ma_10, ↓ms_10, ↓ma_11, ↓ms_11, ↓ma_12, ↓ms_12, ↓ma_13, ↓ms_13, ↓ma_14, ↓ms_14, ↓ma_15, ↓ms_15, ↓ma_16, ↓ms_16, ↓ma_17, ↓ms_17, ↓ma_18, ↓ms_18, ↓ma_19, ↓ms_19, ↓ma_20, ↓ms_20, ↓ma_21, ↓ms_21, ↓mo_q', ↓ma_L, ↓ms_L, ↓ma_Z, ↓ms_Z, mF_1, mF_2, mWd_1, mWd_w, mWd_2, mA_1, mA_w, mA_a, mA_v, mV_1, mV_w, mV_a, mV_v, mA_mA, mV_mV, mF_mF, nI_add, nI_cl, vpi, i01, i02, i10, i11, ↓reduceIte, not_true_eq_false, not_false_eq_true, and_true, true_and, ne_eq, Nat.reduceAdd, Nat.reduceMul, Nat.reduceSub, Nat.reduceEqDiff, reduceCtorEq, Nat.add_zero, Nat.zero_add, n0p, ite_true, ite_false, if_true, if_false, nlT, nlF, nleT, nleF, neT, neF, n0F, n0T, pk_sub, pk_mul, nIm1, nIm2, nlZ, nleZ, upd_s, upd_n, pk_uLs, pk_uLn, nar_0, nar_1, nar_n0, nar_n1]
    exact h
  rw [if_neg e2] at h
  by_cases e3 : p = 21
  · rw [if_pos e3] at h
    simp (disch := omega) only [↓i01, ↓i02, ↓xrI_mk, ↓xrV_mk, ↓xrL_mk, ↓xrR_mk, ↓mg_0, ↓mg_1, ↓mp_2, ↓mg_2, ↓mg_3, ↓mg_4, ↓mp_5, ↓mg_5, ↓mp_6, ↓mg_6, ↓mp_7, ↓mg_7, ↓mp_8, ↓mg_8, ↓mp_9, ↓mg_9, ↓mp_10, ↓mg_10, ↓mp_11, ↓mg_11, ↓mp_12, ↓mg_12, ↓mp_13, ↓mg_13, ↓mp_14, ↓mg_14, ↓mp_15, ↓mg_15, ↓mp_16, ↓mg_16, ↓mg_17, ↓mp_18, ↓mg_18, ↓mp_19, ↓mg_19, ↓mp_20, ↓mg_20, ↓mp_21, ↓mg_21, ↓mg_22, ↓mg_23, ↓mg_24, ↓mg_25, ↓mg_26, ↓mg_27, ↓mg_28, ↓mg_29, ↓mg_30, ↓mg_31, ↓mg_32, ↓mg_33, ↓mg_34, ↓mp_35, ↓mg_35, ↓mp_36, ↓mg_36, ↓mg_37, ↓mg_38, ↓mg_39, ↓ma_1, ↓ms_1, ↓ma_2, ↓ms_2, ↓ma_3, ↓ms_3, ↓ma_4, ↓ms_4, ↓ma_5, ↓ms_5, ↓ma_6, ↓ms_6, ↓ma_9, ↓ms_9, ↓ma_10, ↓ms_10, ↓ma_11, ↓ms_11, ↓ma_12, ↓ms_12, ↓ma_13, ↓ms_13, ↓ma_14, ↓ms_14, ↓ma_15, ↓ms_15, ↓ma_16, ↓ms_16, ↓ma_17, ↓ms_17, ↓ma_18, ↓ms_18, ↓ma_19, ↓ms_19, ↓ma_20, ↓ms_20, ↓ma_21, ↓ms_21, ↓mo_q', ↓ma_L, ↓ms_L, ↓ma_Z, ↓ms_Z, mF_1, mF_2, mWd_1, mWd_w, mWd_2, mA_1, mA_w, mA_a, mA_v, mV_1, mV_w, mV_a, mV_v, mA_mA, mV_mV, mF_mF, nI_add, nI_cl, vpi, i01, i02, i10, i11, ↓reduceIte, not_true_eq_false, not_false_eq_true, and_true, true_and, ne_eq, Nat.reduceAdd, Nat.reduceMul, Nat.reduceSub, Nat.reduceEqDiff, reduceCtorEq, Nat.add_zero, Nat.zero_add, n0p, ite_true, ite_false, if_true, if_false, nlT, nlF, nleT, nleF, neT, neF, n0F, n0T, pk_sub, pk_mul, nIm1, nIm2, nlZ, nleZ, upd_s, upd_n, pk_uLs, pk_uLn, nar_0, nar_1, nar_n0, nar_n1]
    exact h
  rw [if_neg e3] at h
  by_cases e4 : p = 20
  · rw [if_pos e4] at h
    simp (disch := omega) only [↓i01, ↓i02, ↓xrI_mk, ↓xrV_mk, ↓xrL_mk, ↓xrR_mk, ↓mg_0, ↓mg_1, ↓mp_2, ↓mg_2, ↓mg_3, ↓mg_4, ↓mp_5, ↓mg_5, ↓mp_6, ↓mg_6, ↓mp_7, ↓mg_7, ↓mp_8, ↓mg_8, ↓mp_9, ↓mg_9, ↓mp_10, ↓mg_10, ↓mp_11, ↓mg_11, ↓mp_12, ↓mg_12, ↓mp_13, ↓mg_13, ↓mp_14, ↓mg_14, ↓mp_15, ↓mg_15, ↓mp_16, ↓mg_16, ↓mg_17, ↓mp_18, ↓mg_18, ↓mp_19, ↓mg_19, ↓mp_20, ↓mg_20, ↓mp_21, ↓mg_21, ↓mg_22, ↓mg_23, ↓mg_24, ↓mg_25, ↓mg_26, ↓mg_27, ↓mg_28, ↓mg_29, ↓mg_30, ↓mg_31, ↓mg_32, ↓mg_33, ↓mg_34, ↓mp_35, ↓mg_35, ↓mp_36, ↓mg_36, ↓mg_37, ↓mg_38, ↓mg_39, ↓ma_1, ↓ms_1, ↓ma_2, ↓ms_2, ↓ma_3, ↓ms_3, ↓ma_4, ↓ms_4, ↓ma_5, ↓ms_5, ↓ma_6, ↓ms_6, ↓ma_9, ↓ms_9, ↓ma_10, ↓ms_10, ↓ma_11, ↓ms_11, ↓ma_12, ↓ms_12, ↓ma_13, ↓ms_13, ↓ma_14, ↓ms_14, ↓ma_15, ↓ms_15, ↓ma_16, ↓ms_16, ↓ma_17, ↓ms_17, ↓ma_18, ↓ms_18, ↓ma_19, ↓ms_19, ↓ma_20, ↓ms_20, ↓ma_21, ↓ms_21, ↓mo_q', ↓ma_L, ↓ms_L, ↓ma_Z, ↓ms_Z, mF_1, mF_2, mWd_1, mWd_w, mWd_2, mA_1, mA_w, mA_a, mA_v, mV_1, mV_w, mV_a, mV_v, mA_mA, mV_mV, mF_mF, nI_add, nI_cl, vpi, i01, i02, i10, i11, ↓reduceIte, not_true_eq_false, not_false_eq_true, and_true, true_and, ne_eq, Nat.reduceAdd, Nat.reduceMul, Nat.reduceSub, Nat.reduceEqDiff, reduceCtorEq, Nat.add_zero, Nat.zero_add, n0p, ite_true, ite_false, if_true, if_false, nlT, nlF, nleT, nleF, neT, neF, n0F, n0T, pk_sub, pk_mul, nIm1, nIm2, nlZ, nleZ, upd_s, upd_n, pk_uLs, pk_uLn, nar_0, nar_1, nar_n0, nar_n1]
    exact h
  rw [if_neg e4] at h
  by_cases e5 : 10 ≤ p
  · rw [if_pos e5] at h
    simp (disch := omega) only [↓i01, ↓i02, ↓xrI_mk, ↓xrV_mk, ↓xrL_mk, ↓xrR_mk, ↓mg_0, ↓mg_1, ↓mp_2, ↓mg_2, ↓mg_3, ↓mg_4, ↓mp_5, ↓mg_5, ↓mp_6, ↓mg_6, ↓mp_7, ↓mg_7, ↓mp_8, ↓mg_8, ↓mp_9, ↓mg_9, ↓mp_10, ↓mg_10, ↓mp_11, ↓mg_11, ↓mp_12, ↓mg_12, ↓mp_13, ↓mg_13, ↓mp_14, ↓mg_14, ↓mp_15, ↓mg_15, ↓mp_16, ↓mg_16, ↓mg_17, ↓mp_18, ↓mg_18, ↓mp_19, ↓mg_19, ↓mp_20, ↓mg_20, ↓mp_21, ↓mg_21, ↓mg_22, ↓mg_23, ↓mg_24, ↓mg_25, ↓mg_26, ↓mg_27, ↓mg_28, ↓mg_29, ↓mg_30, ↓mg_31, ↓mg_32, ↓mg_33, ↓mg_34, ↓mp_35, ↓mg_35, ↓mp_36, ↓mg_36, ↓mg_37, ↓mg_38, ↓mg_39, ↓ma_1, ↓ms_1, ↓ma_2, ↓ms_2, ↓ma_3, ↓ms_3, ↓ma_4, ↓ms_4, ↓ma_5, ↓ms_5, ↓ma_6, ↓ms_6, ↓ma_9, ↓ms_9, ↓ma_10, ↓ms_10, ↓ma_11, ↓ms_11, ↓ma_12, ↓ms_12, ↓ma_13, ↓ms_13, ↓ma_14, ↓ms_14, ↓ma_15, ↓ms_15, ↓ma_16, ↓ms_16, ↓ma_17, ↓ms_17, ↓ma_18, ↓ms_18, ↓ma_19, ↓ms_19, ↓ma_20, ↓ms_20, ↓ma_21, ↓ms_21, ↓mo_q', ↓ma_L, ↓ms_L, ↓ma_Z, ↓ms_Z, mF_1, mF_2, mWd_1, mWd_w, mWd_2, mA_1, mA_w, mA_a, mA_v, mV_1, mV_w, mV_a, mV_v, mA_mA, mV_mV, mF_mF, nI_add, nI_cl, vpi, i01, i02, i10, i11, ↓reduceIte, not_true_eq_false, not_false_eq_true, and_true, true_and, ne_eq, Nat.reduceAdd, Nat.reduceMul, Nat.reduceSub, Nat.reduceEqDiff, reduceCtorEq, Nat.add_zero, Nat.zero_add, n0p, ite_true, ite_false, if_true, if_false, nlT, nlF, nleT, nleF, neT, neF, n0F, n0T, pk_sub, pk_mul, nIm1, nIm2, nlZ, nleZ, upd_s, upd_n, pk_uLs, pk_uLn, nar_0, nar_1, nar_n0, nar_n1]
    exact h
  rw [if_neg e5] at h
  by_cases e6 : p = 2
  · rw [if_pos e6] at h
    simp (disch := omega) only [↓i01, ↓i02, ↓xrI_mk, ↓xrV_mk, ↓xrL_mk, ↓xrR_mk, ↓mg_0, ↓mg_1, ↓mp_2, ↓mg_2, ↓mg_3, ↓mg_4, ↓mp_5, ↓mg_5, ↓mp_6, ↓mg_6, ↓mp_7, ↓mg_7, ↓mp_8, ↓mg_8, ↓mp_9, ↓mg_9, ↓mp_10, ↓mg_10, ↓mp_11, ↓mg_11, ↓mp_12, ↓mg_12, ↓mp_13, ↓mg_13, ↓mp_14, ↓mg_14, ↓mp_15, ↓mg_15, ↓mp_16, ↓mg_16, ↓mg_17, ↓mp_18, ↓mg_18, ↓mp_19, ↓mg_19, ↓mp_20, ↓mg_20, ↓mp_21, ↓mg_21, ↓mg_22, ↓mg_23, ↓mg_24, ↓mg_25, ↓mg_26, ↓mg_27, ↓mg_28, ↓mg_29, ↓mg_30, ↓mg_31, ↓mg_32, ↓mg_33, ↓mg_34, ↓mp_35, ↓mg_35, ↓mp_36, ↓mg_36, ↓mg_37, ↓mg_38, ↓mg_39, ↓ma_1, ↓ms_1, ↓ma_2, ↓ms_2, ↓ma_3, ↓ms_3, ↓ma_4, ↓ms_4, ↓ma_5, ↓ms_5, ↓ma_6, ↓ms_6, ↓ma_9, ↓ms_9, ↓ma_10, ↓ms_10, ↓ma_11, ↓ms_11, ↓ma_12, ↓ms_12, ↓ma_13, ↓ms_13, ↓ma_14, ↓ms_14, ↓ma_15, ↓ms_15, ↓ma_16, ↓ms_16, ↓ma_17, ↓ms_17, ↓ma_18, ↓ms_18, ↓ma_19, ↓ms_19, ↓ma_20, ↓ms_20, ↓ma_21, ↓ms_21, ↓mo_q', ↓ma_L, ↓ms_L, ↓ma_Z, ↓ms_Z, mF_1, mF_2, mWd_1, mWd_w, mWd_2, mA_1, mA_w, mA_a, mA_v, mV_1, mV_w, mV_a, mV_v, mA_mA, mV_mV, mF_mF, nI_add, nI_cl, vpi, i01, i02, i10, i11, ↓reduceIte, not_true_eq_false, not_false_eq_true, and_true, true_and, ne_eq, Nat.reduceAdd, Nat.reduceMul, Nat.reduceSub, Nat.reduceEqDiff, reduceCtorEq, Nat.add_zero, Nat.zero_add, n0p, ite_true, ite_false, if_true, if_false, nlT, nlF, nleT, nleF, neT, neF, n0F, n0T, pk_sub, pk_mul, nIm1, nIm2, nlZ, nleZ, upd_s, upd_n, pk_uLs, pk_uLn, nar_0, nar_1, nar_n0, nar_n1]
    exact h
  rw [if_neg e6] at h
  by_cases e7 : 5 ≤ p
  · rw [if_pos e7] at h
    simp (disch := omega) only [↓i01, ↓i02, ↓xrI_mk, ↓xrV_mk, ↓xrL_mk, ↓xrR_mk, ↓mg_0, ↓mg_1, ↓mp_2, ↓mg_2, ↓mg_3, ↓mg_4, ↓mp_5, ↓mg_5, ↓mp_6, ↓mg_6, ↓mp_7, ↓mg_7, ↓mp_8, ↓mg_8, ↓mp_9, ↓mg_9, ↓mp_10, ↓mg_10, ↓mp_11, ↓mg_11, ↓mp_12, ↓mg_12, ↓mp_13, ↓mg_13, ↓mp_14, ↓mg_14, ↓mp_15, ↓mg_15, ↓mp_16, ↓mg_16, ↓mg_17, ↓mp_18, ↓mg_18, ↓mp_19, ↓mg_19, ↓mp_20, ↓mg_20, ↓mp_21, ↓mg_21, ↓mg_22, ↓mg_23, ↓mg_24, ↓mg_25, ↓mg_26, ↓mg_27, ↓mg_28, ↓mg_29, ↓mg_30, ↓mg_31, ↓mg_32, ↓mg_33, ↓mg_34, ↓mp_35, ↓mg_35, ↓mp_36, ↓mg_36, ↓mg_37, ↓mg_38, ↓mg_39, ↓ma_1, ↓ms_1, ↓ma_2, ↓ms_2, ↓ma_3, ↓ms_3, ↓ma_4, ↓ms_4, ↓ma_5, ↓ms_5, ↓ma_6, ↓ms_6, ↓ma_9, ↓ms_9, ↓ma_10, ↓ms_10, ↓ma_11, ↓ms_11, ↓ma_12, ↓ms_12, ↓ma_13, ↓ms_13, ↓ma_14, ↓ms_14, ↓ma_15, ↓ms_15, ↓ma_16, ↓ms_16, ↓ma_17, ↓ms_17, ↓ma_18, ↓ms_18, ↓ma_19, ↓ms_19, ↓ma_20, ↓ms_20, ↓ma_21, ↓ms_21, ↓mo_q', ↓ma_L, ↓ms_L, ↓ma_Z, ↓ms_Z, mF_1, mF_2, mWd_1, mWd_w, mWd_2, mA_1, mA_w, mA_a, mA_v, mV_1, mV_w, mV_a, mV_v, mA_mA, mV_mV, mF_mF, nI_add, nI_cl, vpi, i01, i02, i10, i11, ↓reduceIte, not_true_eq_false, not_false_eq_true, and_true, true_and, ne_eq, Nat.reduceAdd, Nat.reduceMul, Nat.reduceSub, Nat.reduceEqDiff, reduceCtorEq, Nat.add_zero, Nat.zero_add, n0p, ite_true, ite_false, if_true, if_false, nlT, nlF, nleT, nleF, neT, neF, n0F, n0T, pk_sub, pk_mul, nIm1, nIm2, nlZ, nleZ, upd_s, upd_n, pk_uLs, pk_uLn, nar_0, nar_1, nar_n0, nar_n1]
    exact h
  rw [if_neg e7] at h
  simp (disch := omega) only [↓i01, ↓i02, ↓xrI_mk, ↓xrV_mk, ↓xrL_mk, ↓xrR_mk, ↓mg_0, ↓mg_1, ↓mp_2, ↓mg_2, ↓mg_3, ↓mg_4, ↓mp_5, ↓mg_5, ↓mp_6, ↓mg_6, ↓mp_7, ↓mg_7, ↓mp_8, ↓mg_8, ↓mp_9, ↓mg_9, ↓mp_10, ↓mg_10, ↓mp_11, ↓mg_11, ↓mp_12, ↓mg_12, ↓mp_13, ↓mg_13, ↓mp_14, ↓mg_14, ↓mp_15, ↓mg_15, ↓mp_16, ↓mg_16, ↓mg_17, ↓mp_18, ↓mg_18, ↓mp_19, ↓mg_19, ↓mp_20, ↓mg_20, ↓mp_21, ↓mg_21, ↓mg_22, ↓mg_23, ↓mg_24, ↓mg_25, ↓mg_26, ↓mg_27, ↓mg_28, ↓mg_29, ↓mg_30, ↓mg_31, ↓mg_32, ↓mg_33, ↓mg_34, ↓mp_35, ↓mg_35, ↓mp_36, ↓mg_36, ↓mg_37, ↓mg_38, ↓mg_39, ↓ma_1, ↓ms_1, ↓ma_2, ↓ms_2, ↓ma_3, ↓ms_3, ↓ma_4, ↓ms_4, ↓ma_5, ↓ms_5, ↓ma_6, ↓ms_6, ↓ma_9, ↓ms_9, ↓ma_10, ↓ms_10, ↓ma_11, ↓ms_11, ↓ma_12, ↓ms_12, ↓ma_13, ↓ms_13, ↓ma_14, ↓ms_14, ↓ma_15, ↓ms_15, ↓ma_16, ↓ms_16, ↓ma_17, ↓ms_17, ↓ma_18, ↓ms_18, ↓ma_19, ↓ms_19, ↓ma_20, ↓ms_20, ↓ma_21, ↓ms_21, ↓mo_q', ↓ma_L, ↓ms_L, ↓ma_Z, ↓ms_Z, mF_1, mF_2, mWd_1, mWd_w, mWd_2, mA_1, mA_w, mA_a, mA_v, mV_1, mV_w, mV_a, mV_v, mA_mA, mV_mV, mF_mF, nI_add, nI_cl, vpi, i01, i02, i10, i11, ↓reduceIte, not_true_eq_false, not_false_eq_true, and_true, true_and, ne_eq, Nat.reduceAdd, Nat.reduceMul, Nat.reduceSub, Nat.reduceEqDiff, reduceCtorEq, Nat.add_zero, Nat.zero_add, n0p, ite_true, ite_false, if_true, if_false, nlT, nlF, nleT, nleF, neT, neF, n0F, n0T, pk_sub, pk_mul, nIm1, nIm2, nlZ, nleZ, upd_s, upd_n, pk_uLs, pk_uLn, nar_0, nar_1, nar_n0, nar_n1]
  exact h
/-- the pile's top does not reach the rank -/
def topB (r : Nat) : List Nat → Prop
  | [] => True
  | p :: _ => rkN p < r
theorem c_M_settle {r : Nat} (hr : r < 10) : ∀ (S : List Nat) (σ : mS) (cd : cD) (o : Nat), pileR σ (S ++ P) → outR σ t0 cd → cd.length + S.length ≤ 301 → σ.1 19 = nI (o + cntO S) → o + cntO S ≤ 100 → (∀ p, p ∈ S → r ≤ rkN p) → topB r P → (∀ σ', frP t0 σ σ' → (∀ j, j ≠ 15 → j ≠ 18 → j ≠ 19 → σ'.1 j = σ.1 j) → σ'.2.1 = σ.2.1 → pileR σ' P → outR σ' t0 (cd ++ ops S) → σ'.1 19 = nI o → Q none (mM q M0 σ')) → K_M_settle sa (d + 1) Q 0 [some (.ref q), some (.int (nI r))] [] (mM q M0 σ) (0, 0)
  | [], σ, cd, o, hP, ho, hl, h19, ho2, hS, ht, h => by
    refine t_M_settle_0 ?_
    have hP : pileR σ P := hP
    have fin : Q none (mM q M0 σ) := h σ frP_r (fun _ _ _ _ => rfl) rfl hP (by show outR σ t0 (cd ++ []); rw [List.append_nil]; exact ho) (by rw [h19]; rfl)
    have h18 := hP.1
    cases P with
    | nil =>
      rw [mg_18, h18, if_pos (by show nI 0 ≤ 0; decide)]
      exact fin
    | cons p P =>
      have tl := pile_tl hP
      have hlen := hP.2.1
      rw [List.length_cons] at h18 hlen
      rw [mg_18, h18, if_neg (fun a => by have := Int32.le_iff_toInt_le.mp a; rw [nI_i (by omega)] at this; have z : (0 : Int32).toInt = 0 := rfl; omega)]
      have tl1 := tl.1
      simp (disch := omega) only [↓i01, ↓i02, ↓xrI_mk, ↓xrV_mk, ↓xrL_mk, ↓xrR_mk, ↓mg_0, ↓mg_1, ↓mp_2, ↓mg_2, ↓mg_3, ↓mg_4, ↓mp_5, ↓mg_5, ↓mp_6, ↓mg_6, ↓mp_7, ↓mg_7, ↓mp_8, ↓mg_8, ↓mp_9, ↓mg_9, ↓mp_10, ↓mg_10, ↓mp_11, ↓mg_11, ↓mp_12, ↓mg_12, ↓mp_13, ↓mg_13, ↓mp_14, ↓mg_14, ↓mp_15, ↓mg_15, ↓mp_16, ↓mg_16, ↓mg_17, ↓mp_18, ↓mg_18, ↓mp_19, ↓mg_19, ↓mp_20, ↓mg_20, ↓mp_21, ↓mg_21, ↓mg_22, ↓mg_23, ↓mg_24, ↓mg_25, ↓mg_26, ↓mg_27, ↓mg_28, ↓mg_29, ↓mg_30, ↓mg_31, ↓mg_32, ↓mg_33, ↓mg_34, ↓mp_35, ↓mg_35, ↓mp_36, ↓mg_36, ↓mg_37, ↓mg_38, ↓mg_39, ↓ma_1, ↓ms_1, ↓ma_2, ↓ms_2, ↓ma_3, ↓ms_3, ↓ma_4, ↓ms_4, ↓ma_5, ↓ms_5, ↓ma_6, ↓ms_6, ↓ma_9, ↓ms_9, ↓ma_10, ↓ms_10, ↓ma_11, ↓ms_11, ↓ma_12, ↓ms_12, ↓ma_13, ↓ms_13, ↓ma_14, ↓ms_14, ↓ma_15, ↓ms_15, ↓ma_16, ↓ms_16, ↓ma_17, ↓ms_17, ↓ma_18, ↓ms_18, ↓ma_19, ↓ms_19, ↓ma_20, ↓ms_20, ↓ma_21, ↓ms_21, ↓mo_q', ↓ma_L, ↓ms_L, ↓ma_Z, ↓ms_Z, mF_1, mF_2, mWd_1, mWd_w, mWd_2, mA_1, mA_w, mA_a, mA_v, mV_1, mV_w, mV_a, mV_v, mA_mA, mV_mV, mF_mF, nI_add, nI_cl, vpi, i01, i02, i10, i11, ↓reduceIte, not_true_eq_false, not_false_eq_true, and_true, true_and, ne_eq, Nat.reduceAdd, Nat.reduceMul, Nat.reduceSub, Nat.reduceEqDiff, reduceCtorEq, Nat.add_zero, Nat.zero_add, n0p, ite_true, ite_false, if_true, if_false, nlT, nlF, nleT, nleF, neT, neF, n0F, n0T, pk_sub, pk_mul, nIm1, nIm2, nlZ, nleZ, upd_s, upd_n, pk_uLs, pk_uLn, nar_0, nar_1, nar_n0, nar_n1, h18, Nat.add_sub_cancel, tl1]
      refine c_M_rank tl.2 ?_
      have ht : rkN p < r := ht
      simp (disch := omega) only [↓i01, ↓i02, ↓xrI_mk, ↓xrV_mk, ↓xrL_mk, ↓xrR_mk, ↓mg_0, ↓mg_1, ↓mp_2, ↓mg_2, ↓mg_3, ↓mg_4, ↓mp_5, ↓mg_5, ↓mp_6, ↓mg_6, ↓mp_7, ↓mg_7, ↓mp_8, ↓mg_8, ↓mp_9, ↓mg_9, ↓mp_10, ↓mg_10, ↓mp_11, ↓mg_11, ↓mp_12, ↓mg_12, ↓mp_13, ↓mg_13, ↓mp_14, ↓mg_14, ↓mp_15, ↓mg_15, ↓mp_16, ↓mg_16, ↓mg_17, ↓mp_18, ↓mg_18, ↓mp_19, ↓mg_19, ↓mp_20, ↓mg_20, ↓mp_21, ↓mg_21, ↓mg_22, ↓mg_23, ↓mg_24, ↓mg_25, ↓mg_26, ↓mg_27, ↓mg_28, ↓mg_29, ↓mg_30, ↓mg_31, ↓mg_32, ↓mg_33, ↓mg_34, ↓mp_35, ↓mg_35, ↓mp_36, ↓mg_36, ↓mg_37, ↓mg_38, ↓mg_39, ↓ma_1, ↓ms_1, ↓ma_2, ↓ms_2, ↓ma_3, ↓ms_3, ↓ma_4, ↓ms_4, ↓ma_5, ↓ms_5, ↓ma_6, ↓ms_6, ↓ma_9, ↓ms_9, ↓ma_10, ↓ms_10, ↓ma_11, ↓ms_11, ↓ma_12, ↓ms_12, ↓ma_13, ↓ms_13, ↓ma_14, ↓ms_14, ↓ma_15, ↓ms_15, ↓ma_16, ↓ms_16, ↓ma_17, ↓ms_17, ↓ma_18, ↓ms_18, ↓ma_19, ↓ms_19, ↓ma_20, ↓ms_20, ↓ma_21, ↓ms_21, ↓mo_q', ↓ma_L, ↓ms_L, ↓ma_Z, ↓ms_Z, mF_1, mF_2, mWd_1, mWd_w, mWd_2, mA_1, mA_w, mA_a, mA_v, mV_1, mV_w, mV_a, mV_v, mA_mA, mV_mV, mF_mF, nI_add, nI_cl, vpi, i01, i02, i10, i11, ↓reduceIte, not_true_eq_false, not_false_eq_true, and_true, true_and, ne_eq, Nat.reduceAdd, Nat.reduceMul, Nat.reduceSub, Nat.reduceEqDiff, reduceCtorEq, Nat.add_zero, Nat.zero_add, n0p, ite_true, ite_false, if_true, if_false, nlT, nlF, nleT, nleF, neT, neF, n0F, n0T, pk_sub, pk_mul, nIm1, nIm2, nlZ, nleZ, upd_s, upd_n, pk_uLs, pk_uLn, nar_0, nar_1, nar_n0, nar_n1]
      exact fin
  | p :: S, σ, cd, o, hP, ho, hl, h19, ho2, hS, ht, h => by
    refine t_M_settle_0 ?_
    have hP : pileR σ (p :: (S ++ P)) := hP
    have h18 := hP.1
    have tl := pile_tl hP
    have hlen := hP.2.1
    rw [List.length_cons] at h18 hlen
    rw [List.length_cons] at hl
    have hrk := hS p List.mem_cons_self
    rw [mg_18, h18, if_neg (fun a => by have := Int32.le_iff_toInt_le.mp a; rw [nI_i (by omega)] at this; have z : (0 : Int32).toInt = 0 := rfl; omega)]
    have tl1 := tl.1
    have tl2 := tl.2
    rw [mg_17, mg_18, h18, show nI ((S ++ P).length + 1) - nI 1 = nI ((S ++ P).length) from pk_sub (by omega)]
    rw [ma_5, nI_cl (by omega), tl1]
    refine ⟨vp_in_nI (by omega) (by omega), ?_⟩
    refine c_M_rank tl.2 ?_
    have hrk7 : rkN p < 10 := by
      unfold rkN
      repeat' split
      all_goals omega
    rw [xrI_mk, if_neg (nI_nlt hrk (by omega)), mg_18, mp_18, h18, show nI ((S ++ P).length + 1) - nI 1 = nI ((S ++ P).length) from pk_sub (by omega)]
    have hP2 := pile_pop hP
    have ho2' := out_F (j := 18) (v := nI (S ++ P).length) ho (by decide) (by decide)
    rw [mg_17, mg_18, show (mF σ 18 (nI (S ++ P).length)).1 18 = nI (S ++ P).length from rfl, ma_5, nI_cl (by omega)]
    refine ⟨vp_in_nI (by omega) (by omega), ?_⟩
    rw [show (mF σ 18 (nI (S ++ P).length)).2.2.1 5 (S ++ P).length = nI p from tl1]
    refine ⟨mo_q, c_M_emit ho2' (by omega) ?_⟩
    rw [xrV_mk]
    have hP3 : pileR (emS (mF σ 18 (nI (S ++ P).length)) t0 cd.length (nI p) (nI 0)) (S ++ P) := hP2
    have ho3 := out_em (o := p) (v := nI 0) ho2'
    have hfr : frP t0 σ (emS (mF σ 18 (nI (S ++ P).length)) t0 cd.length (nI p) (nI 0)) := frP_t (frP_F (by decide)) (fr_em (by omega))
    have e19 : (emS (mF σ 18 (nI (S ++ P).length)) t0 cd.length (nI p) (nI 0)).1 19 = σ.1 19 := rfl
    have e18 : (emS (mF σ 18 (nI (S ++ P).length)) t0 cd.length (nI p) (nI 0)).1 18 = nI (S ++ P).length := rfl
    have e5 : (emS (mF σ 18 (nI (S ++ P).length)) t0 cd.length (nI p) (nI 0)).2.2.1 5 (S ++ P).length = nI p := tl1
    have ew : (emS (mF σ 18 (nI (S ++ P).length)) t0 cd.length (nI p) (nI 0)).2.1 = σ.2.1 := rfl
    have ef : ∀ j, j ≠ 15 → j ≠ 18 → j ≠ 19 → (emS (mF σ 18 (nI (S ++ P).length)) t0 cd.length (nI p) (nI 0)).1 j = σ.1 j := fun j h1 h2 h3 => (if_neg h1).trans (if_neg h2)
    have eops : cd ++ [(p, nI 0)] ++ ops S = cd ++ ops (p :: S) := by
      rw [List.append_assoc]; rfl
    have hS' : ∀ p, p ∈ S → r ≤ rkN p := fun p hp => hS p (List.mem_cons_of_mem _ hp)
    have hl' : (cd ++ [(p, nI 0)]).length + S.length ≤ 301 := by rw [List.length_append, List.length_singleton]; omega
    generalize emS (mF σ 18 (nI (S ++ P).length)) t0 cd.length (nI p) (nI 0) = τ at *
    have hcnt : cntO (p :: S) = (if p = 2 ∨ p = 20 then 1 else 0) + cntO S := rfl
    rw [hcnt] at h19 ho2
    rw [← e19] at h19
    by_cases e2 : p = 2
    · rw [if_pos (Or.inl e2)] at h19 ho2
      simp (disch := omega) only [↓i01, ↓i02, ↓xrI_mk, ↓xrV_mk, ↓xrL_mk, ↓xrR_mk, ↓mg_0, ↓mg_1, ↓mp_2, ↓mg_2, ↓mg_3, ↓mg_4, ↓mp_5, ↓mg_5, ↓mp_6, ↓mg_6, ↓mp_7, ↓mg_7, ↓mp_8, ↓mg_8, ↓mp_9, ↓mg_9, ↓mp_10, ↓mg_10, ↓mp_11, ↓mg_11, ↓mp_12, ↓mg_12, ↓mp_13, ↓mg_13, ↓mp_14, ↓mg_14, ↓mp_15, ↓mg_15, ↓mp_16, ↓mg_16, ↓mg_17, ↓mp_18, ↓mg_18, ↓mp_19, ↓mg_19, ↓mp_20, ↓mg_20, ↓mp_21, ↓mg_21, ↓mg_22, ↓mg_23, ↓mg_24, ↓mg_25, ↓mg_26, ↓mg_27, ↓mg_28, ↓mg_29, ↓mg_30, ↓mg_31, ↓mg_32, ↓mg_33, ↓mg_34, ↓mp_35, ↓mg_35, ↓mp_36, ↓mg_36, ↓mg_37, ↓mg_38, ↓mg_39, ↓ma_1, ↓ms_1, ↓ma_2, ↓ms_2, ↓ma_3, ↓ms_3, ↓ma_4, ↓ms_4, ↓ma_5, ↓ms_5, ↓ma_6, ↓ms_6, ↓ma_9, ↓ms_9, ↓ma_10, ↓ms_10, ↓ma_11, ↓ms_11, ↓ma_12, ↓ms_12, ↓ma_13, ↓ms_13, ↓ma_14, ↓ms_14, ↓ma_15, ↓ms_15, ↓ma_16, ↓ms_16, ↓ma_17, ↓ms_17, ↓ma_18, ↓ms_18, ↓ma_19, ↓ms_19, ↓ma_20, ↓ms_20, ↓ma_21, ↓ms_21, ↓mo_q', ↓ma_L, ↓ms_L, ↓ma_Z, ↓ms_Z, mF_1, mF_2, mWd_1, mWd_w, mWd_2, mA_1, mA_w, mA_a, mA_v, mV_1, mV_w, mV_a, mV_v, mA_mA, mV_mV, mF_mF, nI_add, nI_cl, vpi, i01, i02, i10, i11, ↓reduceIte, not_true_eq_false, not_false_eq_true, and_true, true_and, ne_eq, Nat.reduceAdd, Nat.reduceMul, Nat.reduceSub, Nat.reduceEqDiff, reduceCtorEq, Nat.add_zero, Nat.zero_add, n0p, ite_true, ite_false, if_true, if_false, nlT, nlF, nleT, nleF, neT, neF, n0F, n0T, pk_sub, pk_mul, nIm1, nIm2, nlZ, nleZ, upd_s, upd_n, pk_uLs, pk_uLn, nar_0, nar_1, nar_n0, nar_n1, e18, e5, h19]
      refine c_M_settle hr S _ (cd ++ [(p, nI 0)]) o (pile_F hP3 (by decide)) (out_F ho3 (by decide) (by decide)) hl' ?_ (by omega) hS' ht (fun σ' f1 f2 f3 f4 f5 f6 => ?_)
      · show nI (o + (1 + cntO S) - 1) = _
        rw [show o + (1 + cntO S) - 1 = o + cntO S by omega]
      · rw [eops] at f5
        refine h σ' (frP_t hfr (frP_t (frP_F (by decide)) f1)) (fun j h1 h2 h3 => (f2 j h1 h2 h3).trans ((if_neg h3).trans (ef j h1 h2 h3))) (f3.trans ew) f4 f5 f6
    · by_cases e20 : p = 20
      · rw [if_pos (Or.inr e20)] at h19 ho2
        simp (disch := omega) only [↓i01, ↓i02, ↓xrI_mk, ↓xrV_mk, ↓xrL_mk, ↓xrR_mk, ↓mg_0, ↓mg_1, ↓mp_2, ↓mg_2, ↓mg_3, ↓mg_4, ↓mp_5, ↓mg_5, ↓mp_6, ↓mg_6, ↓mp_7, ↓mg_7, ↓mp_8, ↓mg_8, ↓mp_9, ↓mg_9, ↓mp_10, ↓mg_10, ↓mp_11, ↓mg_11, ↓mp_12, ↓mg_12, ↓mp_13, ↓mg_13, ↓mp_14, ↓mg_14, ↓mp_15, ↓mg_15, ↓mp_16, ↓mg_16, ↓mg_17, ↓mp_18, ↓mg_18, ↓mp_19, ↓mg_19, ↓mp_20, ↓mg_20, ↓mp_21, ↓mg_21, ↓mg_22, ↓mg_23, ↓mg_24, ↓mg_25, ↓mg_26, ↓mg_27, ↓mg_28, ↓mg_29, ↓mg_30, ↓mg_31, ↓mg_32, ↓mg_33, ↓mg_34, ↓mp_35, ↓mg_35, ↓mp_36, ↓mg_36, ↓mg_37, ↓mg_38, ↓mg_39, ↓ma_1, ↓ms_1, ↓ma_2, ↓ms_2, ↓ma_3, ↓ms_3, ↓ma_4, ↓ms_4, ↓ma_5, ↓ms_5, ↓ma_6, ↓ms_6, ↓ma_9, ↓ms_9, ↓ma_10, ↓ms_10, ↓ma_11, ↓ms_11, ↓ma_12, ↓ms_12, ↓ma_13, ↓ms_13, ↓ma_14, ↓ms_14, ↓ma_15, ↓ms_15, ↓ma_16, ↓ms_16, ↓ma_17, ↓ms_17, ↓ma_18, ↓ms_18, ↓ma_19, ↓ms_19, ↓ma_20, ↓ms_20, ↓ma_21, ↓ms_21, ↓mo_q', ↓ma_L, ↓ms_L, ↓ma_Z, ↓ms_Z, mF_1, mF_2, mWd_1, mWd_w, mWd_2, mA_1, mA_w, mA_a, mA_v, mV_1, mV_w, mV_a, mV_v, mA_mA, mV_mV, mF_mF, nI_add, nI_cl, vpi, i01, i02, i10, i11, ↓reduceIte, not_true_eq_false, not_false_eq_true, and_true, true_and, ne_eq, Nat.reduceAdd, Nat.reduceMul, Nat.reduceSub, Nat.reduceEqDiff, reduceCtorEq, Nat.add_zero, Nat.zero_add, n0p, ite_true, ite_false, if_true, if_false, nlT, nlF, nleT, nleF, neT, neF, n0F, n0T, pk_sub, pk_mul, nIm1, nIm2, nlZ, nleZ, upd_s, upd_n, pk_uLs, pk_uLn, nar_0, nar_1, nar_n0, nar_n1, e18, e5, h19]
        refine c_M_settle hr S _ (cd ++ [(p, nI 0)]) o (pile_F hP3 (by decide)) (out_F ho3 (by decide) (by decide)) hl' ?_ (by omega) hS' ht (fun σ' f1 f2 f3 f4 f5 f6 => ?_)
        · show nI (o + (1 + cntO S) - 1) = _
          rw [show o + (1 + cntO S) - 1 = o + cntO S by omega]
        · rw [eops] at f5
          refine h σ' (frP_t hfr (frP_t (frP_F (by decide)) f1)) (fun j h1 h2 h3 => (f2 j h1 h2 h3).trans ((if_neg h3).trans (ef j h1 h2 h3))) (f3.trans ew) f4 f5 f6
      · rw [if_neg (fun a => a.elim e2 e20), Nat.zero_add] at h19 ho2
        simp (disch := omega) only [↓i01, ↓i02, ↓xrI_mk, ↓xrV_mk, ↓xrL_mk, ↓xrR_mk, ↓mg_0, ↓mg_1, ↓mp_2, ↓mg_2, ↓mg_3, ↓mg_4, ↓mp_5, ↓mg_5, ↓mp_6, ↓mg_6, ↓mp_7, ↓mg_7, ↓mp_8, ↓mg_8, ↓mp_9, ↓mg_9, ↓mp_10, ↓mg_10, ↓mp_11, ↓mg_11, ↓mp_12, ↓mg_12, ↓mp_13, ↓mg_13, ↓mp_14, ↓mg_14, ↓mp_15, ↓mg_15, ↓mp_16, ↓mg_16, ↓mg_17, ↓mp_18, ↓mg_18, ↓mp_19, ↓mg_19, ↓mp_20, ↓mg_20, ↓mp_21, ↓mg_21, ↓mg_22, ↓mg_23, ↓mg_24, ↓mg_25, ↓mg_26, ↓mg_27, ↓mg_28, ↓mg_29, ↓mg_30, ↓mg_31, ↓mg_32, ↓mg_33, ↓mg_34, ↓mp_35, ↓mg_35, ↓mp_36, ↓mg_36, ↓mg_37, ↓mg_38, ↓mg_39, ↓ma_1, ↓ms_1, ↓ma_2, ↓ms_2, ↓ma_3, ↓ms_3, ↓ma_4, ↓ms_4, ↓ma_5, ↓ms_5, ↓ma_6, ↓ms_6, ↓ma_9, ↓ms_9, ↓ma_10, ↓ms_10, ↓ma_11, ↓ms_11, ↓ma_12, ↓ms_12, ↓ma_13, ↓ms_13, ↓ma_14, ↓ms_14, ↓ma_15, ↓ms_15, ↓ma_16, ↓ms_16, ↓ma_17, ↓ms_17, ↓ma_18, ↓ms_18, ↓ma_19, ↓ms_19, ↓ma_20, ↓ms_20, ↓ma_21, ↓ms_21, ↓mo_q', ↓ma_L, ↓ms_L, ↓ma_Z, ↓ms_Z, mF_1, mF_2, mWd_1, mWd_w, mWd_2, mA_1, mA_w, mA_a, mA_v, mV_1, mV_w, mV_a, mV_v, mA_mA, mV_mV, mF_mF, nI_add, nI_cl, vpi, i01, i02, i10, i11, ↓reduceIte, not_true_eq_false, not_false_eq_true, and_true, true_and, ne_eq, Nat.reduceAdd, Nat.reduceMul, Nat.reduceSub, Nat.reduceEqDiff, reduceCtorEq, Nat.add_zero, Nat.zero_add, n0p, ite_true, ite_false, if_true, if_false, nlT, nlF, nleT, nleF, neT, neF, n0F, n0T, pk_sub, pk_mul, nIm1, nIm2, nlZ, nleZ, upd_s, upd_n, pk_uLs, pk_uLn, nar_0, nar_1, nar_n0, nar_n1, e18, e5]
        refine c_M_settle hr S _ (cd ++ [(p, nI 0)]) o hP3 ho3 hl' h19 ho2 hS' ht (fun σ' f1 f2 f3 f4 f5 f6 => ?_)
        rw [eops] at f5
        exact h σ' (frP_t hfr f1) (fun j h1 h2 h3 => (f2 j h1 h2 h3).trans (ef j h1 h2 h3)) (f3.trans ew) f4 f5 f6
theorem c_M_marker (hP : pileR σ P) (h : Q (some (.int (mkP P))) (mM q M0 σ)) : xEv xP (xprim sa) (d + 1) m_M_marker [.ref q] (mM q M0 σ) Q := by
  refine t_M_marker ?_
  have h18 := hP.1
  have hlen := hP.2.1
  rw [mg_18, h18]
  have loop : ∀ (R S : List Nat), P = S ++ R → mkP P = mkP R → K_M_marker sa d Q 1 [some (.ref q), some (.int (nI R.length - nI 1))] [] (mM q M0 σ) (0, 0) := by
    intro R
    induction R with
    | nil =>
      intro S hS he
      refine t_M_marker_1 ?_
      rw [if_pos (by show nI 0 - nI 1 < 0; decide)]
      rw [he] at h
      exact h
    | cons p R ih =>
      intro S hS he
      refine t_M_marker_1 ?_
      have hl2 : P.length = S.length + (R.length + 1) := by rw [hS, List.length_append, List.length_cons]
      have hp := hP.2.2 S.length p (by rw [hS, List.getElem?_append_right (Nat.le_refl _), Nat.sub_self]; rfl)
      rw [show P.length - 1 - S.length = R.length by omega] at hp
      rw [List.length_cons, show nI (R.length + 1) - nI 1 = nI R.length from pk_sub (by omega), if_neg (nI_pos (by omega))]
      have hp1 := hp.1
      have hp2 := hp.2
      rw [mg_17, ma_5, nI_cl (by omega), hp1]
      refine ⟨vp_in_nI (by omega) (by omega), ?_⟩
      have em : mkP (p :: R) = if 40 ≤ p then nI R.length else mkP R := rfl
      by_cases e : 40 ≤ p
      · rw [if_pos (nI_le e (by omega))]
        rw [he, em, if_pos e] at h
        exact h
      · rw [if_neg (nI_ge (by omega) (by omega))]
        have := ih (S ++ [p]) (by rw [hS, List.append_assoc]; rfl) (by rw [he, em, if_neg e])
        rw [sub1] at this
        exact this
  exact loop P [] rfl rfl
theorem c_M_kindOpen (hP : pileR σ P) {e : Bool} (h : Q (some (.int (nI (koN e P)))) (mM q M0 σ)) : xEv xP (xprim sa) (d + 2) m_M_kindOpen [.ref q, .int (if e then 1 else 0)] (mM q M0 σ) Q := by
  refine t_M_kindOpen ⟨mo_q, c_M_marker hP ?_⟩
  rw [xrI_mk]
  have hlen := hP.2.1
  have loop : ∀ (R S : List Nat), P = S ++ R → mkP P = mkP R → koN e P = koN e R → (if mkP P < 0 then (if (if e then (1 : Int32) else 0) = 0 then Q (some (.int (nI 40))) (mM q M0 σ) else Q (some (.int (nI 41))) (mM q M0 σ)) else xgfR (mM q M0 σ) q 12 17 fun v1 => xaI (mM q M0 σ) v1 (mkP P) fun v2 => Q (some (.int v2)) (mM q M0 σ)) := by
    intro R
    induction R with
    | nil =>
      intro S hS he hk
      rw [he, if_pos (show mkP [] < 0 from by decide)]
      rw [hk] at h
      cases e with
      | false => exact h
      | true => exact h
    | cons p R ih =>
      intro S hS he hk
      have hl2 : P.length = S.length + (R.length + 1) := by rw [hS, List.length_append, List.length_cons]
      have hp := hP.2.2 S.length p (by rw [hS, List.getElem?_append_right (Nat.le_refl _), Nat.sub_self]; rfl)
      rw [show P.length - 1 - S.length = R.length by omega] at hp
      have em : mkP (p :: R) = if 40 ≤ p then nI R.length else mkP R := rfl
      have ek : koN e (p :: R) = if 40 ≤ p then p else koN e R := rfl
      by_cases ep : 40 ≤ p
      · rw [em, if_pos ep] at he
        rw [ek, if_pos ep] at hk
        rw [he, if_neg (nI_pos (by omega)), mg_17, ma_5, nI_cl (by omega), hp.1]
        rw [hk] at h
        exact ⟨vp_in_nI (by omega) (by omega), h⟩
      · rw [em, if_neg ep] at he
        rw [ek, if_neg ep] at hk
        exact ih (S ++ [p]) (by rw [hS, List.append_assoc]; rfl) he hk
  exact loop P [] rfl rfl rfl
theorem c_M_isCompared (hP : pileR σ P) (h : Q (some (.int (if cpB P then 1 else 0))) (mM q M0 σ)) : xEv xP (xprim sa) (d + 2) m_M_isCompared [.ref q] (mM q M0 σ) Q := by
  refine t_M_isCompared ?_
  have h18 := hP.1
  have hlen := hP.2.1
  rw [mg_18, h18]
  have loop : ∀ (R S : List Nat), P = S ++ R → cpB P = cpB R → K_M_isCompared sa (d + 1) Q 1 [some (.ref q), some (.int (nI R.length - nI 1))] [] (mM q M0 σ) (0, 0) := by
    intro R
    induction R with
    | nil =>
      intro S hS he
      refine t_M_isCompared_1 ?_
      rw [if_pos (by show nI 0 - nI 1 < 0; decide), if_pos (by show nI 0 - nI 1 < 0; decide)]
      rw [he] at h
      exact o01 (Or.inl rfl) h
    | cons p R ih =>
      intro S hS he
      refine t_M_isCompared_1 ?_
      have hl2 : P.length = S.length + (R.length + 1) := by rw [hS, List.length_append, List.length_cons]
      have hp := hP.2.2 S.length p (by rw [hS, List.getElem?_append_right (Nat.le_refl _), Nat.sub_self]; rfl)
      rw [show P.length - 1 - S.length = R.length by omega] at hp
      have hp1 := hp.1
      have hp2 := hp.2
      rw [List.length_cons, show nI (R.length + 1) - nI 1 = nI R.length from pk_sub (by omega), if_neg (nI_pos (by omega))]
      rw [mg_17, ma_5, nI_cl (by omega), hp1]
      refine ⟨vp_in_nI (by omega) (by omega), c_M_rank hp2 ?_⟩
      have hrk7 : rkN p < 10 := by
        unfold rkN
        repeat' split
        all_goals omega
      rw [xrI_mk]
      have em : cpB (p :: R) = if 4 < rkN p then cpB R else decide (rkN p = 4) := rfl
      by_cases e : 4 < rkN p
      · rw [if_neg (nI_ge e (by omega))]
        have := ih (S ++ [p]) (by rw [hS, List.append_assoc]; rfl) (by rw [he, em, if_pos e])
        rw [sub1] at this
        exact this
      · rw [if_pos (nI_le (by omega) (by omega)), if_neg (nI_pos (by omega)), mg_17, ma_5, nI_cl (by omega), hp1]
        refine ⟨vp_in_nI (by omega) (by omega), c_M_rank hp2 ?_⟩
        rw [xrI_mk]
        rw [he, em, if_neg e] at h
        by_cases e4 : rkN p = 4
        · rw [decide_eq_true e4] at h
          rw [e4, if_neg (not_not_intro rfl)]
          exact o01 (Or.inr rfl) h
        · rw [decide_eq_false e4] at h
          rw [if_pos (fun a => e4 ((nI_eq (by omega) (by omega)).mp a))]
          exact o01 (Or.inl rfl) h
  exact loop P [] rfl rfl
/-- may a 'not' stand here? -/
def askB (e : Bool) (P : List Nat) : Bool := decide (koN e P = 41) && (match P with
  | [] => true
  | p :: _ => decide (p = 41) || (decide (1 ≤ rkN p) && decide (rkN p ≤ 3)))
theorem koN_lt (hP : pileR σ P) {e : Bool} : koN e P < 64 := by
  have : ∀ R : List Nat, (∀ p, p ∈ R → p < 64) → koN e R < 64 := by
    intro R
    induction R with
    | nil =>
      intro _
      show (if e = true then 41 else 40) < 64
      split <;> omega
    | cons p R ih =>
      intro hR
      show (if 40 ≤ p then p else koN e R) < 64
      split
      · exact hR p List.mem_cons_self
      · exact ih (fun p hp => hR p (List.mem_cons_of_mem _ hp))
  refine this P (fun p hp => ?_)
  obtain ⟨j, hj⟩ := List.getElem?_of_mem hp
  exact (hP.2.2 j p hj).2
theorem c_M_isAskAhead (hP : pileR σ P) {e : Bool} (h : Q (some (.int (if askB e P then 1 else 0))) (mM q M0 σ)) : xEv xP (xprim sa) (d + 3) m_M_isAskAhead [.ref q, .int (if e then 1 else 0)] (mM q M0 σ) Q := by
  refine t_M_isAskAhead ⟨mo_q, c_M_kindOpen hP ?_⟩
  have hk := koN_lt hP (e := e)
  have hlen := hP.2.1
  rw [xrI_mk]
  by_cases ek : koN e P = 41
  · rw [ek, if_neg (not_not_intro rfl), mg_18]
    have h18 := hP.1
    cases P with
    | nil =>
      have ea : askB e [] = true := by unfold askB; rw [decide_eq_true ek]; rfl
      rw [ea] at h
      rw [h18, if_pos (show nI (List.length ([] : List Nat)) = 0 from rfl)]
      exact o01 (Or.inr rfl) h
    | cons p P =>
      have tl := pile_tl hP
      rw [List.length_cons] at h18 hlen
      have tl1 := tl.1
      have tl2 := tl.2
      have ea : askB e (p :: P) = (decide (p = 41) || (decide (1 ≤ rkN p) && decide (rkN p ≤ 3))) := by unfold askB; rw [decide_eq_true ek, Bool.true_and]
      rw [h18, if_neg (nI_ne0 (by omega) (by omega))]
      simp (disch := omega) only [↓i01, ↓i02, ↓xrI_mk, ↓xrV_mk, ↓xrL_mk, ↓xrR_mk, ↓mg_0, ↓mg_1, ↓mp_2, ↓mg_2, ↓mg_3, ↓mg_4, ↓mp_5, ↓mg_5, ↓mp_6, ↓mg_6, ↓mp_7, ↓mg_7, ↓mp_8, ↓mg_8, ↓mp_9, ↓mg_9, ↓mp_10, ↓mg_10, ↓mp_11, ↓mg_11, ↓mp_12, ↓mg_12, ↓mp_13, ↓mg_13, ↓mp_14, ↓mg_14, ↓mp_15, ↓mg_15, ↓mp_16, ↓mg_16, ↓mg_17, ↓mp_18, ↓mg_18, ↓mp_19, ↓mg_19, ↓mp_20, ↓mg_20, ↓mp_21, ↓mg_21, ↓mg_22, ↓mg_23, ↓mg_24, ↓mg_25, ↓mg_26, ↓mg_27, ↓mg_28, ↓mg_29, ↓mg_30, ↓mg_31, ↓mg_32, ↓mg_33, ↓mg_34, ↓mp_35, ↓mg_35, ↓mp_36, ↓mg_36, ↓mg_37, ↓mg_38, ↓mg_39, ↓ma_1, ↓ms_1, ↓ma_2, ↓ms_2, ↓ma_3, ↓ms_3, ↓ma_4, ↓ms_4, ↓ma_5, ↓ms_5, ↓ma_6, ↓ms_6, ↓ma_9, ↓ms_9, ↓ma_10, ↓ms_10, ↓ma_11, ↓ms_11, ↓ma_12, ↓ms_12, ↓ma_13, ↓ms_13, ↓ma_14, ↓ms_14, ↓ma_15, ↓ms_15, ↓ma_16, ↓ms_16, ↓ma_17, ↓ms_17, ↓ma_18, ↓ms_18, ↓ma_19, ↓ms_19, ↓ma_20, ↓ms_20, ↓ma_21, ↓ms_21, ↓mo_q', ↓ma_L, ↓ms_L, ↓ma_Z, ↓ms_Z, mF_1, mF_2, mWd_1, mWd_w, mWd_2, mA_1, mA_w, mA_a, mA_v, mV_1, mV_w, mV_a, mV_v, mA_mA, mV_mV, mF_mF, nI_add, nI_cl, vpi, i01, i02, i10, i11, ↓reduceIte, not_true_eq_false, not_false_eq_true, and_true, true_and, ne_eq, Nat.reduceAdd, Nat.reduceMul, Nat.reduceSub, Nat.reduceEqDiff, reduceCtorEq, Nat.add_zero, Nat.zero_add, n0p, ite_true, ite_false, if_true, if_false, nlT, nlF, nleT, nleF, neT, neF, n0F, n0T, pk_sub, pk_mul, nIm1, nIm2, nlZ, nleZ, upd_s, upd_n, pk_uLs, pk_uLn, nar_0, nar_1, nar_n0, nar_n1, h18, Nat.add_sub_cancel, tl1]
      by_cases ep : p = 41
      · rw [decide_eq_true ep, Bool.true_or] at ea
        rw [ea] at h
        simp (disch := omega) only [↓i01, ↓i02, ↓xrI_mk, ↓xrV_mk, ↓xrL_mk, ↓xrR_mk, ↓mg_0, ↓mg_1, ↓mp_2, ↓mg_2, ↓mg_3, ↓mg_4, ↓mp_5, ↓mg_5, ↓mp_6, ↓mg_6, ↓mp_7, ↓mg_7, ↓mp_8, ↓mg_8, ↓mp_9, ↓mg_9, ↓mp_10, ↓mg_10, ↓mp_11, ↓mg_11, ↓mp_12, ↓mg_12, ↓mp_13, ↓mg_13, ↓mp_14, ↓mg_14, ↓mp_15, ↓mg_15, ↓mp_16, ↓mg_16, ↓mg_17, ↓mp_18, ↓mg_18, ↓mp_19, ↓mg_19, ↓mp_20, ↓mg_20, ↓mp_21, ↓mg_21, ↓mg_22, ↓mg_23, ↓mg_24, ↓mg_25, ↓mg_26, ↓mg_27, ↓mg_28, ↓mg_29, ↓mg_30, ↓mg_31, ↓mg_32, ↓mg_33, ↓mg_34, ↓mp_35, ↓mg_35, ↓mp_36, ↓mg_36, ↓mg_37, ↓mg_38, ↓mg_39, ↓ma_1, ↓ms_1, ↓ma_2, ↓ms_2, ↓ma_3, ↓ms_3, ↓ma_4, ↓ms_4, ↓ma_5, ↓ms_5, ↓ma_6, ↓ms_6, ↓ma_9, ↓ms_9, ↓ma_10, ↓ms_10, ↓ma_11, ↓ms_11, ↓ma_12, ↓ms_12, ↓ma_13, ↓ms_13, ↓ma_14, ↓ms_14, ↓ma_15, ↓ms_15, ↓ma_16, ↓ms_16, ↓ma_17, ↓ms_17, ↓ma_18, ↓ms_18, ↓ma_19, ↓ms_19, ↓ma_20, ↓ms_20, ↓ma_21, ↓ms_21, ↓mo_q', ↓ma_L, ↓ms_L, ↓ma_Z, ↓ms_Z, mF_1, mF_2, mWd_1, mWd_w, mWd_2, mA_1, mA_w, mA_a, mA_v, mV_1, mV_w, mV_a, mV_v, mA_mA, mV_mV, mF_mF, nI_add, nI_cl, vpi, i01, i02, i10, i11, ↓reduceIte, not_true_eq_false, not_false_eq_true, and_true, true_and, ne_eq, Nat.reduceAdd, Nat.reduceMul, Nat.reduceSub, Nat.reduceEqDiff, reduceCtorEq, Nat.add_zero, Nat.zero_add, n0p, ite_true, ite_false, if_true, if_false, nlT, nlF, nleT, nleF, neT, neF, n0F, n0T, pk_sub, pk_mul, nIm1, nIm2, nlZ, nleZ, upd_s, upd_n, pk_uLs, pk_uLn, nar_0, nar_1, nar_n0, nar_n1]
        exact h
      · rw [decide_eq_false ep, Bool.false_or] at ea
        simp (disch := omega) only [↓i01, ↓i02, ↓xrI_mk, ↓xrV_mk, ↓xrL_mk, ↓xrR_mk, ↓mg_0, ↓mg_1, ↓mp_2, ↓mg_2, ↓mg_3, ↓mg_4, ↓mp_5, ↓mg_5, ↓mp_6, ↓mg_6, ↓mp_7, ↓mg_7, ↓mp_8, ↓mg_8, ↓mp_9, ↓mg_9, ↓mp_10, ↓mg_10, ↓mp_11, ↓mg_11, ↓mp_12, ↓mg_12, ↓mp_13, ↓mg_13, ↓mp_14, ↓mg_14, ↓mp_15, ↓mg_15, ↓mp_16, ↓mg_16, ↓mg_17, ↓mp_18, ↓mg_18, ↓mp_19, ↓mg_19, ↓mp_20, ↓mg_20, ↓mp_21, ↓mg_21, ↓mg_22, ↓mg_23, ↓mg_24, ↓mg_25, ↓mg_26, ↓mg_27, ↓mg_28, ↓mg_29, ↓mg_30, ↓mg_31, ↓mg_32, ↓mg_33, ↓mg_34, ↓mp_35, ↓mg_35, ↓mp_36, ↓mg_36, ↓mg_37, ↓mg_38, ↓mg_39, ↓ma_1, ↓ms_1, ↓ma_2, ↓ms_2, ↓ma_3, ↓ms_3, ↓ma_4, ↓ms_4, ↓ma_5, ↓ms_5, ↓ma_6, ↓ms_6, ↓ma_9, ↓ms_9, ↓ma_10, ↓ms_10, ↓ma_11, ↓ms_11, ↓ma_12, ↓ms_12, ↓ma_13, ↓ms_13, ↓ma_14, ↓ms_14, ↓ma_15, ↓ms_15, ↓ma_16, ↓ms_16, ↓ma_17, ↓ms_17, ↓ma_18, ↓ms_18, ↓ma_19, ↓ms_19, ↓ma_20, ↓ms_20, ↓ma_21, ↓ms_21, ↓mo_q', ↓ma_L, ↓ms_L, ↓ma_Z, ↓ms_Z, mF_1, mF_2, mWd_1, mWd_w, mWd_2, mA_1, mA_w, mA_a, mA_v, mV_1, mV_w, mV_a, mV_v, mA_mA, mV_mV, mF_mF, nI_add, nI_cl, vpi, i01, i02, i10, i11, ↓reduceIte, not_true_eq_false, not_false_eq_true, and_true, true_and, ne_eq, Nat.reduceAdd, Nat.reduceMul, Nat.reduceSub, Nat.reduceEqDiff, reduceCtorEq, Nat.add_zero, Nat.zero_add, n0p, ite_true, ite_false, if_true, if_false, nlT, nlF, nleT, nleF, neT, neF, n0F, n0T, pk_sub, pk_mul, nIm1, nIm2, nlZ, nleZ, upd_s, upd_n, pk_uLs, pk_uLn, nar_0, nar_1, nar_n0, nar_n1]
        refine c_M_rank tl2 ?_
        rw [xrI_mk]
        have hrk7 : rkN p < 10 := by
          unfold rkN
          repeat' split
          all_goals omega
        refine c_M_isIn (fun a => ?_) (fun a => ?_)
        · rw [iv_nI (by omega) (by omega) (by omega)] at a
          rw [decide_eq_true a.1, decide_eq_true a.2] at ea
          rw [ea] at h
          simp (disch := omega) only [↓i01, ↓i02, ↓xrI_mk, ↓xrV_mk, ↓xrL_mk, ↓xrR_mk, ↓mg_0, ↓mg_1, ↓mp_2, ↓mg_2, ↓mg_3, ↓mg_4, ↓mp_5, ↓mg_5, ↓mp_6, ↓mg_6, ↓mp_7, ↓mg_7, ↓mp_8, ↓mg_8, ↓mp_9, ↓mg_9, ↓mp_10, ↓mg_10, ↓mp_11, ↓mg_11, ↓mp_12, ↓mg_12, ↓mp_13, ↓mg_13, ↓mp_14, ↓mg_14, ↓mp_15, ↓mg_15, ↓mp_16, ↓mg_16, ↓mg_17, ↓mp_18, ↓mg_18, ↓mp_19, ↓mg_19, ↓mp_20, ↓mg_20, ↓mp_21, ↓mg_21, ↓mg_22, ↓mg_23, ↓mg_24, ↓mg_25, ↓mg_26, ↓mg_27, ↓mg_28, ↓mg_29, ↓mg_30, ↓mg_31, ↓mg_32, ↓mg_33, ↓mg_34, ↓mp_35, ↓mg_35, ↓mp_36, ↓mg_36, ↓mg_37, ↓mg_38, ↓mg_39, ↓ma_1, ↓ms_1, ↓ma_2, ↓ms_2, ↓ma_3, ↓ms_3, ↓ma_4, ↓ms_4, ↓ma_5, ↓ms_5, ↓ma_6, ↓ms_6, ↓ma_9, ↓ms_9, ↓ma_10, ↓ms_10, ↓ma_11, ↓ms_11, ↓ma_12, ↓ms_12, ↓ma_13, ↓ms_13, ↓ma_14, ↓ms_14, ↓ma_15, ↓ms_15, ↓ma_16, ↓ms_16, ↓ma_17, ↓ms_17, ↓ma_18, ↓ms_18, ↓ma_19, ↓ms_19, ↓ma_20, ↓ms_20, ↓ma_21, ↓ms_21, ↓mo_q', ↓ma_L, ↓ms_L, ↓ma_Z, ↓ms_Z, mF_1, mF_2, mWd_1, mWd_w, mWd_2, mA_1, mA_w, mA_a, mA_v, mV_1, mV_w, mV_a, mV_v, mA_mA, mV_mV, mF_mF, nI_add, nI_cl, vpi, i01, i02, i10, i11, ↓reduceIte, not_true_eq_false, not_false_eq_true, and_true, true_and, ne_eq, Nat.reduceAdd, Nat.reduceMul, Nat.reduceSub, Nat.reduceEqDiff, reduceCtorEq, Nat.add_zero, Nat.zero_add, n0p, ite_true, ite_false, if_true, if_false, nlT, nlF, nleT, nleF, neT, neF, n0F, n0T, pk_sub, pk_mul, nIm1, nIm2, nlZ, nleZ, upd_s, upd_n, pk_uLs, pk_uLn, nar_0, nar_1, nar_n0, nar_n1]
          exact h
        · rw [iv_nI (by omega) (by omega) (by omega)] at a
          have : (decide (1 ≤ rkN p) && decide (rkN p ≤ 3)) = false := by
            by_cases a1 : 1 ≤ rkN p
            · rw [decide_eq_true a1, decide_eq_false (fun a2 => a ⟨a1, a2⟩)]; rfl
            · rw [decide_eq_false a1]; rfl
          rw [this] at ea
          rw [ea] at h
          simp (disch := omega) only [↓i01, ↓i02, ↓xrI_mk, ↓xrV_mk, ↓xrL_mk, ↓xrR_mk, ↓mg_0, ↓mg_1, ↓mp_2, ↓mg_2, ↓mg_3, ↓mg_4, ↓mp_5, ↓mg_5, ↓mp_6, ↓mg_6, ↓mp_7, ↓mg_7, ↓mp_8, ↓mg_8, ↓mp_9, ↓mg_9, ↓mp_10, ↓mg_10, ↓mp_11, ↓mg_11, ↓mp_12, ↓mg_12, ↓mp_13, ↓mg_13, ↓mp_14, ↓mg_14, ↓mp_15, ↓mg_15, ↓mp_16, ↓mg_16, ↓mg_17, ↓mp_18, ↓mg_18, ↓mp_19, ↓mg_19, ↓mp_20, ↓mg_20, ↓mp_21, ↓mg_21, ↓mg_22, ↓mg_23, ↓mg_24, ↓mg_25, ↓mg_26, ↓mg_27, ↓mg_28, ↓mg_29, ↓mg_30, ↓mg_31, ↓mg_32, ↓mg_33, ↓mg_34, ↓mp_35, ↓mg_35, ↓mp_36, ↓mg_36, ↓mg_37, ↓mg_38, ↓mg_39, ↓ma_1, ↓ms_1, ↓ma_2, ↓ms_2, ↓ma_3, ↓ms_3, ↓ma_4, ↓ms_4, ↓ma_5, ↓ms_5, ↓ma_6, ↓ms_6, ↓ma_9, ↓ms_9, ↓ma_10, ↓ms_10, ↓ma_11, ↓ms_11, ↓ma_12, ↓ms_12, ↓ma_13, ↓ms_13, ↓ma_14, ↓ms_14, ↓ma_15, ↓ms_15, ↓ma_16, ↓ms_16, ↓ma_17, ↓ms_17, ↓ma_18, ↓ms_18, ↓ma_19, ↓ms_19, ↓ma_20, ↓ms_20, ↓ma_21, ↓ms_21, ↓mo_q', ↓ma_L, ↓ms_L, ↓ma_Z, ↓ms_Z, mF_1, mF_2, mWd_1, mWd_w, mWd_2, mA_1, mA_w, mA_a, mA_v, mV_1, mV_w, mV_a, mV_v, mA_mA, mV_mV, mF_mF, nI_add, nI_cl, vpi, i01, i02, i10, i11, ↓reduceIte, not_true_eq_false, not_false_eq_true, and_true, true_and, ne_eq, Nat.reduceAdd, Nat.reduceMul, Nat.reduceSub, Nat.reduceEqDiff, reduceCtorEq, Nat.add_zero, Nat.zero_add, n0p, ite_true, ite_false, if_true, if_false, nlT, nlF, nleT, nleF, neT, neF, n0F, n0T, pk_sub, pk_mul, nIm1, nIm2, nlZ, nleZ, upd_s, upd_n, pk_uLs, pk_uLn, nar_0, nar_1, nar_n0, nar_n1]
          exact h
  · have ea : askB e P = false := by unfold askB; rw [decide_eq_false ek]; rfl
    rw [ea] at h
    rw [if_pos (fun a => ek ((nI_eq (by omega) (by omega)).mp a))]
    exact o01 (Or.inl rfl) h
end MP
