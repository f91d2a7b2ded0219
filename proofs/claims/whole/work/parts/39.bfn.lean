/-! the reference finds the next states -/
theorem lvR_sm {S : List Nat} {σ σ' : mS} {h : Nat} {L : List bE} (hs : sm S σ σ') (h2 : 12 ∉ S) (h3 : 13 ∉ S) (h4 : 14 ∉ S) (h5 : 15 ∉ S) (hl : lvR σ h L) : lvR σ' h L := by
  unfold lvR
  rw [hs.2.2 12 h2, hs.2.2 13 h3, hs.2.2 14 h4, hs.2.2 15 h5]
  exact hl
theorem chI_sm {S : List Nat} {σ σ' : mS} {L : List bE} (hs : sm S σ σ') (h6 : 16 ∉ S) (h7 : 17 ∉ S) (hl : chI σ L) : chI σ' L := by
  unfold chI
  rw [hs.2.2 16 h6, hs.2.2 17 h7]
  exact hl
theorem hsL_a {L : List bE} {e : bE} {k : Nat} (h : k < L.length) : hsL (L ++ [e]) k = hsL L k := by
  unfold hsL
  rw [List.getElem?_append_left h]
theorem hsL_e {L : List bE} {e : bE} : hsL (L ++ [e]) L.length = hsN e.1 := by
  unfold hsL
  rw [List.getElem?_append_right (Nat.le_refl _), Nat.sub_self]
  rfl
theorem gt_app {α : Type} {L : List α} {a e : α} {k : Nat} (h : (L ++ [a])[k]? = some e) : L[k]? = some e ∨ (k = L.length ∧ e = a) := by
  rcases Nat.lt_or_ge k L.length with hk | hk
  · rw [List.getElem?_append_left hk] at h; exact Or.inl h
  · have := gt_lt h
    rw [List.length_append, List.length_singleton] at this
    have e2 : k = L.length := by omega
    subst e2
    rw [List.getElem?_append_right (Nat.le_refl _), Nat.sub_self] at h
    exact Or.inr ⟨rfl, (Option.some.inj h).symm⟩
section BF2
variable {sa : Nat → Nat} {d : Nat} {Q : xQ} {q : Nat} {M0 M : xM} {σ : mS} {R : Nat} {s : fS}
theorem c_M_add {h kf w : Nat} (hh : h ≤ 8) {L : List bE} (hL : lvR σ h L) (hlt : L.length < 2000) (hc : chI σ L) {f : Nat → Int32} (hrow : ∀ j, j < 29 → σ.2.2.1 20 j = f j)
    (hq : ∀ σ', sm [12, 13, 14, 15, 16, 17] σ σ' → lvR σ' h (L ++ [(f, kf, w)]) → chI σ' (L ++ [(f, kf, w)]) → (∀ (h' : Nat) (L' : List bE), h' ≠ h → h' ≤ 8 → lvR σ h' L' → lvR σ' h' L') → Q none (mM q M0 σ')) : xEv xP (xprim sa) (d + 2) m_M_add [.ref q, .int (nI h), .int (nI (hsN f)), .int (nI kf), .int (nI w)] (mM q M0 σ) Q := by
  have hs := (hsN_e f).1
  have e13 := hL.1
  refine t_M_add ?_
  simp (disch := omega) only [↓i01, ↓i02, ↓xrI_mk, ↓xrV_mk, ↓xrL_mk, ↓xrR_mk, ↓mg_0, ↓mg_1, ↓mp_2, ↓mg_2, ↓mg_3, ↓mg_4, ↓mp_5, ↓mg_5, ↓mp_6, ↓mg_6, ↓mp_7, ↓mg_7, ↓mp_8, ↓mg_8, ↓mp_9, ↓mg_9, ↓mp_10, ↓mg_10, ↓mp_11, ↓mg_11, ↓mp_12, ↓mg_12, ↓mp_13, ↓mg_13, ↓mp_14, ↓mg_14, ↓mp_15, ↓mg_15, ↓mp_16, ↓mg_16, ↓mg_17, ↓mp_18, ↓mg_18, ↓mp_19, ↓mg_19, ↓mp_20, ↓mg_20, ↓mp_21, ↓mg_21, ↓mg_22, ↓mg_23, ↓mg_24, ↓mg_25, ↓mg_26, ↓mg_27, ↓mg_28, ↓mg_29, ↓mg_30, ↓mg_31, ↓mg_32, ↓mg_33, ↓mg_34, ↓mp_35, ↓mg_35, ↓mp_36, ↓mg_36, ↓mg_37, ↓mg_38, ↓mg_39, ↓ma_1, ↓ms_1, ↓ma_2, ↓ms_2, ↓ma_3, ↓ms_3, ↓ma_4, ↓ms_4, ↓ma_5, ↓ms_5, ↓ma_6, ↓ms_6, ↓ma_9, ↓ms_9, ↓ma_10, ↓ms_10, ↓ma_11, ↓ms_11, ↓ma_12, ↓ms_12, ↓ma_13, ↓ms_13, ↓ma_14, ↓ms_14, ↓ma_15, ↓ms_15, ↓ma_16, ↓ms_16, ↓ma_17, ↓ms_17, ↓ma_18, ↓ms_18, ↓ma_19, ↓ms_19, ↓ma_20, ↓ms_20, ↓ma_21, ↓ms_21, ↓mo_q', ↓ma_L, ↓ms_L, ↓ma_Z, ↓ms_Z, mF_1, mF_2, mWd_1, mWd_w, mWd_2, mA_1, mA_w, mA_a, mA_v, mV_1, mV_w, mV_a, mV_v, mA_mA, mV_mV, mF_mF, nI_add, nI_cl, vpi, i01, i02, i10, i11, ↓reduceIte, not_true_eq_false, not_false_eq_true, and_true, true_and, ne_eq, Nat.reduceAdd, Nat.reduceMul, Nat.reduceSub, Nat.reduceEqDiff, reduceCtorEq, Nat.add_zero, Nat.zero_add, n0p, ite_true, ite_false, if_true, if_false, nlT, nlF, nleT, nleF, neT, neF, n0F, n0T, pk_sub, pk_mul, nIm1, nIm2, nlZ, nleZ, upd_s, upd_n, pk_uLs, pk_uLn, nar_0, nar_1, nar_n0, nar_n1, e13]
  have loop : ∀ (m n : Nat), m + n = 30 → K_M_add sa (d + 1) Q 1 [some (.ref q), some (.int (nI h)), some (.int (nI (hsN f))), some (.int (nI kf)), some (.int (nI w)), some (.int (nI L.length)), some (.int (nI n))] [] (mM q M0 (mA σ 12 (lay (σ.2.2.1 12) (30 * (2000 * h + L.length)) n (σ.2.2.1 20)))) (0, 0) := by
    intro m
    induction m with
    | zero =>
      intro n hn
      refine t_M_add_1 ?_
      simp (disch := omega) only [↓i01, ↓i02, ↓xrI_mk, ↓xrV_mk, ↓xrL_mk, ↓xrR_mk, ↓mg_0, ↓mg_1, ↓mp_2, ↓mg_2, ↓mg_3, ↓mg_4, ↓mp_5, ↓mg_5, ↓mp_6, ↓mg_6, ↓mp_7, ↓mg_7, ↓mp_8, ↓mg_8, ↓mp_9, ↓mg_9, ↓mp_10, ↓mg_10, ↓mp_11, ↓mg_11, ↓mp_12, ↓mg_12, ↓mp_13, ↓mg_13, ↓mp_14, ↓mg_14, ↓mp_15, ↓mg_15, ↓mp_16, ↓mg_16, ↓mg_17, ↓mp_18, ↓mg_18, ↓mp_19, ↓mg_19, ↓mp_20, ↓mg_20, ↓mp_21, ↓mg_21, ↓mg_22, ↓mg_23, ↓mg_24, ↓mg_25, ↓mg_26, ↓mg_27, ↓mg_28, ↓mg_29, ↓mg_30, ↓mg_31, ↓mg_32, ↓mg_33, ↓mg_34, ↓mp_35, ↓mg_35, ↓mp_36, ↓mg_36, ↓mg_37, ↓mg_38, ↓mg_39, ↓ma_1, ↓ms_1, ↓ma_2, ↓ms_2, ↓ma_3, ↓ms_3, ↓ma_4, ↓ms_4, ↓ma_5, ↓ms_5, ↓ma_6, ↓ms_6, ↓ma_9, ↓ms_9, ↓ma_10, ↓ms_10, ↓ma_11, ↓ms_11, ↓ma_12, ↓ms_12, ↓ma_13, ↓ms_13, ↓ma_14, ↓ms_14, ↓ma_15, ↓ms_15, ↓ma_16, ↓ms_16, ↓ma_17, ↓ms_17, ↓ma_18, ↓ms_18, ↓ma_19, ↓ms_19, ↓ma_20, ↓ms_20, ↓ma_21, ↓ms_21, ↓mo_q', ↓ma_L, ↓ms_L, ↓ma_Z, ↓ms_Z, mF_1, mF_2, mWd_1, mWd_w, mWd_2, mA_1, mA_w, mA_a, mA_v, mV_1, mV_w, mV_a, mV_v, mA_mA, mV_mV, mF_mF, nI_add, nI_cl, vpi, i01, i02, i10, i11, ↓reduceIte, not_true_eq_false, not_false_eq_true, and_true, true_and, ne_eq, Nat.reduceAdd, Nat.reduceMul, Nat.reduceSub, Nat.reduceEqDiff, reduceCtorEq, Nat.add_zero, Nat.zero_add, n0p, ite_true, ite_false, if_true, if_false, nlT, nlF, nleT, nleF, neT, neF, n0F, n0T, pk_sub, pk_mul, nIm1, nIm2, nlZ, nleZ, upd_s, upd_n, pk_uLs, pk_uLn, nar_0, nar_1, nar_n0, nar_n1, e13]
      rw [show n = 30 by omega]
      refine hq _ (sm_t (sm_A (by decide)) (sm_t (sm_A (by decide)) (sm_t (sm_A (by decide)) (sm_t (sm_A (by decide)) (sm_t (sm_A (by decide)) (sm_A (by decide))))))) ?_ ?_ ?_
      · refine ⟨?_, by rw [List.length_append, List.length_singleton]; omega, fun k e he => ?_⟩
        · show upd (σ.2.2.1 13) h (nI (L.length + 1)) h = _
          rw [upd_s, List.length_append, List.length_singleton]
        · show (∀ j, j < 29 → lay (σ.2.2.1 12) _ 30 (σ.2.2.1 20) (30 * (2000 * h + k) + j) = e.1 j) ∧ (0 < h → upd (σ.2.2.1 14) _ _ (2000 * h + k) = nI e.2.1 ∧ upd (σ.2.2.1 15) _ _ (2000 * h + k) = nI e.2.2)
          rcases gt_app he with he | ⟨rfl, rfl⟩
          · have hk := gt_lt he
            have := hL.2.2 k e he
            refine ⟨fun j hj => ?_, fun h0 => ⟨?_, ?_⟩⟩
            · rw [lay_out (by omega)]; exact this.1 j hj
            · rw [upd_n (by omega)]; exact (this.2 h0).1
            · rw [upd_n (by omega)]; exact (this.2 h0).2
          · refine ⟨fun j hj => ?_, fun h0 => ⟨?_, ?_⟩⟩
            · rw [lay_in (by omega)]; exact hrow j hj
            · rw [upd_s]
            · rw [upd_s]
      · constructor
        · intro s' hs'
          show upd (σ.2.2.1 17) (hsN f) (nI L.length) s' = _
          rw [List.length_append, List.length_singleton]
          unfold pvI
          rw [hsL_e]
          by_cases e : hsN f = s'
          · rw [if_pos e, e, upd_s]
          · rw [if_neg e, upd_n (Ne.symm e), hc.1 s' hs']
            exact pvI_c _ (fun k hk => (hsL_a hk).symm)
        · intro k hk
          show upd (σ.2.2.1 16) L.length (σ.2.2.1 17 (hsN f)) k = _
          rw [List.length_append, List.length_singleton] at hk
          by_cases e : k = L.length
          · rw [e, upd_s, hsL_e, hc.1 _ hs]
            exact pvI_c _ (fun k hk => (hsL_a hk).symm)
          · rw [upd_n e, hc.2 k (by omega), hsL_a (by omega)]
            exact pvI_c _ (fun j hj => (hsL_a (by omega)).symm)
      · intro h' L' hne h8 hl'
        have hlen := hl'.2.1
        refine ⟨?_, hl'.2.1, fun k e he => ?_⟩
        · show upd (σ.2.2.1 13) h (nI (L.length + 1)) h' = _
          rw [upd_n hne]; exact hl'.1
        · have hk := gt_lt he
          have := hl'.2.2 k e he
          show (∀ j, j < 29 → lay (σ.2.2.1 12) _ 30 (σ.2.2.1 20) (30 * (2000 * h' + k) + j) = e.1 j) ∧ (0 < h' → upd (σ.2.2.1 14) _ _ (2000 * h' + k) = nI e.2.1 ∧ upd (σ.2.2.1 15) _ _ (2000 * h' + k) = nI e.2.2)
          refine ⟨fun j hj => ?_, fun h0 => ⟨?_, ?_⟩⟩
          · rw [lay_out (by omega)]; exact this.1 j hj
          · rw [upd_n (by omega)]; exact (this.2 h0).1
          · rw [upd_n (by omega)]; exact (this.2 h0).2
    | succ m ih =>
      intro n hn
      refine t_M_add_1 ?_
      simp (disch := omega) only [↓i01, ↓i02, ↓xrI_mk, ↓xrV_mk, ↓xrL_mk, ↓xrR_mk, ↓mg_0, ↓mg_1, ↓mp_2, ↓mg_2, ↓mg_3, ↓mg_4, ↓mp_5, ↓mg_5, ↓mp_6, ↓mg_6, ↓mp_7, ↓mg_7, ↓mp_8, ↓mg_8, ↓mp_9, ↓mg_9, ↓mp_10, ↓mg_10, ↓mp_11, ↓mg_11, ↓mp_12, ↓mg_12, ↓mp_13, ↓mg_13, ↓mp_14, ↓mg_14, ↓mp_15, ↓mg_15, ↓mp_16, ↓mg_16, ↓mg_17, ↓mp_18, ↓mg_18, ↓mp_19, ↓mg_19, ↓mp_20, ↓mg_20, ↓mp_21, ↓mg_21, ↓mg_22, ↓mg_23, ↓mg_24, ↓mg_25, ↓mg_26, ↓mg_27, ↓mg_28, ↓mg_29, ↓mg_30, ↓mg_31, ↓mg_32, ↓mg_33, ↓mg_34, ↓mp_35, ↓mg_35, ↓mp_36, ↓mg_36, ↓mg_37, ↓mg_38, ↓mg_39, ↓ma_1, ↓ms_1, ↓ma_2, ↓ms_2, ↓ma_3, ↓ms_3, ↓ma_4, ↓ms_4, ↓ma_5, ↓ms_5, ↓ma_6, ↓ms_6, ↓ma_9, ↓ms_9, ↓ma_10, ↓ms_10, ↓ma_11, ↓ms_11, ↓ma_12, ↓ms_12, ↓ma_13, ↓ms_13, ↓ma_14, ↓ms_14, ↓ma_15, ↓ms_15, ↓ma_16, ↓ms_16, ↓ma_17, ↓ms_17, ↓ma_18, ↓ms_18, ↓ma_19, ↓ms_19, ↓ma_20, ↓ms_20, ↓ma_21, ↓ms_21, ↓mo_q', ↓ma_L, ↓ms_L, ↓ma_Z, ↓ms_Z, mF_1, mF_2, mWd_1, mWd_w, mWd_2, mA_1, mA_w, mA_a, mA_v, mV_1, mV_w, mV_a, mV_v, mA_mA, mV_mV, mF_mF, nI_add, nI_cl, vpi, i01, i02, i10, i11, ↓reduceIte, not_true_eq_false, not_false_eq_true, and_true, true_and, ne_eq, Nat.reduceAdd, Nat.reduceMul, Nat.reduceSub, Nat.reduceEqDiff, reduceCtorEq, Nat.add_zero, Nat.zero_add, n0p, ite_true, ite_false, if_true, if_false, nlT, nlF, nleT, nleF, neT, neF, n0F, n0T, pk_sub, pk_mul, nIm1, nIm2, nlZ, nleZ, upd_s, upd_n, pk_uLs, pk_uLn, nar_0, nar_1, nar_n0, nar_n1]
      refine c_M_stateAt ?_
      simp (disch := omega) only [↓i01, ↓i02, ↓xrI_mk, ↓xrV_mk, ↓xrL_mk, ↓xrR_mk, ↓mg_0, ↓mg_1, ↓mp_2, ↓mg_2, ↓mg_3, ↓mg_4, ↓mp_5, ↓mg_5, ↓mp_6, ↓mg_6, ↓mp_7, ↓mg_7, ↓mp_8, ↓mg_8, ↓mp_9, ↓mg_9, ↓mp_10, ↓mg_10, ↓mp_11, ↓mg_11, ↓mp_12, ↓mg_12, ↓mp_13, ↓mg_13, ↓mp_14, ↓mg_14, ↓mp_15, ↓mg_15, ↓mp_16, ↓mg_16, ↓mg_17, ↓mp_18, ↓mg_18, ↓mp_19, ↓mg_19, ↓mp_20, ↓mg_20, ↓mp_21, ↓mg_21, ↓mg_22, ↓mg_23, ↓mg_24, ↓mg_25, ↓mg_26, ↓mg_27, ↓mg_28, ↓mg_29, ↓mg_30, ↓mg_31, ↓mg_32, ↓mg_33, ↓mg_34, ↓mp_35, ↓mg_35, ↓mp_36, ↓mg_36, ↓mg_37, ↓mg_38, ↓mg_39, ↓ma_1, ↓ms_1, ↓ma_2, ↓ms_2, ↓ma_3, ↓ms_3, ↓ma_4, ↓ms_4, ↓ma_5, ↓ms_5, ↓ma_6, ↓ms_6, ↓ma_9, ↓ms_9, ↓ma_10, ↓ms_10, ↓ma_11, ↓ms_11, ↓ma_12, ↓ms_12, ↓ma_13, ↓ms_13, ↓ma_14, ↓ms_14, ↓ma_15, ↓ms_15, ↓ma_16, ↓ms_16, ↓ma_17, ↓ms_17, ↓ma_18, ↓ms_18, ↓ma_19, ↓ms_19, ↓ma_20, ↓ms_20, ↓ma_21, ↓ms_21, ↓mo_q', ↓ma_L, ↓ms_L, ↓ma_Z, ↓ms_Z, mF_1, mF_2, mWd_1, mWd_w, mWd_2, mA_1, mA_w, mA_a, mA_v, mV_1, mV_w, mV_a, mV_v, mA_mA, mV_mV, mF_mF, nI_add, nI_cl, vpi, i01, i02, i10, i11, ↓reduceIte, not_true_eq_false, not_false_eq_true, and_true, true_and, ne_eq, Nat.reduceAdd, Nat.reduceMul, Nat.reduceSub, Nat.reduceEqDiff, reduceCtorEq, Nat.add_zero, Nat.zero_add, n0p, ite_true, ite_false, if_true, if_false, nlT, nlF, nleT, nleF, neT, neF, n0F, n0T, pk_sub, pk_mul, nIm1, nIm2, nlZ, nleZ, upd_s, upd_n, pk_uLs, pk_uLn, nar_0, nar_1, nar_n0, nar_n1]
      have := ih (n + 1) (by omega)
      rw [← lay_s] at this
      exact this
  have := loop 30 0 rfl
  rw [lay_0, mA_self] at this
  exact this
/-- what a search leaves as it was -/
def kpB (σ σ' : mS) : Prop := sm [6, 8, 12, 13, 14, 15, 16, 17, 19, 20] σ σ'
theorem lay_eq {F r : Nat → Int32} (h : ∀ j, j < 29 → F j = r j) : F = lay F 0 29 r := by
  funext j
  unfold lay
  by_cases e : 0 ≤ j ∧ j < 0 + 29
  · rw [if_pos e, Nat.sub_zero]; exact h j (by omega)
  · rw [if_neg e]
theorem c_M_findNext (hR : σ.1 2 = nI R) (hR3 : 3 ≤ R) (hR9 : R ≤ 9) {l : List (Nat × Term)} (hr : rul σ l) {A : Nat → Int32} (hA : σ.2.2.1 1 = A) (hlie : lieV A) {kd fs : Nat → Int32} (hkd : ∀ i, i < 9 → σ.2.2.1 10 i = kd i) (hfs : ∀ i, i < 9 → σ.2.2.1 9 i = fs i) (hf9 : ∀ i, i < 9 → 0 ≤ (fs i).toInt ∧ (fs i).toInt ≤ 9)
    {g m : Nat} (hg : σ.1 36 = nI g) (hg2 : g ≤ 2) (hm : σ.1 35 = nI m) (hm2 : m ≤ 2) {fr : Nat → Nat} (hfr : ∀ j, j < m → σ.2.2.1 18 j = nI (fr j) ∧ fr j < R ∧ kd (fr j) = 3) (hdi : ∀ i j, i < m → j < m → i ≠ j → fr i ≠ fr j)
    {h : Nat} (hh : h < 8) {rv : Int32} {x : Nat} (hrv : rv = -1 ∨ ∃ r, r < R ∧ rv = nI r) (hx : x < 189) {Ls : Nat → List bE} (hL : ∀ j, j ≤ h → lvR σ j (Ls j)) (hrows : ∀ e, e ∈ Ls h → rk e.1 ∧ e.1 0 = nI h)
    (h1 : ∀ σ' L', bfO (nxS R l A kd fs fr m g) (ftS A rv x) (dgW g m) (Ls h) 0 [] = some L' → kpB σ σ' → (∀ j, j ≤ h → lvR σ' j (Ls j)) → lvR σ' (h + 1) L' → Q (some (.int 1)) (mM q M0 σ'))
    (h0 : bfO (nxS R l A kd fs fr m g) (ftS A rv x) (dgW g m) (Ls h) 0 [] = none → ∀ σ', kpB σ σ' → Q (some (.int 0)) (mM q M0 σ')) : xEv xP (xprim sa) (d + 6) m_M_findNext [.ref q, .int (nI h), .int rv, .int (nI x)] (mM q M0 σ) Q := by
  have hW := dgW_2 hg2 hm2
  generalize eW : dgW g m = W at *
  generalize enx : nxS R l A kd fs fr m g = nx at *
  have inv20 : ∀ (τ : mS) (F : Nat → Int32), sm [20] τ (mA τ 20 F) := fun τ F => sm_A (by decide)
  -- all that holds throughout
  have base : ∀ τ : mS, kpB σ τ → τ.1 2 = nI R ∧ rul τ l ∧ τ.2.2.1 1 = A ∧ (∀ i, i < 9 → τ.2.2.1 10 i = kd i) ∧ (∀ i, i < 9 → τ.2.2.1 9 i = fs i) ∧ τ.1 36 = nI g ∧ τ.1 35 = nI m ∧ ∀ j, j < m → τ.2.2.1 18 j = nI (fr j) := by
    intro τ ht
    refine ⟨by rw [ht.1]; exact hR, rul_sm ht (by decide) (by decide) hr, (ht.2.2 1 (by decide)).trans hA, ?_, ?_, by rw [ht.1]; exact hg, by rw [ht.1]; exact hm, ?_⟩
    · rw [ht.2.2 10 (by decide)]; exact hkd
    · rw [ht.2.2 9 (by decide)]; exact hfs
    · rw [ht.2.2 18 (by decide)]; exact fun j hj => (hfr j hj).1
  -- the states, one behind another
  have at7 : ∀ (rest : List bE) (k : Nat) (acc : List bE) (τ : mS), (Ls h).drop k = rest → k ≤ (Ls h).length → kpB σ τ → (∀ j, j ≤ h → lvR τ j (Ls j)) → lvR τ (h + 1) acc → chI τ acc → bfO nx (ftS A rv x) W (Ls h) 0 [] = bfO nx (ftS A rv x) W rest k acc → K_M_findNext sa (d + 5) Q 7 [some (.ref q), some (.int (nI h)), some (.int rv), some (.int (nI x)), some (.int (nI W)), some (.int (nI k)), none, none] [] (mM q M0 τ) (0, 0) := by
    intro rest
    induction rest with
    | nil =>
      intro k acc τ hk hkl ht hLτ hacc hch he
      refine t_M_findNext_7 ?_
      have e13 := (hLτ h (Nat.le_refl _)).1
      have h2000 := (hLτ h (Nat.le_refl _)).2.1
      have hlen := drop_nil hk
      simp (disch := omega) only [↓i01, ↓i02, ↓xrI_mk, ↓xrV_mk, ↓xrL_mk, ↓xrR_mk, ↓mg_0, ↓mg_1, ↓mp_2, ↓mg_2, ↓mg_3, ↓mg_4, ↓mp_5, ↓mg_5, ↓mp_6, ↓mg_6, ↓mp_7, ↓mg_7, ↓mp_8, ↓mg_8, ↓mp_9, ↓mg_9, ↓mp_10, ↓mg_10, ↓mp_11, ↓mg_11, ↓mp_12, ↓mg_12, ↓mp_13, ↓mg_13, ↓mp_14, ↓mg_14, ↓mp_15, ↓mg_15, ↓mp_16, ↓mg_16, ↓mg_17, ↓mp_18, ↓mg_18, ↓mp_19, ↓mg_19, ↓mp_20, ↓mg_20, ↓mp_21, ↓mg_21, ↓mg_22, ↓mg_23, ↓mg_24, ↓mg_25, ↓mg_26, ↓mg_27, ↓mg_28, ↓mg_29, ↓mg_30, ↓mg_31, ↓mg_32, ↓mg_33, ↓mg_34, ↓mp_35, ↓mg_35, ↓mp_36, ↓mg_36, ↓mg_37, ↓mg_38, ↓mg_39, ↓ma_1, ↓ms_1, ↓ma_2, ↓ms_2, ↓ma_3, ↓ms_3, ↓ma_4, ↓ms_4, ↓ma_5, ↓ms_5, ↓ma_6, ↓ms_6, ↓ma_9, ↓ms_9, ↓ma_10, ↓ms_10, ↓ma_11, ↓ms_11, ↓ma_12, ↓ms_12, ↓ma_13, ↓ms_13, ↓ma_14, ↓ms_14, ↓ma_15, ↓ms_15, ↓ma_16, ↓ms_16, ↓ma_17, ↓ms_17, ↓ma_18, ↓ms_18, ↓ma_19, ↓ms_19, ↓ma_20, ↓ms_20, ↓ma_21, ↓ms_21, ↓mo_q', ↓ma_L, ↓ms_L, ↓ma_Z, ↓ms_Z, mF_1, mF_2, mWd_1, mWd_w, mWd_2, mA_1, mA_w, mA_a, mA_v, mV_1, mV_w, mV_a, mV_v, mA_mA, mV_mV, mF_mF, nI_add, nI_cl, vpi, i01, i02, i10, i11, ↓reduceIte, not_true_eq_false, not_false_eq_true, and_true, true_and, ne_eq, Nat.reduceAdd, Nat.reduceMul, Nat.reduceSub, Nat.reduceEqDiff, reduceCtorEq, Nat.add_zero, Nat.zero_add, n0p, ite_true, ite_false, if_true, if_false, nlT, nlF, nleT, nleF, neT, neF, n0F, n0T, pk_sub, pk_mul, nIm1, nIm2, nlZ, nleZ, upd_s, upd_n, pk_uLs, pk_uLn, nar_0, nar_1, nar_n0, nar_n1, e13]
      exact h1 τ acc (by rw [he]; rfl) ht hLτ hacc
    | cons e rest ih =>
      intro k acc τ hk hkl ht hLτ hacc hch he
      obtain ⟨g1, g2, g3⟩ := drop_cons hk
      have e13 := (hLτ h (Nat.le_refl _)).1
      have h2000 := (hLτ h (Nat.le_refl _)).2.1
      have hrow := ((hLτ h (Nat.le_refl _)).2.2 k e g1).1
      have hre := hrows e (List.mem_of_getElem? g1)
      have b := base τ ht
      refine t_M_findNext_7 ?_
      simp (disch := omega) only [↓i01, ↓i02, ↓xrI_mk, ↓xrV_mk, ↓xrL_mk, ↓xrR_mk, ↓mg_0, ↓mg_1, ↓mp_2, ↓mg_2, ↓mg_3, ↓mg_4, ↓mp_5, ↓mg_5, ↓mp_6, ↓mg_6, ↓mp_7, ↓mg_7, ↓mp_8, ↓mg_8, ↓mp_9, ↓mg_9, ↓mp_10, ↓mg_10, ↓mp_11, ↓mg_11, ↓mp_12, ↓mg_12, ↓mp_13, ↓mg_13, ↓mp_14, ↓mg_14, ↓mp_15, ↓mg_15, ↓mp_16, ↓mg_16, ↓mg_17, ↓mp_18, ↓mg_18, ↓mp_19, ↓mg_19, ↓mp_20, ↓mg_20, ↓mp_21, ↓mg_21, ↓mg_22, ↓mg_23, ↓mg_24, ↓mg_25, ↓mg_26, ↓mg_27, ↓mg_28, ↓mg_29, ↓mg_30, ↓mg_31, ↓mg_32, ↓mg_33, ↓mg_34, ↓mp_35, ↓mg_35, ↓mp_36, ↓mg_36, ↓mg_37, ↓mg_38, ↓mg_39, ↓ma_1, ↓ms_1, ↓ma_2, ↓ms_2, ↓ma_3, ↓ms_3, ↓ma_4, ↓ms_4, ↓ma_5, ↓ms_5, ↓ma_6, ↓ms_6, ↓ma_9, ↓ms_9, ↓ma_10, ↓ms_10, ↓ma_11, ↓ms_11, ↓ma_12, ↓ms_12, ↓ma_13, ↓ms_13, ↓ma_14, ↓ms_14, ↓ma_15, ↓ms_15, ↓ma_16, ↓ms_16, ↓ma_17, ↓ms_17, ↓ma_18, ↓ms_18, ↓ma_19, ↓ms_19, ↓ma_20, ↓ms_20, ↓ma_21, ↓ms_21, ↓mo_q', ↓ma_L, ↓ms_L, ↓ma_Z, ↓ms_Z, mF_1, mF_2, mWd_1, mWd_w, mWd_2, mA_1, mA_w, mA_a, mA_v, mV_1, mV_w, mV_a, mV_v, mA_mA, mV_mV, mF_mF, nI_add, nI_cl, vpi, i01, i02, i10, i11, ↓reduceIte, not_true_eq_false, not_false_eq_true, and_true, true_and, ne_eq, Nat.reduceAdd, Nat.reduceMul, Nat.reduceSub, Nat.reduceEqDiff, reduceCtorEq, Nat.add_zero, Nat.zero_add, n0p, ite_true, ite_false, if_true, if_false, nlT, nlF, nleT, nleF, neT, neF, n0F, n0T, pk_sub, pk_mul, nIm1, nIm2, nlZ, nleZ, upd_s, upd_n, pk_uLs, pk_uLn, nar_0, nar_1, nar_n0, nar_n1, e13]
      refine c_M_stateAt ?_
      simp (disch := omega) only [↓i01, ↓i02, ↓xrI_mk, ↓xrV_mk, ↓xrL_mk, ↓xrR_mk, ↓mg_0, ↓mg_1, ↓mp_2, ↓mg_2, ↓mg_3, ↓mg_4, ↓mp_5, ↓mg_5, ↓mp_6, ↓mg_6, ↓mp_7, ↓mg_7, ↓mp_8, ↓mg_8, ↓mp_9, ↓mg_9, ↓mp_10, ↓mg_10, ↓mp_11, ↓mg_11, ↓mp_12, ↓mg_12, ↓mp_13, ↓mg_13, ↓mp_14, ↓mg_14, ↓mp_15, ↓mg_15, ↓mp_16, ↓mg_16, ↓mg_17, ↓mp_18, ↓mg_18, ↓mp_19, ↓mg_19, ↓mp_20, ↓mg_20, ↓mp_21, ↓mg_21, ↓mg_22, ↓mg_23, ↓mg_24, ↓mg_25, ↓mg_26, ↓mg_27, ↓mg_28, ↓mg_29, ↓mg_30, ↓mg_31, ↓mg_32, ↓mg_33, ↓mg_34, ↓mp_35, ↓mg_35, ↓mp_36, ↓mg_36, ↓mg_37, ↓mg_38, ↓mg_39, ↓ma_1, ↓ms_1, ↓ma_2, ↓ms_2, ↓ma_3, ↓ms_3, ↓ma_4, ↓ms_4, ↓ma_5, ↓ms_5, ↓ma_6, ↓ms_6, ↓ma_9, ↓ms_9, ↓ma_10, ↓ms_10, ↓ma_11, ↓ms_11, ↓ma_12, ↓ms_12, ↓ma_13, ↓ms_13, ↓ma_14, ↓ms_14, ↓ma_15, ↓ms_15, ↓ma_16, ↓ms_16, ↓ma_17, ↓ms_17, ↓ma_18, ↓ms_18, ↓ma_19, ↓ms_19, ↓ma_20, ↓ms_20, ↓ma_21, ↓ms_21, ↓mo_q', ↓ma_L, ↓ms_L, ↓ma_Z, ↓ms_Z, mF_1, mF_2, mWd_1, mWd_w, mWd_2, mA_1, mA_w, mA_a, mA_v, mV_1, mV_w, mV_a, mV_v, mA_mA, mV_mV, mF_mF, nI_add, nI_cl, vpi, i01, i02, i10, i11, ↓reduceIte, not_true_eq_false, not_false_eq_true, and_true, true_and, ne_eq, Nat.reduceAdd, Nat.reduceMul, Nat.reduceSub, Nat.reduceEqDiff, reduceCtorEq, Nat.add_zero, Nat.zero_add, n0p, ite_true, ite_false, if_true, if_false, nlT, nlF, nleT, nleF, neT, neF, n0F, n0T, pk_sub, pk_mul, nIm1, nIm2, nlZ, nleZ, upd_s, upd_n, pk_uLs, pk_uLn, nar_0, nar_1, nar_n0, nar_n1]
      refine c_M_go (kd := kd) (fs := fs) (f := e.1) b.1 hR3 hR9 (kr := 12) (x := 30 * (2000 * h + k)) (ke := 19) (y := 0) rfl (by decide) (by show _ ≤ 540000; omega) (by decide) (Or.inr rfl) (by decide) (Or.inl (by decide)) b.2.2.1 b.2.2.2.1 b.2.2.2.2.1 hrow (rb_of hre.1 (by rw [hre.2, nI_i (by omega)]; omega)) b.2.1 hf9 hlie (fun τ2 s2 r2 => ?_)
      rw [xrV_mk]
      -- the doings, one behind another
      have at9 : ∀ (m' w : Nat) (acc : List bE) (τ : mS), m' + w = W → kpB σ τ → (∀ j, j ≤ h → lvR τ j (Ls j)) → lvR τ (h + 1) acc → chI τ acc → (∀ j, j < 29 → τ.2.2.1 19 j = goS R l A kd fs e.1 j) → (match bfI (nx e.1) (ftS A rv x) k m' w acc with | none => bfO nx (ftS A rv x) W (Ls h) 0 [] = none | some acc' => bfO nx (ftS A rv x) W (Ls h) 0 [] = bfO nx (ftS A rv x) W rest (k + 1) acc') → K_M_findNext sa (d + 5) Q 9 [some (.ref q), some (.int (nI h)), some (.int rv), some (.int (nI x)), some (.int (nI W)), some (.int (nI k)), some (.int (nI w)), none] [] (mM q M0 τ) (0, 0) := by
        intro m'
        induction m' with
        | zero =>
          intro w acc τ hw ht hLτ hacc hch h19 hres
          refine t_M_findNext_9 ?_
          simp (disch := omega) only [↓i01, ↓i02, ↓xrI_mk, ↓xrV_mk, ↓xrL_mk, ↓xrR_mk, ↓mg_0, ↓mg_1, ↓mp_2, ↓mg_2, ↓mg_3, ↓mg_4, ↓mp_5, ↓mg_5, ↓mp_6, ↓mg_6, ↓mp_7, ↓mg_7, ↓mp_8, ↓mg_8, ↓mp_9, ↓mg_9, ↓mp_10, ↓mg_10, ↓mp_11, ↓mg_11, ↓mp_12, ↓mg_12, ↓mp_13, ↓mg_13, ↓mp_14, ↓mg_14, ↓mp_15, ↓mg_15, ↓mp_16, ↓mg_16, ↓mg_17, ↓mp_18, ↓mg_18, ↓mp_19, ↓mg_19, ↓mp_20, ↓mg_20, ↓mp_21, ↓mg_21, ↓mg_22, ↓mg_23, ↓mg_24, ↓mg_25, ↓mg_26, ↓mg_27, ↓mg_28, ↓mg_29, ↓mg_30, ↓mg_31, ↓mg_32, ↓mg_33, ↓mg_34, ↓mp_35, ↓mg_35, ↓mp_36, ↓mg_36, ↓mg_37, ↓mg_38, ↓mg_39, ↓ma_1, ↓ms_1, ↓ma_2, ↓ms_2, ↓ma_3, ↓ms_3, ↓ma_4, ↓ms_4, ↓ma_5, ↓ms_5, ↓ma_6, ↓ms_6, ↓ma_9, ↓ms_9, ↓ma_10, ↓ms_10, ↓ma_11, ↓ms_11, ↓ma_12, ↓ms_12, ↓ma_13, ↓ms_13, ↓ma_14, ↓ms_14, ↓ma_15, ↓ms_15, ↓ma_16, ↓ms_16, ↓ma_17, ↓ms_17, ↓ma_18, ↓ms_18, ↓ma_19, ↓ms_19, ↓ma_20, ↓ms_20, ↓ma_21, ↓ms_21, ↓mo_q', ↓ma_L, ↓ms_L, ↓ma_Z, ↓ms_Z, mF_1, mF_2, mWd_1, mWd_w, mWd_2, mA_1, mA_w, mA_a, mA_v, mV_1, mV_w, mV_a, mV_v, mA_mA, mV_mV, mF_mF, nI_add, nI_cl, vpi, i01, i02, i10, i11, ↓reduceIte, not_true_eq_false, not_false_eq_true, and_true, true_and, ne_eq, Nat.reduceAdd, Nat.reduceMul, Nat.reduceSub, Nat.reduceEqDiff, reduceCtorEq, Nat.add_zero, Nat.zero_add, n0p, ite_true, ite_false, if_true, if_false, nlT, nlF, nleT, nleF, neT, neF, n0F, n0T, pk_sub, pk_mul, nIm1, nIm2, nlZ, nleZ, upd_s, upd_n, pk_uLs, pk_uLn, nar_0, nar_1, nar_n0, nar_n1]
          exact ih (k + 1) acc τ g2 (by omega) ht hLτ hacc hch hres
        | succ m' ihw =>
          intro w acc τ hw ht hLτ hacc hch h19 hres
          refine t_M_findNext_9 ?_
          simp (disch := omega) only [↓i01, ↓i02, ↓xrI_mk, ↓xrV_mk, ↓xrL_mk, ↓xrR_mk, ↓mg_0, ↓mg_1, ↓mp_2, ↓mg_2, ↓mg_3, ↓mg_4, ↓mp_5, ↓mg_5, ↓mp_6, ↓mg_6, ↓mp_7, ↓mg_7, ↓mp_8, ↓mg_8, ↓mp_9, ↓mg_9, ↓mp_10, ↓mg_10, ↓mp_11, ↓mg_11, ↓mp_12, ↓mg_12, ↓mp_13, ↓mg_13, ↓mp_14, ↓mg_14, ↓mp_15, ↓mg_15, ↓mp_16, ↓mg_16, ↓mg_17, ↓mp_18, ↓mg_18, ↓mp_19, ↓mg_19, ↓mp_20, ↓mg_20, ↓mp_21, ↓mg_21, ↓mg_22, ↓mg_23, ↓mg_24, ↓mg_25, ↓mg_26, ↓mg_27, ↓mg_28, ↓mg_29, ↓mg_30, ↓mg_31, ↓mg_32, ↓mg_33, ↓mg_34, ↓mp_35, ↓mg_35, ↓mp_36, ↓mg_36, ↓mg_37, ↓mg_38, ↓mg_39, ↓ma_1, ↓ms_1, ↓ma_2, ↓ms_2, ↓ma_3, ↓ms_3, ↓ma_4, ↓ms_4, ↓ma_5, ↓ms_5, ↓ma_6, ↓ms_6, ↓ma_9, ↓ms_9, ↓ma_10, ↓ms_10, ↓ma_11, ↓ms_11, ↓ma_12, ↓ms_12, ↓ma_13, ↓ms_13, ↓ma_14, ↓ms_14, ↓ma_15, ↓ms_15, ↓ma_16, ↓ms_16, ↓ma_17, ↓ms_17, ↓ma_18, ↓ms_18, ↓ma_19, ↓ms_19, ↓ma_20, ↓ms_20, ↓ma_21, ↓ms_21, ↓mo_q', ↓ma_L, ↓ms_L, ↓ma_Z, ↓ms_Z, mF_1, mF_2, mWd_1, mWd_w, mWd_2, mA_1, mA_w, mA_a, mA_v, mV_1, mV_w, mV_a, mV_v, mA_mA, mV_mV, mF_mF, nI_add, nI_cl, vpi, i01, i02, i10, i11, ↓reduceIte, not_true_eq_false, not_false_eq_true, and_true, true_and, ne_eq, Nat.reduceAdd, Nat.reduceMul, Nat.reduceSub, Nat.reduceEqDiff, reduceCtorEq, Nat.add_zero, Nat.zero_add, n0p, ite_true, ite_false, if_true, if_false, nlT, nlF, nleT, nleF, neT, neF, n0F, n0T, pk_sub, pk_mul, nIm1, nIm2, nlZ, nleZ, upd_s, upd_n, pk_uLs, pk_uLn, nar_0, nar_1, nar_n0, nar_n1]
          -- others are copied
          have cp : ∀ (n e' : Nat), n + e' = 30 → K_M_findNext sa (d + 5) Q 11 [some (.ref q), some (.int (nI h)), some (.int rv), some (.int (nI x)), some (.int (nI W)), some (.int (nI k)), some (.int (nI w)), some (.int (nI e'))] [] (mM q M0 (mA τ 20 (lay (τ.2.2.1 20) 0 e' (τ.2.2.1 19)))) (0, 0) := by
            intro n
            induction n with
            | zero =>
              intro e' he'
              refine t_M_findNext_11 ?_
              simp (disch := omega) only [↓i01, ↓i02, ↓xrI_mk, ↓xrV_mk, ↓xrL_mk, ↓xrR_mk, ↓mg_0, ↓mg_1, ↓mp_2, ↓mg_2, ↓mg_3, ↓mg_4, ↓mp_5, ↓mg_5, ↓mp_6, ↓mg_6, ↓mp_7, ↓mg_7, ↓mp_8, ↓mg_8, ↓mp_9, ↓mg_9, ↓mp_10, ↓mg_10, ↓mp_11, ↓mg_11, ↓mp_12, ↓mg_12, ↓mp_13, ↓mg_13, ↓mp_14, ↓mg_14, ↓mp_15, ↓mg_15, ↓mp_16, ↓mg_16, ↓mg_17, ↓mp_18, ↓mg_18, ↓mp_19, ↓mg_19, ↓mp_20, ↓mg_20, ↓mp_21, ↓mg_21, ↓mg_22, ↓mg_23, ↓mg_24, ↓mg_25, ↓mg_26, ↓mg_27, ↓mg_28, ↓mg_29, ↓mg_30, ↓mg_31, ↓mg_32, ↓mg_33, ↓mg_34, ↓mp_35, ↓mg_35, ↓mp_36, ↓mg_36, ↓mg_37, ↓mg_38, ↓mg_39, ↓ma_1, ↓ms_1, ↓ma_2, ↓ms_2, ↓ma_3, ↓ms_3, ↓ma_4, ↓ms_4, ↓ma_5, ↓ms_5, ↓ma_6, ↓ms_6, ↓ma_9, ↓ms_9, ↓ma_10, ↓ms_10, ↓ma_11, ↓ms_11, ↓ma_12, ↓ms_12, ↓ma_13, ↓ms_13, ↓ma_14, ↓ms_14, ↓ma_15, ↓ms_15, ↓ma_16, ↓ms_16, ↓ma_17, ↓ms_17, ↓ma_18, ↓ms_18, ↓ma_19, ↓ms_19, ↓ma_20, ↓ms_20, ↓ma_21, ↓ms_21, ↓mo_q', ↓ma_L, ↓ms_L, ↓ma_Z, ↓ms_Z, mF_1, mF_2, mWd_1, mWd_w, mWd_2, mA_1, mA_w, mA_a, mA_v, mV_1, mV_w, mV_a, mV_v, mA_mA, mV_mV, mF_mF, nI_add, nI_cl, vpi, i01, i02, i10, i11, ↓reduceIte, not_true_eq_false, not_false_eq_true, and_true, true_and, ne_eq, Nat.reduceAdd, Nat.reduceMul, Nat.reduceSub, Nat.reduceEqDiff, reduceCtorEq, Nat.add_zero, Nat.zero_add, n0p, ite_true, ite_false, if_true, if_false, nlT, nlF, nleT, nleF, neT, neF, n0F, n0T, pk_sub, pk_mul, nIm1, nIm2, nlZ, nleZ, upd_s, upd_n, pk_uLs, pk_uLn, nar_0, nar_1, nar_n0, nar_n1]
              have hF : lay (τ.2.2.1 20) 0 e' (τ.2.2.1 19) = lay (lay (τ.2.2.1 20) 0 e' (τ.2.2.1 19)) 0 29 (crS R A (kpS R l kd fs e.1) (lfW fr (fun j => dgP g (dgO g m w j) 0) (lfS R l A kd fs e.1) 0) (lfW fr (fun j => dgP g (dgO g m w j) 1) (rtS R l A kd fs e.1) 0) (plW fr (fun j => decide (dgP g (dgO g m w j) 2 = 1)) (plS R l A kd fs e.1) 0) (e.1 0 + 1)) := by
                refine lay_eq (fun j hj => ?_)
                have := lay_in (f := τ.2.2.1 20) (r := τ.2.2.1 19) (x := 0) (n := e') (j := j) (by omega)
                rw [Nat.zero_add] at this
                rw [this]
                exact h19 j hj
              rw [hF]
              generalize lay (τ.2.2.1 20) 0 e' (τ.2.2.1 19) = F
              -- the free ones, one behind another
              have at14 : ∀ (n' j : Nat), n' + j = m → ∀ τ' : mS, sm [20] τ τ' → τ'.2.2.1 20 = lay F 0 29 (crS R A (kpS R l kd fs e.1) (lfW fr (fun j => dgP g (dgO g m w j) 0) (lfS R l A kd fs e.1) j) (lfW fr (fun j => dgP g (dgO g m w j) 1) (rtS R l A kd fs e.1) j) (plW fr (fun j => decide (dgP g (dgO g m w j) 2 = 1)) (plS R l A kd fs e.1) j) (e.1 0 + 1)) → K_M_findNext sa (d + 5) Q 14 [some (.ref q), some (.int (nI h)), some (.int rv), some (.int (nI x)), some (.int (nI W)), some (.int (nI k)), some (.int (nI w)), some (.int (nI j))] [] (mM q M0 τ') (0, 0) := by
                intro n'
                induction n' with
                | zero =>
                  intro j hj τ' s' hr'
                  have ht' : kpB σ τ' := sm_t ht (sm_w s' (by simp))
                  have b' := base τ' ht'
                  have ej : j = m := by omega
                  subst ej
                  have hrw : ∀ i, i < 29 → τ'.2.2.1 20 i = nx e.1 w i := by
                    intro i hi
                    rw [hr', ← enx]
                    have := lay_in (f := F) (r := nxS R l A kd fs fr j g e.1 w) (x := 0) (n := 29) (j := i) hi
                    rw [Nat.zero_add] at this
                    exact this
                  have hL' : ∀ j, j ≤ h → lvR τ' j (Ls j) := fun j hj => lvR_sm s' (by decide) (by decide) (by decide) (by decide) (hLτ j hj)
                  have hacc' := lvR_sm s' (by decide) (by decide) (by decide) (by decide) hacc
                  have hch' := chI_sm s' (by decide) (by decide) hch
                  have h19' : ∀ j, j < 29 → τ'.2.2.1 19 j = goS R l A kd fs e.1 j := by
                    rw [s'.2.2 19 (by decide)]; exact h19
                  unfold bfI at hres
                  -- the row is looked up
                  have at20 : ftS A rv x (nx e.1 w) = true → K_M_findNext sa (d + 5) Q 20 [some (.ref q), some (.int (nI h)), some (.int rv), some (.int (nI x)), some (.int (nI W)), some (.int (nI k)), some (.int (nI w)), none] [] (mM q M0 τ') (0, 0) := by
                    intro hft
                    rw [if_pos hft] at hres
                    refine t_M_findNext_20 ?_
                    simp (disch := omega) only [↓i01, ↓i02, ↓xrI_mk, ↓xrV_mk, ↓xrL_mk, ↓xrR_mk, ↓mg_0, ↓mg_1, ↓mp_2, ↓mg_2, ↓mg_3, ↓mg_4, ↓mp_5, ↓mg_5, ↓mp_6, ↓mg_6, ↓mp_7, ↓mg_7, ↓mp_8, ↓mg_8, ↓mp_9, ↓mg_9, ↓mp_10, ↓mg_10, ↓mp_11, ↓mg_11, ↓mp_12, ↓mg_12, ↓mp_13, ↓mg_13, ↓mp_14, ↓mg_14, ↓mp_15, ↓mg_15, ↓mp_16, ↓mg_16, ↓mg_17, ↓mp_18, ↓mg_18, ↓mp_19, ↓mg_19, ↓mp_20, ↓mg_20, ↓mp_21, ↓mg_21, ↓mg_22, ↓mg_23, ↓mg_24, ↓mg_25, ↓mg_26, ↓mg_27, ↓mg_28, ↓mg_29, ↓mg_30, ↓mg_31, ↓mg_32, ↓mg_33, ↓mg_34, ↓mp_35, ↓mg_35, ↓mp_36, ↓mg_36, ↓mg_37, ↓mg_38, ↓mg_39, ↓ma_1, ↓ms_1, ↓ma_2, ↓ms_2, ↓ma_3, ↓ms_3, ↓ma_4, ↓ms_4, ↓ma_5, ↓ms_5, ↓ma_6, ↓ms_6, ↓ma_9, ↓ms_9, ↓ma_10, ↓ms_10, ↓ma_11, ↓ms_11, ↓ma_12, ↓ms_12, ↓ma_13, ↓ms_13, ↓ma_14, ↓ms_14, ↓ma_15, ↓ms_15, ↓ma_16, ↓ms_16, ↓ma_17, ↓ms_17, ↓ma_18, ↓ms_18, ↓ma_19, ↓ms_19, ↓ma_20, ↓ms_20, ↓ma_21, ↓ms_21, ↓mo_q', ↓ma_L, ↓ms_L, ↓ma_Z, ↓ms_Z, mF_1, mF_2, mWd_1, mWd_w, mWd_2, mA_1, mA_w, mA_a, mA_v, mV_1, mV_w, mV_a, mV_v, mA_mA, mV_mV, mF_mF, nI_add, nI_cl, vpi, i01, i02, i10, i11, ↓reduceIte, not_true_eq_false, not_false_eq_true, and_true, true_and, ne_eq, Nat.reduceAdd, Nat.reduceMul, Nat.reduceSub, Nat.reduceEqDiff, reduceCtorEq, Nat.add_zero, Nat.zero_add, n0p, ite_true, ite_false, if_true, if_false, nlT, nlF, nleT, nleF, neT, neF, n0F, n0T, pk_sub, pk_mul, nIm1, nIm2, nlZ, nleZ, upd_s, upd_n, pk_uLs, pk_uLn, nar_0, nar_1, nar_n0, nar_n1]
                    refine c_M_sumOfRow (k := 20) rfl (by decide) (by decide) hrw ?_
                    simp (disch := omega) only [↓i01, ↓i02, ↓xrI_mk, ↓xrV_mk, ↓xrL_mk, ↓xrR_mk, ↓mg_0, ↓mg_1, ↓mp_2, ↓mg_2, ↓mg_3, ↓mg_4, ↓mp_5, ↓mg_5, ↓mp_6, ↓mg_6, ↓mp_7, ↓mg_7, ↓mp_8, ↓mg_8, ↓mp_9, ↓mg_9, ↓mp_10, ↓mg_10, ↓mp_11, ↓mg_11, ↓mp_12, ↓mg_12, ↓mp_13, ↓mg_13, ↓mp_14, ↓mg_14, ↓mp_15, ↓mg_15, ↓mp_16, ↓mg_16, ↓mg_17, ↓mp_18, ↓mg_18, ↓mp_19, ↓mg_19, ↓mp_20, ↓mg_20, ↓mp_21, ↓mg_21, ↓mg_22, ↓mg_23, ↓mg_24, ↓mg_25, ↓mg_26, ↓mg_27, ↓mg_28, ↓mg_29, ↓mg_30, ↓mg_31, ↓mg_32, ↓mg_33, ↓mg_34, ↓mp_35, ↓mg_35, ↓mp_36, ↓mg_36, ↓mg_37, ↓mg_38, ↓mg_39, ↓ma_1, ↓ms_1, ↓ma_2, ↓ms_2, ↓ma_3, ↓ms_3, ↓ma_4, ↓ms_4, ↓ma_5, ↓ms_5, ↓ma_6, ↓ms_6, ↓ma_9, ↓ms_9, ↓ma_10, ↓ms_10, ↓ma_11, ↓ms_11, ↓ma_12, ↓ms_12, ↓ma_13, ↓ms_13, ↓ma_14, ↓ms_14, ↓ma_15, ↓ms_15, ↓ma_16, ↓ms_16, ↓ma_17, ↓ms_17, ↓ma_18, ↓ms_18, ↓ma_19, ↓ms_19, ↓ma_20, ↓ms_20, ↓ma_21, ↓ms_21, ↓mo_q', ↓ma_L, ↓ms_L, ↓ma_Z, ↓ms_Z, mF_1, mF_2, mWd_1, mWd_w, mWd_2, mA_1, mA_w, mA_a, mA_v, mV_1, mV_w, mV_a, mV_v, mA_mA, mV_mV, mF_mF, nI_add, nI_cl, vpi, i01, i02, i10, i11, ↓reduceIte, not_true_eq_false, not_false_eq_true, and_true, true_and, ne_eq, Nat.reduceAdd, Nat.reduceMul, Nat.reduceSub, Nat.reduceEqDiff, reduceCtorEq, Nat.add_zero, Nat.zero_add, n0p, ite_true, ite_false, if_true, if_false, nlT, nlF, nleT, nleF, neT, neF, n0F, n0T, pk_sub, pk_mul, nIm1, nIm2, nlZ, nleZ, upd_s, upd_n, pk_uLs, pk_uLn, nar_0, nar_1, nar_n0, nar_n1]
                    refine c_M_isFound (by omega) hacc' hch' hrw ?_
                    rw [xrI_mk]
                    by_cases ehas : hasB (nx e.1 w) acc = true
                    · rw [if_pos ehas] at hres
                      rw [if_pos ehas, if_neg (by decide)]
                      exact ihw (w + 1) acc τ' (by omega) ht' hL' hacc' hch' h19' hres
                    · rw [if_neg ehas] at hres
                      rw [if_neg ehas, if_pos (by decide)]
                      have e13' := hacc'.1
                      have h2' := hacc'.2.1
                      simp (disch := omega) only [↓i01, ↓i02, ↓xrI_mk, ↓xrV_mk, ↓xrL_mk, ↓xrR_mk, ↓mg_0, ↓mg_1, ↓mp_2, ↓mg_2, ↓mg_3, ↓mg_4, ↓mp_5, ↓mg_5, ↓mp_6, ↓mg_6, ↓mp_7, ↓mg_7, ↓mp_8, ↓mg_8, ↓mp_9, ↓mg_9, ↓mp_10, ↓mg_10, ↓mp_11, ↓mg_11, ↓mp_12, ↓mg_12, ↓mp_13, ↓mg_13, ↓mp_14, ↓mg_14, ↓mp_15, ↓mg_15, ↓mp_16, ↓mg_16, ↓mg_17, ↓mp_18, ↓mg_18, ↓mp_19, ↓mg_19, ↓mp_20, ↓mg_20, ↓mp_21, ↓mg_21, ↓mg_22, ↓mg_23, ↓mg_24, ↓mg_25, ↓mg_26, ↓mg_27, ↓mg_28, ↓mg_29, ↓mg_30, ↓mg_31, ↓mg_32, ↓mg_33, ↓mg_34, ↓mp_35, ↓mg_35, ↓mp_36, ↓mg_36, ↓mg_37, ↓mg_38, ↓mg_39, ↓ma_1, ↓ms_1, ↓ma_2, ↓ms_2, ↓ma_3, ↓ms_3, ↓ma_4, ↓ms_4, ↓ma_5, ↓ms_5, ↓ma_6, ↓ms_6, ↓ma_9, ↓ms_9, ↓ma_10, ↓ms_10, ↓ma_11, ↓ms_11, ↓ma_12, ↓ms_12, ↓ma_13, ↓ms_13, ↓ma_14, ↓ms_14, ↓ma_15, ↓ms_15, ↓ma_16, ↓ms_16, ↓ma_17, ↓ms_17, ↓ma_18, ↓ms_18, ↓ma_19, ↓ms_19, ↓ma_20, ↓ms_20, ↓ma_21, ↓ms_21, ↓mo_q', ↓ma_L, ↓ms_L, ↓ma_Z, ↓ms_Z, mF_1, mF_2, mWd_1, mWd_w, mWd_2, mA_1, mA_w, mA_a, mA_v, mV_1, mV_w, mV_a, mV_v, mA_mA, mV_mV, mF_mF, nI_add, nI_cl, vpi, i01, i02, i10, i11, ↓reduceIte, not_true_eq_false, not_false_eq_true, and_true, true_and, ne_eq, Nat.reduceAdd, Nat.reduceMul, Nat.reduceSub, Nat.reduceEqDiff, reduceCtorEq, Nat.add_zero, Nat.zero_add, n0p, ite_true, ite_false, if_true, if_false, nlT, nlF, nleT, nleF, neT, neF, n0F, n0T, pk_sub, pk_mul, nIm1, nIm2, nlZ, nleZ, upd_s, upd_n, pk_uLs, pk_uLn, nar_0, nar_1, nar_n0, nar_n1, e13']
                      by_cases efull : acc.length = 2000
                      · rw [if_pos efull] at hres
                        rw [if_neg (by rw [efull]; exact not_not_intro rfl)]
                        exact h0 hres τ' ht'
                      · rw [if_neg efull] at hres
                        rw [if_pos (fun a => efull ((nI_eq (by omega) (by omega)).mp a))]
                        refine c_M_add (by omega) hacc' (by omega) hch' hrw (fun τ3 s3 l3 c3 o3 => ?_)
                        rw [xrV_mk]
                        refine ihw (w + 1) _ τ3 (by omega) (sm_t ht' (sm_w s3 (by simp))) (fun j hj => o3 j (Ls j) (by omega) (by omega) (hL' j hj)) l3 c3 (by rw [s3.2.2 19 (by decide)]; exact h19') hres
                  have skip : ftS A rv x (nx e.1 w) = false → K_M_findNext sa (d + 5) Q 9 [some (.ref q), some (.int (nI h)), some (.int rv), some (.int (nI x)), some (.int (nI W)), some (.int (nI k)), some (.int (nI (w + 1))), none] [] (mM q M0 τ') (0, 0) := by
                    intro hft
                    rw [hft, if_neg (by decide)] at hres
                    exact ihw (w + 1) acc τ' (by omega) ht' hL' hacc' hch' h19' hres
                  refine t_M_findNext_14 ?_
                  simp (disch := omega) only [↓i01, ↓i02, ↓xrI_mk, ↓xrV_mk, ↓xrL_mk, ↓xrR_mk, ↓mg_0, ↓mg_1, ↓mp_2, ↓mg_2, ↓mg_3, ↓mg_4, ↓mp_5, ↓mg_5, ↓mp_6, ↓mg_6, ↓mp_7, ↓mg_7, ↓mp_8, ↓mg_8, ↓mp_9, ↓mg_9, ↓mp_10, ↓mg_10, ↓mp_11, ↓mg_11, ↓mp_12, ↓mg_12, ↓mp_13, ↓mg_13, ↓mp_14, ↓mg_14, ↓mp_15, ↓mg_15, ↓mp_16, ↓mg_16, ↓mg_17, ↓mp_18, ↓mg_18, ↓mp_19, ↓mg_19, ↓mp_20, ↓mg_20, ↓mp_21, ↓mg_21, ↓mg_22, ↓mg_23, ↓mg_24, ↓mg_25, ↓mg_26, ↓mg_27, ↓mg_28, ↓mg_29, ↓mg_30, ↓mg_31, ↓mg_32, ↓mg_33, ↓mg_34, ↓mp_35, ↓mg_35, ↓mp_36, ↓mg_36, ↓mg_37, ↓mg_38, ↓mg_39, ↓ma_1, ↓ms_1, ↓ma_2, ↓ms_2, ↓ma_3, ↓ms_3, ↓ma_4, ↓ms_4, ↓ma_5, ↓ms_5, ↓ma_6, ↓ms_6, ↓ma_9, ↓ms_9, ↓ma_10, ↓ms_10, ↓ma_11, ↓ms_11, ↓ma_12, ↓ms_12, ↓ma_13, ↓ms_13, ↓ma_14, ↓ms_14, ↓ma_15, ↓ms_15, ↓ma_16, ↓ms_16, ↓ma_17, ↓ms_17, ↓ma_18, ↓ms_18, ↓ma_19, ↓ms_19, ↓ma_20, ↓ms_20, ↓ma_21, ↓ms_21, ↓mo_q', ↓ma_L, ↓ms_L, ↓ma_Z, ↓ms_Z, mF_1, mF_2, mWd_1, mWd_w, mWd_2, mA_1, mA_w, mA_a, mA_v, mV_1, mV_w, mV_a, mV_v, mA_mA, mV_mV, mF_mF, nI_add, nI_cl, vpi, i01, i02, i10, i11, ↓reduceIte, not_true_eq_false, not_false_eq_true, and_true, true_and, ne_eq, Nat.reduceAdd, Nat.reduceMul, Nat.reduceSub, Nat.reduceEqDiff, reduceCtorEq, Nat.add_zero, Nat.zero_add, n0p, ite_true, ite_false, if_true, if_false, nlT, nlF, nleT, nleF, neT, neF, n0F, n0T, pk_sub, pk_mul, nIm1, nIm2, nlZ, nleZ, upd_s, upd_n, pk_uLs, pk_uLn, nar_0, nar_1, nar_n0, nar_n1, b'.2.2.2.2.2.2.1]
                  rcases hrv with hrv | ⟨r, hrr, hrv⟩
                  · rw [hrv] at at20 ⊢
                    rw [if_pos (by decide)]
                    exact at20 (if_pos (by decide))
                  · have hneg : ¬ rv < 0 := by rw [hrv]; exact nI_pos (by omega)
                    have hcr : cN rv = r := by rw [hrv]; exact nI_cl (by omega)
                    unfold ftS at at20 skip
                    rw [if_neg hneg, hcr] at at20 skip
                    rw [if_neg hneg]
                    have c1 := hrw (11 + r) (by omega)
                    have c2 := hrw (20 + r) (by omega)
                    rw [hrv] at at20 skip ⊢
                    simp (disch := omega) only [↓i01, ↓i02, ↓xrI_mk, ↓xrV_mk, ↓xrL_mk, ↓xrR_mk, ↓mg_0, ↓mg_1, ↓mp_2, ↓mg_2, ↓mg_3, ↓mg_4, ↓mp_5, ↓mg_5, ↓mp_6, ↓mg_6, ↓mp_7, ↓mg_7, ↓mp_8, ↓mg_8, ↓mp_9, ↓mg_9, ↓mp_10, ↓mg_10, ↓mp_11, ↓mg_11, ↓mp_12, ↓mg_12, ↓mp_13, ↓mg_13, ↓mp_14, ↓mg_14, ↓mp_15, ↓mg_15, ↓mp_16, ↓mg_16, ↓mg_17, ↓mp_18, ↓mg_18, ↓mp_19, ↓mg_19, ↓mp_20, ↓mg_20, ↓mp_21, ↓mg_21, ↓mg_22, ↓mg_23, ↓mg_24, ↓mg_25, ↓mg_26, ↓mg_27, ↓mg_28, ↓mg_29, ↓mg_30, ↓mg_31, ↓mg_32, ↓mg_33, ↓mg_34, ↓mp_35, ↓mg_35, ↓mp_36, ↓mg_36, ↓mg_37, ↓mg_38, ↓mg_39, ↓ma_1, ↓ms_1, ↓ma_2, ↓ms_2, ↓ma_3, ↓ms_3, ↓ma_4, ↓ms_4, ↓ma_5, ↓ms_5, ↓ma_6, ↓ms_6, ↓ma_9, ↓ms_9, ↓ma_10, ↓ms_10, ↓ma_11, ↓ms_11, ↓ma_12, ↓ms_12, ↓ma_13, ↓ms_13, ↓ma_14, ↓ms_14, ↓ma_15, ↓ms_15, ↓ma_16, ↓ms_16, ↓ma_17, ↓ms_17, ↓ma_18, ↓ms_18, ↓ma_19, ↓ms_19, ↓ma_20, ↓ms_20, ↓ma_21, ↓ms_21, ↓mo_q', ↓ma_L, ↓ms_L, ↓ma_Z, ↓ms_Z, mF_1, mF_2, mWd_1, mWd_w, mWd_2, mA_1, mA_w, mA_a, mA_v, mV_1, mV_w, mV_a, mV_v, mA_mA, mV_mV, mF_mF, nI_add, nI_cl, vpi, i01, i02, i10, i11, ↓reduceIte, not_true_eq_false, not_false_eq_true, and_true, true_and, ne_eq, Nat.reduceAdd, Nat.reduceMul, Nat.reduceSub, Nat.reduceEqDiff, reduceCtorEq, Nat.add_zero, Nat.zero_add, n0p, ite_true, ite_false, if_true, if_false, nlT, nlF, nleT, nleF, neT, neF, n0F, n0T, pk_sub, pk_mul, nIm1, nIm2, nlZ, nleZ, upd_s, upd_n, pk_uLs, pk_uLn, nar_0, nar_1, nar_n0, nar_n1, c1, c2, b'.2.2.1]
                    by_cases q1 : nx e.1 w (11 + r) = A x
                    · rw [decide_eq_true q1, Bool.true_and] at at20 skip
                      rw [if_neg (not_not_intro q1)]
                      by_cases q2 : nx e.1 w (20 + r) = A (x + 1)
                      · rw [if_pos q2]
                        exact at20 (decide_eq_true q2)
                      · rw [if_neg q2]
                        exact skip (decide_eq_false q2)
                    · rw [decide_eq_false q1, Bool.false_and] at skip
                      rw [if_pos q1]
                      exact skip rfl
                | succ n' ihl =>
                  intro j hj τ' s' hr'
                  have ht' : kpB σ τ' := sm_t ht (sm_w s' (by simp))
                  have b' := base τ' ht'
                  have hfj := hfr j (by omega)
                  have e18 := b'.2.2.2.2.2.2.2 j (by omega)
                  refine t_M_findNext_14 ?_
                  simp (disch := omega) only [↓i01, ↓i02, ↓xrI_mk, ↓xrV_mk, ↓xrL_mk, ↓xrR_mk, ↓mg_0, ↓mg_1, ↓mp_2, ↓mg_2, ↓mg_3, ↓mg_4, ↓mp_5, ↓mg_5, ↓mp_6, ↓mg_6, ↓mp_7, ↓mg_7, ↓mp_8, ↓mg_8, ↓mp_9, ↓mg_9, ↓mp_10, ↓mg_10, ↓mp_11, ↓mg_11, ↓mp_12, ↓mg_12, ↓mp_13, ↓mg_13, ↓mp_14, ↓mg_14, ↓mp_15, ↓mg_15, ↓mp_16, ↓mg_16, ↓mg_17, ↓mp_18, ↓mg_18, ↓mp_19, ↓mg_19, ↓mp_20, ↓mg_20, ↓mp_21, ↓mg_21, ↓mg_22, ↓mg_23, ↓mg_24, ↓mg_25, ↓mg_26, ↓mg_27, ↓mg_28, ↓mg_29, ↓mg_30, ↓mg_31, ↓mg_32, ↓mg_33, ↓mg_34, ↓mp_35, ↓mg_35, ↓mp_36, ↓mg_36, ↓mg_37, ↓mg_38, ↓mg_39, ↓ma_1, ↓ms_1, ↓ma_2, ↓ms_2, ↓ma_3, ↓ms_3, ↓ma_4, ↓ms_4, ↓ma_5, ↓ms_5, ↓ma_6, ↓ms_6, ↓ma_9, ↓ms_9, ↓ma_10, ↓ms_10, ↓ma_11, ↓ms_11, ↓ma_12, ↓ms_12, ↓ma_13, ↓ms_13, ↓ma_14, ↓ms_14, ↓ma_15, ↓ms_15, ↓ma_16, ↓ms_16, ↓ma_17, ↓ms_17, ↓ma_18, ↓ms_18, ↓ma_19, ↓ms_19, ↓ma_20, ↓ms_20, ↓ma_21, ↓ms_21, ↓mo_q', ↓ma_L, ↓ms_L, ↓ma_Z, ↓ms_Z, mF_1, mF_2, mWd_1, mWd_w, mWd_2, mA_1, mA_w, mA_a, mA_v, mV_1, mV_w, mV_a, mV_v, mA_mA, mV_mV, mF_mF, nI_add, nI_cl, vpi, i01, i02, i10, i11, ↓reduceIte, not_true_eq_false, not_false_eq_true, and_true, true_and, ne_eq, Nat.reduceAdd, Nat.reduceMul, Nat.reduceSub, Nat.reduceEqDiff, reduceCtorEq, Nat.add_zero, Nat.zero_add, n0p, ite_true, ite_false, if_true, if_false, nlT, nlF, nleT, nleF, neT, neF, n0F, n0T, pk_sub, pk_mul, nIm1, nIm2, nlZ, nleZ, upd_s, upd_n, pk_uLs, pk_uLn, nar_0, nar_1, nar_n0, nar_n1, b'.2.2.2.2.2.2.1, e18]
                  refine c_M_doingOf (m := m) b'.2.2.2.2.2.1 hg2 b'.2.2.2.2.2.2.1 hm2 (by omega) (by omega) ?_
                  simp (disch := omega) only [↓i01, ↓i02, ↓xrI_mk, ↓xrV_mk, ↓xrL_mk, ↓xrR_mk, ↓mg_0, ↓mg_1, ↓mp_2, ↓mg_2, ↓mg_3, ↓mg_4, ↓mp_5, ↓mg_5, ↓mp_6, ↓mg_6, ↓mp_7, ↓mg_7, ↓mp_8, ↓mg_8, ↓mp_9, ↓mg_9, ↓mp_10, ↓mg_10, ↓mp_11, ↓mg_11, ↓mp_12, ↓mg_12, ↓mp_13, ↓mg_13, ↓mp_14, ↓mg_14, ↓mp_15, ↓mg_15, ↓mp_16, ↓mg_16, ↓mg_17, ↓mp_18, ↓mg_18, ↓mp_19, ↓mg_19, ↓mp_20, ↓mg_20, ↓mp_21, ↓mg_21, ↓mg_22, ↓mg_23, ↓mg_24, ↓mg_25, ↓mg_26, ↓mg_27, ↓mg_28, ↓mg_29, ↓mg_30, ↓mg_31, ↓mg_32, ↓mg_33, ↓mg_34, ↓mp_35, ↓mg_35, ↓mp_36, ↓mg_36, ↓mg_37, ↓mg_38, ↓mg_39, ↓ma_1, ↓ms_1, ↓ma_2, ↓ms_2, ↓ma_3, ↓ms_3, ↓ma_4, ↓ms_4, ↓ma_5, ↓ms_5, ↓ma_6, ↓ms_6, ↓ma_9, ↓ms_9, ↓ma_10, ↓ms_10, ↓ma_11, ↓ms_11, ↓ma_12, ↓ms_12, ↓ma_13, ↓ms_13, ↓ma_14, ↓ms_14, ↓ma_15, ↓ms_15, ↓ma_16, ↓ms_16, ↓ma_17, ↓ms_17, ↓ma_18, ↓ms_18, ↓ma_19, ↓ms_19, ↓ma_20, ↓ms_20, ↓ma_21, ↓ms_21, ↓mo_q', ↓ma_L, ↓ms_L, ↓ma_Z, ↓ms_Z, mF_1, mF_2, mWd_1, mWd_w, mWd_2, mA_1, mA_w, mA_a, mA_v, mV_1, mV_w, mV_a, mV_v, mA_mA, mV_mV, mF_mF, nI_add, nI_cl, vpi, i01, i02, i10, i11, ↓reduceIte, not_true_eq_false, not_false_eq_true, and_true, true_and, ne_eq, Nat.reduceAdd, Nat.reduceMul, Nat.reduceSub, Nat.reduceEqDiff, reduceCtorEq, Nat.add_zero, Nat.zero_add, n0p, ite_true, ite_false, if_true, if_false, nlT, nlF, nleT, nleF, neT, neF, n0F, n0T, pk_sub, pk_mul, nIm1, nIm2, nlZ, nleZ, upd_s, upd_n, pk_uLs, pk_uLn, nar_0, nar_1, nar_n0, nar_n1]
                  refine c_M_doAs b'.1 hR3 hR9 b'.2.2.2.2.2.1 hg2 (dgO_lt hg2 (by omega) (by omega)) hfj.2.1 b'.2.2.1 hr' ?_ ?_
                  · rw [plW_n j (fun i hi => hdi i j (by omega) (by omega) (by omega))]
                    unfold plS
                    rw [hfj.2.2, if_neg (by decide), if_neg (by decide)]
                  · rw [xrV_mk]
                    exact ihl (j + 1) (by omega) _ (sm_t s' (inv20 _ _)) rfl
              exact at14 m 0 (by omega) _ (inv20 _ _) rfl
            | succ n ihc =>
              intro e' he'
              refine t_M_findNext_11 ?_
              simp (disch := omega) only [↓i01, ↓i02, ↓xrI_mk, ↓xrV_mk, ↓xrL_mk, ↓xrR_mk, ↓mg_0, ↓mg_1, ↓mp_2, ↓mg_2, ↓mg_3, ↓mg_4, ↓mp_5, ↓mg_5, ↓mp_6, ↓mg_6, ↓mp_7, ↓mg_7, ↓mp_8, ↓mg_8, ↓mp_9, ↓mg_9, ↓mp_10, ↓mg_10, ↓mp_11, ↓mg_11, ↓mp_12, ↓mg_12, ↓mp_13, ↓mg_13, ↓mp_14, ↓mg_14, ↓mp_15, ↓mg_15, ↓mp_16, ↓mg_16, ↓mg_17, ↓mp_18, ↓mg_18, ↓mp_19, ↓mg_19, ↓mp_20, ↓mg_20, ↓mp_21, ↓mg_21, ↓mg_22, ↓mg_23, ↓mg_24, ↓mg_25, ↓mg_26, ↓mg_27, ↓mg_28, ↓mg_29, ↓mg_30, ↓mg_31, ↓mg_32, ↓mg_33, ↓mg_34, ↓mp_35, ↓mg_35, ↓mp_36, ↓mg_36, ↓mg_37, ↓mg_38, ↓mg_39, ↓ma_1, ↓ms_1, ↓ma_2, ↓ms_2, ↓ma_3, ↓ms_3, ↓ma_4, ↓ms_4, ↓ma_5, ↓ms_5, ↓ma_6, ↓ms_6, ↓ma_9, ↓ms_9, ↓ma_10, ↓ms_10, ↓ma_11, ↓ms_11, ↓ma_12, ↓ms_12, ↓ma_13, ↓ms_13, ↓ma_14, ↓ms_14, ↓ma_15, ↓ms_15, ↓ma_16, ↓ms_16, ↓ma_17, ↓ms_17, ↓ma_18, ↓ms_18, ↓ma_19, ↓ms_19, ↓ma_20, ↓ms_20, ↓ma_21, ↓ms_21, ↓mo_q', ↓ma_L, ↓ms_L, ↓ma_Z, ↓ms_Z, mF_1, mF_2, mWd_1, mWd_w, mWd_2, mA_1, mA_w, mA_a, mA_v, mV_1, mV_w, mV_a, mV_v, mA_mA, mV_mV, mF_mF, nI_add, nI_cl, vpi, i01, i02, i10, i11, ↓reduceIte, not_true_eq_false, not_false_eq_true, and_true, true_and, ne_eq, Nat.reduceAdd, Nat.reduceMul, Nat.reduceSub, Nat.reduceEqDiff, reduceCtorEq, Nat.add_zero, Nat.zero_add, n0p, ite_true, ite_false, if_true, if_false, nlT, nlF, nleT, nleF, neT, neF, n0F, n0T, pk_sub, pk_mul, nIm1, nIm2, nlZ, nleZ, upd_s, upd_n, pk_uLs, pk_uLn, nar_0, nar_1, nar_n0, nar_n1]
              have := ihc (e' + 1) (by omega)
              rw [← lay_s, Nat.zero_add] at this
              exact this
          have := cp 30 0 rfl
          rw [lay_0, mA_self] at this
          exact this
      have ht2 : kpB σ τ2 := sm_t ht (sm_w s2 (by simp))
      refine at9 W 0 acc τ2 (by omega) ht2 (fun j hj => lvR_sm s2 (by decide) (by decide) (by decide) (by decide) (hLτ j hj)) (lvR_sm s2 (by decide) (by decide) (by decide) (by decide) hacc) (chI_sm s2 (by decide) (by decide) hch) (fun j hj => ?_) ?_
      · rw [r2]
        have := lay_in (f := τ.2.2.1 19) (r := goS R l A kd fs e.1) (x := 0) (n := 29) (j := j) hj
        rw [Nat.zero_add] at this
        exact this
      · rw [show bfO nx (ftS A rv x) W (e :: rest) k acc = (match bfI (nx e.1) (ftS A rv x) k W 0 acc with | none => none | some acc' => bfO nx (ftS A rv x) W rest (k + 1) acc') from rfl] at he
        split
        · rename_i hb
          rw [hb] at he
          exact he
        · rename_i acc' hb
          rw [hb] at he
          exact he
  -- how many ways
  have at4 : ∀ (n j : Nat), n + j = m → ∀ τ : mS, kpB σ τ → (∀ j, j ≤ h → lvR τ j (Ls j)) → lvR τ (h + 1) [] → chI τ [] → K_M_findNext sa (d + 5) Q 4 [some (.ref q), some (.int (nI h)), some (.int rv), some (.int (nI x)), some (.int (nI (dgW g j))), some (.int (nI j)), none, none] [] (mM q M0 τ) (0, 0) := by
    intro n
    induction n with
    | zero =>
      intro j hj τ ht hLτ hacc hch
      have b := base τ ht
      refine t_M_findNext_4 ?_
      simp (disch := omega) only [↓i01, ↓i02, ↓xrI_mk, ↓xrV_mk, ↓xrL_mk, ↓xrR_mk, ↓mg_0, ↓mg_1, ↓mp_2, ↓mg_2, ↓mg_3, ↓mg_4, ↓mp_5, ↓mg_5, ↓mp_6, ↓mg_6, ↓mp_7, ↓mg_7, ↓mp_8, ↓mg_8, ↓mp_9, ↓mg_9, ↓mp_10, ↓mg_10, ↓mp_11, ↓mg_11, ↓mp_12, ↓mg_12, ↓mp_13, ↓mg_13, ↓mp_14, ↓mg_14, ↓mp_15, ↓mg_15, ↓mp_16, ↓mg_16, ↓mg_17, ↓mp_18, ↓mg_18, ↓mp_19, ↓mg_19, ↓mp_20, ↓mg_20, ↓mp_21, ↓mg_21, ↓mg_22, ↓mg_23, ↓mg_24, ↓mg_25, ↓mg_26, ↓mg_27, ↓mg_28, ↓mg_29, ↓mg_30, ↓mg_31, ↓mg_32, ↓mg_33, ↓mg_34, ↓mp_35, ↓mg_35, ↓mp_36, ↓mg_36, ↓mg_37, ↓mg_38, ↓mg_39, ↓ma_1, ↓ms_1, ↓ma_2, ↓ms_2, ↓ma_3, ↓ms_3, ↓ma_4, ↓ms_4, ↓ma_5, ↓ms_5, ↓ma_6, ↓ms_6, ↓ma_9, ↓ms_9, ↓ma_10, ↓ms_10, ↓ma_11, ↓ms_11, ↓ma_12, ↓ms_12, ↓ma_13, ↓ms_13, ↓ma_14, ↓ms_14, ↓ma_15, ↓ms_15, ↓ma_16, ↓ms_16, ↓ma_17, ↓ms_17, ↓ma_18, ↓ms_18, ↓ma_19, ↓ms_19, ↓ma_20, ↓ms_20, ↓ma_21, ↓ms_21, ↓mo_q', ↓ma_L, ↓ms_L, ↓ma_Z, ↓ms_Z, mF_1, mF_2, mWd_1, mWd_w, mWd_2, mA_1, mA_w, mA_a, mA_v, mV_1, mV_w, mV_a, mV_v, mA_mA, mV_mV, mF_mF, nI_add, nI_cl, vpi, i01, i02, i10, i11, ↓reduceIte, not_true_eq_false, not_false_eq_true, and_true, true_and, ne_eq, Nat.reduceAdd, Nat.reduceMul, Nat.reduceSub, Nat.reduceEqDiff, reduceCtorEq, Nat.add_zero, Nat.zero_add, n0p, ite_true, ite_false, if_true, if_false, nlT, nlF, nleT, nleF, neT, neF, n0F, n0T, pk_sub, pk_mul, nIm1, nIm2, nlZ, nleZ, upd_s, upd_n, pk_uLs, pk_uLn, nar_0, nar_1, nar_n0, nar_n1, b.2.2.2.2.2.2.1]
      rw [show j = m by omega, eW]
      exact at7 (Ls h) 0 [] τ rfl (Nat.zero_le _) ht hLτ hacc hch rfl
    | succ n ih =>
      intro j hj τ ht hLτ hacc hch
      have b := base τ ht
      refine t_M_findNext_4 ?_
      simp (disch := omega) only [↓i01, ↓i02, ↓xrI_mk, ↓xrV_mk, ↓xrL_mk, ↓xrR_mk, ↓mg_0, ↓mg_1, ↓mp_2, ↓mg_2, ↓mg_3, ↓mg_4, ↓mp_5, ↓mg_5, ↓mp_6, ↓mg_6, ↓mp_7, ↓mg_7, ↓mp_8, ↓mg_8, ↓mp_9, ↓mg_9, ↓mp_10, ↓mg_10, ↓mp_11, ↓mg_11, ↓mp_12, ↓mg_12, ↓mp_13, ↓mg_13, ↓mp_14, ↓mg_14, ↓mp_15, ↓mg_15, ↓mp_16, ↓mg_16, ↓mg_17, ↓mp_18, ↓mg_18, ↓mp_19, ↓mg_19, ↓mp_20, ↓mg_20, ↓mp_21, ↓mg_21, ↓mg_22, ↓mg_23, ↓mg_24, ↓mg_25, ↓mg_26, ↓mg_27, ↓mg_28, ↓mg_29, ↓mg_30, ↓mg_31, ↓mg_32, ↓mg_33, ↓mg_34, ↓mp_35, ↓mg_35, ↓mp_36, ↓mg_36, ↓mg_37, ↓mg_38, ↓mg_39, ↓ma_1, ↓ms_1, ↓ma_2, ↓ms_2, ↓ma_3, ↓ms_3, ↓ma_4, ↓ms_4, ↓ma_5, ↓ms_5, ↓ma_6, ↓ms_6, ↓ma_9, ↓ms_9, ↓ma_10, ↓ms_10, ↓ma_11, ↓ms_11, ↓ma_12, ↓ms_12, ↓ma_13, ↓ms_13, ↓ma_14, ↓ms_14, ↓ma_15, ↓ms_15, ↓ma_16, ↓ms_16, ↓ma_17, ↓ms_17, ↓ma_18, ↓ms_18, ↓ma_19, ↓ms_19, ↓ma_20, ↓ms_20, ↓ma_21, ↓ms_21, ↓mo_q', ↓ma_L, ↓ms_L, ↓ma_Z, ↓ms_Z, mF_1, mF_2, mWd_1, mWd_w, mWd_2, mA_1, mA_w, mA_a, mA_v, mV_1, mV_w, mV_a, mV_v, mA_mA, mV_mV, mF_mF, nI_add, nI_cl, vpi, i01, i02, i10, i11, ↓reduceIte, not_true_eq_false, not_false_eq_true, and_true, true_and, ne_eq, Nat.reduceAdd, Nat.reduceMul, Nat.reduceSub, Nat.reduceEqDiff, reduceCtorEq, Nat.add_zero, Nat.zero_add, n0p, ite_true, ite_false, if_true, if_false, nlT, nlF, nleT, nleF, neT, neF, n0F, n0T, pk_sub, pk_mul, nIm1, nIm2, nlZ, nleZ, upd_s, upd_n, pk_uLs, pk_uLn, nar_0, nar_1, nar_n0, nar_n1, b.2.2.2.2.2.2.1]
      refine c_M_doings b.2.2.2.2.2.1 ?_
      simp (disch := omega) only [↓i01, ↓i02, ↓xrI_mk, ↓xrV_mk, ↓xrL_mk, ↓xrR_mk, ↓mg_0, ↓mg_1, ↓mp_2, ↓mg_2, ↓mg_3, ↓mg_4, ↓mp_5, ↓mg_5, ↓mp_6, ↓mg_6, ↓mp_7, ↓mg_7, ↓mp_8, ↓mg_8, ↓mp_9, ↓mg_9, ↓mp_10, ↓mg_10, ↓mp_11, ↓mg_11, ↓mp_12, ↓mg_12, ↓mp_13, ↓mg_13, ↓mp_14, ↓mg_14, ↓mp_15, ↓mg_15, ↓mp_16, ↓mg_16, ↓mg_17, ↓mp_18, ↓mg_18, ↓mp_19, ↓mg_19, ↓mp_20, ↓mg_20, ↓mp_21, ↓mg_21, ↓mg_22, ↓mg_23, ↓mg_24, ↓mg_25, ↓mg_26, ↓mg_27, ↓mg_28, ↓mg_29, ↓mg_30, ↓mg_31, ↓mg_32, ↓mg_33, ↓mg_34, ↓mp_35, ↓mg_35, ↓mp_36, ↓mg_36, ↓mg_37, ↓mg_38, ↓mg_39, ↓ma_1, ↓ms_1, ↓ma_2, ↓ms_2, ↓ma_3, ↓ms_3, ↓ma_4, ↓ms_4, ↓ma_5, ↓ms_5, ↓ma_6, ↓ms_6, ↓ma_9, ↓ms_9, ↓ma_10, ↓ms_10, ↓ma_11, ↓ms_11, ↓ma_12, ↓ms_12, ↓ma_13, ↓ms_13, ↓ma_14, ↓ms_14, ↓ma_15, ↓ms_15, ↓ma_16, ↓ms_16, ↓ma_17, ↓ms_17, ↓ma_18, ↓ms_18, ↓ma_19, ↓ms_19, ↓ma_20, ↓ms_20, ↓ma_21, ↓ms_21, ↓mo_q', ↓ma_L, ↓ms_L, ↓ma_Z, ↓ms_Z, mF_1, mF_2, mWd_1, mWd_w, mWd_2, mA_1, mA_w, mA_a, mA_v, mV_1, mV_w, mV_a, mV_v, mA_mA, mV_mV, mF_mF, nI_add, nI_cl, vpi, i01, i02, i10, i11, ↓reduceIte, not_true_eq_false, not_false_eq_true, and_true, true_and, ne_eq, Nat.reduceAdd, Nat.reduceMul, Nat.reduceSub, Nat.reduceEqDiff, reduceCtorEq, Nat.add_zero, Nat.zero_add, n0p, ite_true, ite_false, if_true, if_false, nlT, nlF, nleT, nleF, neT, neF, n0F, n0T, pk_sub, pk_mul, nIm1, nIm2, nlZ, nleZ, upd_s, upd_n, pk_uLs, pk_uLn, nar_0, nar_1, nar_n0, nar_n1]
      exact ih (j + 1) (by omega) τ ht hLτ hacc hch
  refine t_M_findNext ?_
  have at1 : ∀ (n j : Nat), n + j = 4096 → K_M_findNext sa (d + 5) Q 1 [some (.ref q), some (.int (nI h)), some (.int rv), some (.int (nI x)), some (.int (nI j)), none, none, none] [] (mM q M0 (mA σ 17 (lay (σ.2.2.1 17) 0 j (fun _ => -1)))) (0, 0) := by
    intro n
    induction n with
    | zero =>
      intro j hj
      refine t_M_findNext_1 ?_
      simp (disch := omega) only [↓i01, ↓i02, ↓xrI_mk, ↓xrV_mk, ↓xrL_mk, ↓xrR_mk, ↓mg_0, ↓mg_1, ↓mp_2, ↓mg_2, ↓mg_3, ↓mg_4, ↓mp_5, ↓mg_5, ↓mp_6, ↓mg_6, ↓mp_7, ↓mg_7, ↓mp_8, ↓mg_8, ↓mp_9, ↓mg_9, ↓mp_10, ↓mg_10, ↓mp_11, ↓mg_11, ↓mp_12, ↓mg_12, ↓mp_13, ↓mg_13, ↓mp_14, ↓mg_14, ↓mp_15, ↓mg_15, ↓mp_16, ↓mg_16, ↓mg_17, ↓mp_18, ↓mg_18, ↓mp_19, ↓mg_19, ↓mp_20, ↓mg_20, ↓mp_21, ↓mg_21, ↓mg_22, ↓mg_23, ↓mg_24, ↓mg_25, ↓mg_26, ↓mg_27, ↓mg_28, ↓mg_29, ↓mg_30, ↓mg_31, ↓mg_32, ↓mg_33, ↓mg_34, ↓mp_35, ↓mg_35, ↓mp_36, ↓mg_36, ↓mg_37, ↓mg_38, ↓mg_39, ↓ma_1, ↓ms_1, ↓ma_2, ↓ms_2, ↓ma_3, ↓ms_3, ↓ma_4, ↓ms_4, ↓ma_5, ↓ms_5, ↓ma_6, ↓ms_6, ↓ma_9, ↓ms_9, ↓ma_10, ↓ms_10, ↓ma_11, ↓ms_11, ↓ma_12, ↓ms_12, ↓ma_13, ↓ms_13, ↓ma_14, ↓ms_14, ↓ma_15, ↓ms_15, ↓ma_16, ↓ms_16, ↓ma_17, ↓ms_17, ↓ma_18, ↓ms_18, ↓ma_19, ↓ms_19, ↓ma_20, ↓ms_20, ↓ma_21, ↓ms_21, ↓mo_q', ↓ma_L, ↓ms_L, ↓ma_Z, ↓ms_Z, mF_1, mF_2, mWd_1, mWd_w, mWd_2, mA_1, mA_w, mA_a, mA_v, mV_1, mV_w, mV_a, mV_v, mA_mA, mV_mV, mF_mF, nI_add, nI_cl, vpi, i01, i02, i10, i11, ↓reduceIte, not_true_eq_false, not_false_eq_true, and_true, true_and, ne_eq, Nat.reduceAdd, Nat.reduceMul, Nat.reduceSub, Nat.reduceEqDiff, reduceCtorEq, Nat.add_zero, Nat.zero_add, n0p, ite_true, ite_false, if_true, if_false, nlT, nlF, nleT, nleF, neT, neF, n0F, n0T, pk_sub, pk_mul, nIm1, nIm2, nlZ, nleZ, upd_s, upd_n, pk_uLs, pk_uLn, nar_0, nar_1, nar_n0, nar_n1]
      have st : sm [13, 17] σ (mA (mA σ 17 (lay (σ.2.2.1 17) 0 j (fun _ => -1))) 13 (upd (σ.2.2.1 13) (h + 1) (nI 0))) := sm_t (sm_A (by decide)) (sm_A (by decide))
      refine at4 m 0 (by omega) _ (sm_w st (by simp)) (fun i hi => ?_) ?_ ?_
      · have := hL i hi
        refine ⟨?_, this.2.1, this.2.2⟩
        show upd (σ.2.2.1 13) (h + 1) (nI 0) i = _
        rw [upd_n (by omega)]; exact this.1
      · refine ⟨?_, Nat.zero_le _, fun k e he => ?_⟩
        · show upd (σ.2.2.1 13) (h + 1) (nI 0) (h + 1) = _
          rw [upd_s]; rfl
        · rw [List.getElem?_nil] at he; exact nomatch he
      · refine ⟨fun s' hs' => ?_, fun k hk => absurd hk (Nat.not_lt_zero k)⟩
        show lay (σ.2.2.1 17) 0 j (fun _ => -1) s' = -1
        have := lay_in (f := σ.2.2.1 17) (r := fun _ => -1) (x := 0) (n := j) (j := s') (by omega)
        rw [Nat.zero_add] at this
        exact this
    | succ n ih =>
      intro j hj
      refine t_M_findNext_1 ?_
      simp (disch := omega) only [↓i01, ↓i02, ↓xrI_mk, ↓xrV_mk, ↓xrL_mk, ↓xrR_mk, ↓mg_0, ↓mg_1, ↓mp_2, ↓mg_2, ↓mg_3, ↓mg_4, ↓mp_5, ↓mg_5, ↓mp_6, ↓mg_6, ↓mp_7, ↓mg_7, ↓mp_8, ↓mg_8, ↓mp_9, ↓mg_9, ↓mp_10, ↓mg_10, ↓mp_11, ↓mg_11, ↓mp_12, ↓mg_12, ↓mp_13, ↓mg_13, ↓mp_14, ↓mg_14, ↓mp_15, ↓mg_15, ↓mp_16, ↓mg_16, ↓mg_17, ↓mp_18, ↓mg_18, ↓mp_19, ↓mg_19, ↓mp_20, ↓mg_20, ↓mp_21, ↓mg_21, ↓mg_22, ↓mg_23, ↓mg_24, ↓mg_25, ↓mg_26, ↓mg_27, ↓mg_28, ↓mg_29, ↓mg_30, ↓mg_31, ↓mg_32, ↓mg_33, ↓mg_34, ↓mp_35, ↓mg_35, ↓mp_36, ↓mg_36, ↓mg_37, ↓mg_38, ↓mg_39, ↓ma_1, ↓ms_1, ↓ma_2, ↓ms_2, ↓ma_3, ↓ms_3, ↓ma_4, ↓ms_4, ↓ma_5, ↓ms_5, ↓ma_6, ↓ms_6, ↓ma_9, ↓ms_9, ↓ma_10, ↓ms_10, ↓ma_11, ↓ms_11, ↓ma_12, ↓ms_12, ↓ma_13, ↓ms_13, ↓ma_14, ↓ms_14, ↓ma_15, ↓ms_15, ↓ma_16, ↓ms_16, ↓ma_17, ↓ms_17, ↓ma_18, ↓ms_18, ↓ma_19, ↓ms_19, ↓ma_20, ↓ms_20, ↓ma_21, ↓ms_21, ↓mo_q', ↓ma_L, ↓ms_L, ↓ma_Z, ↓ms_Z, mF_1, mF_2, mWd_1, mWd_w, mWd_2, mA_1, mA_w, mA_a, mA_v, mV_1, mV_w, mV_a, mV_v, mA_mA, mV_mV, mF_mF, nI_add, nI_cl, vpi, i01, i02, i10, i11, ↓reduceIte, not_true_eq_false, not_false_eq_true, and_true, true_and, ne_eq, Nat.reduceAdd, Nat.reduceMul, Nat.reduceSub, Nat.reduceEqDiff, reduceCtorEq, Nat.add_zero, Nat.zero_add, n0p, ite_true, ite_false, if_true, if_false, nlT, nlF, nleT, nleF, neT, neF, n0F, n0T, pk_sub, pk_mul, nIm1, nIm2, nlZ, nleZ, upd_s, upd_n, pk_uLs, pk_uLn, nar_0, nar_1, nar_n0, nar_n1]
      have := ih (j + 1) (by omega)
      rw [← lay_s, Nat.zero_add] at this
      exact this
  have := at1 4096 0 rfl
  rw [lay_0, mA_self] at this
  exact this
end BF2
