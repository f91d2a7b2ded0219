/-! the reference's side of text, the end -/
theorem encC_c {T T' : Nat → Int32} {b : Nat} (hT : ∀ j, b ≤ j → j < b + 645 → T' j = T j) : ∀ (l : List (Nat × Term)) (k i : Nat), k + l.length ≤ 12 → encC T b k i l → encC T' b k i l
  | [], _, _, _, _ => trivial
  | p :: l, k, i, hk, h => by
    rw [List.length_cons] at hk
    refine ⟨⟨?_, ?_, ?_, fun j x hx => ?_, h.1.2.2.2.2⟩, encC_c hT l (k + 1) _ (by omega) h.2⟩
    · rw [hT _ (by omega) (by omega)]; exact h.1.1
    · rw [hT _ (by omega) (by omega)]; exact h.1.2.1
    · rw [hT _ (by omega) (by omega)]; exact h.1.2.2.1
    · have hj := gt_lt hx
      have h302 := h.1.2.2.2.2.1
      rw [hT _ (by omega) (by omega), hT _ (by omega) (by omega)]
      exact h.1.2.2.2.1 j x hx
theorem enc_c {T T' : Nat → Int32} {b : Nat} (hT : ∀ j, b ≤ j → j < b + 645 → T' j = T j) {l : List (Nat × Term)} (h : enc T b l) : enc T' b l := by
  refine ⟨?_, h.2.1, encC_c hT l 0 0 (by have := h.2.1; omega) h.2.2⟩
  rw [hT b (by omega) (by omega)]; exact h.1
def tpB (s : fS) : Nat → Nat := fun j => cN (s.2.2.2.1 j)
def rdT (s : fS) : (Nat × Nat) ⊕ List (Nat × Term) := rdS (tkT (tpB s) s.2.2.2.2.1) (tkV (tpB s) s.2.2.2.2.1) 14 0 []
def oText (s : fS) : Int32 × fS := if s.1.1 0 = nI 4 then (-1, s) else match rdT s with
  | .inl (k, j) => (-1, (s.1, s.2.1, s.2.2.1, s.2.2.2.1, 0, nI k, nI (tkP (tpB s) s.2.2.2.2.1 j)))
  | .inr l => (s.1.1 0, ((upd s.1.1 0 (nI (cN (s.1.1 0) + 1)), s.1.2), s.2.1, (fun t => if t = cN (s.1.1 0) then l else s.2.2.1 t), s.2.2.2.1, 0, 0, -1))
section MOT
variable {sa : Nat → Nat} {d : Nat} {Q : xQ} {q : Nat} {M0 M : xM} {σ0 σ : mS} {b : Nat → Nat} {n t0 : Nat} {R : Nat} {s : fS}
theorem rdS_s {tk tv : Nat → Nat} {m i : Nat} {l : List (Nat × Term)} : rdS tk tv (m + 1) i l = if tk i = 0 then .inr l else if ¬ (400 ≤ tk i ∧ tk i ≤ 404) then .inl (1, i) else if tk i ≠ 404 ∧ hasK (tk i - 400) l = true then .inl (4, i) else if l.length = 12 then .inl (5, i)
    else match ps tk tv 3100 (if tk i = 404 then 0 else 5) 0 (i + 1) (.int 0) with
      | .inl e => .inl e
      | .inr (t, j) => if tk j = 59 then rdS tk tv m (j + 1) (l ++ [(tk i - 400, t)]) else .inl (1, j) := rfl
theorem c_M_readText (h300 : n ≤ 300) (hp : tpR σ b n) {t : Nat} (ht : t < 4) (hA : σ.2.2.1 1 0 = nI t)
    (hE : ∀ k j σ', rdS (tkT b n) (tkV b n) 14 0 [] = .inl (k, j) → 1 ≤ k → k ≤ 5 → frT (645 * t) σ σ' → σ'.1 9 = nI (tkP b n j) → Q (some (.int (nI k))) (mM q M0 σ'))
    (hO : ∀ l σ', rdS (tkT b n) (tkV b n) 14 0 [] = .inr l → frT (645 * t) σ σ' → enc (σ'.2.2.1 3) (645 * t) l → txV l → Q (some (.int (nI 0))) (mM q M0 σ')) : xEv xP (xprim sa) (d + 8) m_M_readText [.ref q] (mM q M0 σ) Q := by
  refine t_M_readText ?_
  simp (disch := omega) only [↓i01, ↓i02, ↓xrI_mk, ↓xrV_mk, ↓xrL_mk, ↓xrR_mk, ↓mg_0, ↓mg_1, ↓mp_2, ↓mg_2, ↓mg_3, ↓mg_4, ↓mp_5, ↓mg_5, ↓mp_6, ↓mg_6, ↓mp_7, ↓mg_7, ↓mp_8, ↓mg_8, ↓mp_9, ↓mg_9, ↓mp_10, ↓mg_10, ↓mp_11, ↓mg_11, ↓mp_12, ↓mg_12, ↓mp_13, ↓mg_13, ↓mp_14, ↓mg_14, ↓mp_15, ↓mg_15, ↓mp_16, ↓mg_16, ↓mg_17, ↓mp_18, ↓mg_18, ↓mp_19, ↓mg_19, ↓mp_20, ↓mg_20, ↓mp_21, ↓mg_21, ↓mg_22, ↓mg_23, ↓mg_24, ↓mg_25, ↓mg_26, ↓mg_27, ↓mg_28, ↓mg_29, ↓mg_30, ↓mg_31, ↓mg_32, ↓mg_33, ↓mg_34, ↓mp_35, ↓mg_35, ↓mp_36, ↓mg_36, ↓mg_37, ↓mg_38, ↓mg_39, ↓ma_1, ↓ms_1, ↓ma_2, ↓ms_2, ↓ma_3, ↓ms_3, ↓ma_4, ↓ms_4, ↓ma_5, ↓ms_5, ↓ma_6, ↓ms_6, ↓ma_9, ↓ms_9, ↓ma_10, ↓ms_10, ↓ma_11, ↓ms_11, ↓ma_12, ↓ms_12, ↓ma_13, ↓ms_13, ↓ma_14, ↓ms_14, ↓ma_15, ↓ms_15, ↓ma_16, ↓ms_16, ↓ma_17, ↓ms_17, ↓ma_18, ↓ms_18, ↓ma_19, ↓ms_19, ↓ma_20, ↓ms_20, ↓ma_21, ↓ms_21, ↓mo_q', ↓ma_L, ↓ms_L, ↓ma_Z, ↓ms_Z, mF_1, mF_2, mWd_1, mWd_w, mWd_2, mA_1, mA_w, mA_a, mA_v, mV_1, mV_w, mV_a, mV_v, mA_mA, mV_mV, mF_mF, nI_add, nI_cl, vpi, i01, i02, i10, i11, ↓reduceIte, not_true_eq_false, not_false_eq_true, and_true, true_and, ne_eq, Nat.reduceAdd, Nat.reduceMul, Nat.reduceSub, Nat.reduceEqDiff, reduceCtorEq, Nat.add_zero, Nat.zero_add, n0p, ite_true, ite_false, if_true, if_false, nlT, nlF, nleT, nleF, neT, neF, n0F, n0T, pk_sub, pk_mul, nIm1, nIm2, nlZ, nleZ, upd_s, upd_n, pk_uLs, pk_uLn, nar_0, nar_1, nar_n0, nar_n1, hA]
  have loop : ∀ (m i : Nat) (l : List (Nat × Term)) (τ : mS), m + l.length = 14 → clR σ τ b n (645 * t) l i → rdS (tkT b n) (tkV b n) 14 0 [] = rdS (tkT b n) (tkV b n) m i l → K_M_readText sa (d + 7) Q 1 [some (.ref q), none] [] (mM q M0 τ) (0, 0) := by
    intro m
    induction m with
    | zero =>
      intro i l τ hm h he
      have := h.2.2.2.2.2.2.2.2.1
      omega
    | succ m ih =>
      intro i l τ hm h he
      rw [rdS_s (m := m) (i := i) (l := l)] at he
      have h12 := h.2.2.2.2.2.2.2.2.1
      have hlen := h.2.2.2.2.2.2.2.2.2.2.1
      have hi := h.2.2.2.2.2.2.2.2.2.2.2.1
      have hin := tk_n hi
      have hsg : (τ.1 10 = 0) = (tkT b n i = 0) := tk_sign h.2.2.2.2.1 h.2.1 (c := 0) (by omega) (by omega) (by omega)
      refine t_M_readText_1 ?_
      rw [mg_10]
      by_cases e0 : tkT b n i = 0
      · rw [if_pos e0] at he
        rw [if_pos (hsg.mpr e0)]
        refine hO l τ he h.1 ⟨h.2.2.2.2.2.2.1, h12, enc_of l 0 0 h.2.2.2.2.2.2.2.1 h.2.2.1.2.2.1 h.2.2.2.2.2.2.2.2.2.1 (by omega)⟩ h.2.2.2.2.2.2.2.2.2.2.2.2
      · rw [if_neg e0] at he
        rw [if_neg (fun a => e0 (hsg.mp a))]
        refine ⟨mo_q, c_M_clause h300 h e0 (fun k j τ' f1 f2 hc => ?_) (fun u j τ' g1 g2 g3 g4 g5 hc => ?_)⟩
        · have key : rdS (tkT b n) (tkV b n) 14 0 [] = .inl (k, j) ∧ 1 ≤ k ∧ k ≤ 5 := by
            rw [he]
            rcases hc with ⟨c1, c2, c3⟩ | ⟨c0, ⟨c1, c2, c3, c4⟩ | ⟨c1, ⟨c2, c3, c4⟩ | ⟨c2, c3 | ⟨c3, u, c4, c5⟩⟩⟩⟩
            · rw [if_pos c3, c1, c2]; exact ⟨rfl, by omega, by omega⟩
            · rw [if_neg (not_not_intro c0), if_pos ⟨c3, c4⟩, c1, c2]; exact ⟨rfl, by omega, by omega⟩
            · rw [if_neg (not_not_intro c0), if_neg c1, if_pos c4, c2, c3]; exact ⟨rfl, by omega, by omega⟩
            · rw [if_neg (not_not_intro c0), if_neg c1, if_neg c2, c3]
              have hi1 := tk_i hi e0
              have hg := ps_G (tk := tkT b n) (tv := tkV b n) hs_tk hn_tk 3100 (if tkT b n i = 404 then 0 else 5) 0 (i + 1) (.int 0) (by split <;> omega) hi1 (by have := tk_n hi1; split <;> omega) (fun g => by split at g <;> exact nomatch g)
              rw [c3] at hg
              have := hg.1
              exact ⟨rfl, by omega, by omega⟩
            · rw [if_neg (not_not_intro c0), if_neg c1, if_neg c2, c4]
              dsimp only
              rw [if_neg c5, c3]; exact ⟨rfl, by omega, by omega⟩
          rw [xrI_mk, if_neg (nI_ne0 (by omega) (by omega))]
          exact hE k j τ' key.1 key.2.1 key.2.2 f1 f2
        · rw [if_neg (not_not_intro g1), if_neg g2, if_neg g3, g4] at he
          dsimp only at he
          rw [if_pos g5] at he
          rw [xrI_mk, if_pos (by decide)]
          exact ih (j + 1) _ τ' (by rw [List.length_append, List.length_singleton]; omega) hc he
  have fr : frT (645 * t) σ (mF (mF (mF (mF (mA (mF σ 13 (nI (645 * t))) 3 (upd (σ.2.2.1 3) (645 * t) (nI 0))) 15 (nI 0)) 19 (nI 0)) 21 (nI 0)) 8 (nI 0)) := frT_t (frT_F (by decide)) (frT_t (frT_3 (σ := mF σ 13 (nI (645 * t))) (by omega) (by omega)) (frT_t (frT_F (by decide)) (frT_t (frT_F (by decide)) (frT_t (frT_F (by decide)) (frT_F (by decide))))))
  have hp2 := tpR_T fr hp
  refine c_M_nextToken (x := 0) hp2 rfl (Nat.zero_le _) (fun τ s2 t2 => ?_)
  rw [xrV_mk]
  have e3 : τ.2.2.1 3 (645 * t) = nI 0 := by
    rw [s2.2]
    show upd (σ.2.2.1 3) (645 * t) (nI 0) (645 * t) = _
    exact upd_s
  refine loop 14 0 [] τ rfl ⟨frT_t fr (frT_P (frP_sm s2 (by decide))), tpR_F s2 (by decide) hp2, ⟨?_, ?_, fun j p hj => ?_, by omega⟩, ?_, t2, ⟨0, ?_, ?_⟩, e3, trivial, Nat.zero_le _, fun p hp => absurd hp List.not_mem_nil, Nat.zero_le _, Nat.zero_le _, fun i j p q hp => ?_⟩ rfl
  · rw [s2.1 13 (by decide)]; rfl
  · rw [s2.1 15 (by decide)]; rfl
  · rw [show cdL [] = [] from rfl, List.getElem?_nil] at hj; exact nomatch hj
  · rw [s2.1 19 (by decide)]; rfl
  · rw [s2.1 21 (by decide)]; rfl
  · decide
  · rw [List.getElem?_nil] at hp; exact nomatch hp
theorem op_M_text (hm : mR R σ s) (ho : okF R s) (h : ∀ σ', mR R σ' (oText s).2 → Q (some (.int (oText s).1)) (mM q M0 σ')) : xEv xP (xprim sa) (d + 9) m_M_text [.ref q] (mM q M0 σ) Q := by
  obtain ⟨nt, h4, h0, _⟩ := ho.2.2.1.1
  have hA : σ.2.2.1 1 0 = s.1.1 0 := hm.2.1.1 0 (by omega) (by omega)
  unfold oText at h
  refine t_M_text ?_
  rw [mg_0, ma_1, show (nI 0).toNatClampNeg = 0 from rfl, hA]
  refine ⟨vp_in_nI (by omega) (by omega), ?_⟩
  by_cases e4 : s.1.1 0 = nI 4
  · rw [if_pos e4] at h
    rw [if_neg (not_not_intro e4)]
    exact h σ hm
  · rw [if_neg e4] at h
    rw [if_pos e4]
    have hnt : nt < 4 := by
      rcases Nat.lt_or_ge nt 4 with g | g
      · exact g
      · rw [h0, show nt = 4 by omega] at e4; exact absurd rfl e4
    have hc : cN (s.1.1 0) = nt := by rw [h0]; exact nI_cl (by omega)
    have htp : tpR σ (tpB s) s.2.2.2.2.1 := by
      refine ⟨hm.2.2.2.2.1, ho.2.2.2.2.2.1, fun j hj => ?_⟩
      have hv := ho.2.2.2.2.2.2.1 j hj
      obtain ⟨r, hr, er⟩ := nI_rng hv.1 hv.2 (by omega)
      have : tpB s j = r := by unfold tpB; rw [er]; exact nI_cl (by omega)
      rw [hm.2.2.2.2.2.1 j hj, this, er]
      exact ⟨rfl, by omega⟩
    have texts : ∀ (τ : mS), frT (645 * nt) σ τ → ∀ t : Nat, t < nt → enc (τ.2.2.1 3) (645 * t) (s.2.2.1 t) := by
      intro τ f t ht
      refine enc_c (fun j h1 h2 => f.2.2 j (Or.inl (by omega))) (hm.2.2.2.1 t ?_)
      rw [h0, nI_i (by omega)]; omega
    have arr : ∀ (τ : mS), frT (645 * nt) σ τ → τ.2.2.1 1 = σ.2.2.1 1 ∧ τ.2.2.1 2 = σ.2.2.1 2 ∧ τ.1 2 = σ.1 2 := fun τ f => ⟨f.2.1 1 (by decide) (by decide), f.2.1 2 (by decide) (by decide), f.1 2 (by decide)⟩
    refine ⟨mo_q, c_M_readText ho.2.2.2.2.2.1 htp hnt (by rw [hA, h0]) (fun k j τ hr hk1 hk5 f g9 => ?_) (fun l τ hr f henc htx => ?_)⟩
    · have hr : rdT s = .inl (k, j) := hr
      rw [hr] at h
      dsimp only at h
      have a := arr τ f
      rw [xrI_mk, mp_6, mg_6, show (mF τ 6 (nI k)).1 6 = nI k from rfl, if_pos (nI_ne0 (by omega) (by omega)), mg_9, show (mF τ 6 (nI k)).1 9 = nI (tkP (tpB s) s.2.2.2.2.1 j) from g9, mp_7, mp_5, mg_6]
      rw [show (mF (mF (mF τ 6 (nI k)) 7 (nI (tkP (tpB s) s.2.2.2.2.1 j))) 5 (nI 0)).1 6 = nI k from rfl, if_neg (nI_ne0 (by omega) (by omega))]
      refine h _ ⟨a.2.2.trans hm.1, ?_, ?_, fun t ht => ?_, rfl, fun j hj => absurd hj (Nat.not_lt_zero j), rfl, rfl⟩
      · show rA (τ.2.2.1 1) _; rw [a.1]; exact hm.2.1
      · show rA (τ.2.2.1 2) _; rw [a.2.1]; exact hm.2.2.1
      · have ht : (t : Int) < (s.1.1 0).toInt := ht
        rw [h0, nI_i (by omega)] at ht
        exact texts τ f t (by omega)
    · have hr : rdT s = .inr l := hr
      rw [hr] at h
      dsimp only at h
      have a := arr τ f
      rw [xrI_mk, mp_6, mg_6, show (mF τ 6 (nI 0)).1 6 = nI 0 from rfl, if_neg (not_not_intro (by decide)), mp_7, mp_5, mg_6]
      rw [show (mF (mF (mF τ 6 (nI 0)) 7 (-1)) 5 (nI 0)).1 6 = nI 0 from rfl, if_pos (by decide)]
      have hτ0 : τ.2.2.1 1 0 = nI nt := by rw [a.1, hA, h0]
      rw [hc, h0] at h
      simp (disch := omega) only [↓i01, ↓i02, ↓xrI_mk, ↓xrV_mk, ↓xrL_mk, ↓xrR_mk, ↓mg_0, ↓mg_1, ↓mp_2, ↓mg_2, ↓mg_3, ↓mg_4, ↓mp_5, ↓mg_5, ↓mp_6, ↓mg_6, ↓mp_7, ↓mg_7, ↓mp_8, ↓mg_8, ↓mp_9, ↓mg_9, ↓mp_10, ↓mg_10, ↓mp_11, ↓mg_11, ↓mp_12, ↓mg_12, ↓mp_13, ↓mg_13, ↓mp_14, ↓mg_14, ↓mp_15, ↓mg_15, ↓mp_16, ↓mg_16, ↓mg_17, ↓mp_18, ↓mg_18, ↓mp_19, ↓mg_19, ↓mp_20, ↓mg_20, ↓mp_21, ↓mg_21, ↓mg_22, ↓mg_23, ↓mg_24, ↓mg_25, ↓mg_26, ↓mg_27, ↓mg_28, ↓mg_29, ↓mg_30, ↓mg_31, ↓mg_32, ↓mg_33, ↓mg_34, ↓mp_35, ↓mg_35, ↓mp_36, ↓mg_36, ↓mg_37, ↓mg_38, ↓mg_39, ↓ma_1, ↓ms_1, ↓ma_2, ↓ms_2, ↓ma_3, ↓ms_3, ↓ma_4, ↓ms_4, ↓ma_5, ↓ms_5, ↓ma_6, ↓ms_6, ↓ma_9, ↓ms_9, ↓ma_10, ↓ms_10, ↓ma_11, ↓ms_11, ↓ma_12, ↓ms_12, ↓ma_13, ↓ms_13, ↓ma_14, ↓ms_14, ↓ma_15, ↓ms_15, ↓ma_16, ↓ms_16, ↓ma_17, ↓ms_17, ↓ma_18, ↓ms_18, ↓ma_19, ↓ms_19, ↓ma_20, ↓ms_20, ↓ma_21, ↓ms_21, ↓mo_q', ↓ma_L, ↓ms_L, ↓ma_Z, ↓ms_Z, mF_1, mF_2, mWd_1, mWd_w, mWd_2, mA_1, mA_w, mA_a, mA_v, mV_1, mV_w, mV_a, mV_v, mA_mA, mV_mV, mF_mF, nI_add, nI_cl, vpi, i01, i02, i10, i11, ↓reduceIte, not_true_eq_false, not_false_eq_true, and_true, true_and, ne_eq, Nat.reduceAdd, Nat.reduceMul, Nat.reduceSub, Nat.reduceEqDiff, reduceCtorEq, Nat.add_zero, Nat.zero_add, n0p, ite_true, ite_false, if_true, if_false, nlT, nlF, nleT, nleF, neT, neF, n0F, n0T, pk_sub, pk_mul, nIm1, nIm2, nlZ, nleZ, upd_s, upd_n, pk_uLs, pk_uLn, nar_0, nar_1, nar_n0, nar_n1, hτ0]
      rw [Nat.add_sub_cancel]
      refine h _ ⟨a.2.2.trans hm.1, ?_, ?_, fun t ht => ?_, rfl, fun j hj => absurd hj (Nat.not_lt_zero j), rfl, rfl⟩
      · show rA (upd (τ.2.2.1 1) 0 (nI (nt + 1))) _
        rw [a.1]
        exact rA_u hm.2.1 (by omega) (by omega)
      · show rA (τ.2.2.1 2) _; rw [a.2.1]; exact hm.2.2.1
      · have ht : (t : Int) < (upd s.1.1 0 (nI (nt + 1)) 0).toInt := ht
        rw [upd_s, nI_i (by omega)] at ht
        show enc (τ.2.2.1 3) (645 * t) (if t = nt then l else s.2.2.1 t)
        by_cases e : t = nt
        · rw [if_pos e, e]; exact henc
        · rw [if_neg e]; exact texts τ f t (by omega)
end MOT
