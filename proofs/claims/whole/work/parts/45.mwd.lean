/-! the reference: words, ranks, the pile -/
theorem i64_0 : (0 : Int64) = lN 0 := rfl
theorem kw_big : ∀ k : Fin 18, wdL (kwL (400 + k.val)) 0 < 2 ^ 64 := by decide
theorem kw_63 : ∀ k : Fin 18, k.val ≠ 13 → wdL (kwL (400 + k.val)) 0 < 2 ^ 63 := by decide
section MW
variable {sa : Nat → Nat} {d : Nat} {Q : xQ} {q : Nat} {M0 M : xM} {σ : mS} {b : Nat → Nat} {n p T e v : Nat}
/-- a word or not: what the token's field and the word say -/
theorem tk_word (ht : tkM σ b n p T e v) (hp : tpR σ b n) : (σ.1 10 = nI 2 ∧ (T = 3 ∨ (400 ≤ T ∧ T < 418)) ∧ ∀ k, 400 ≤ k → k < 418 → k ≠ 413 → (lg_cmp σ.2.1 (lN (wdL (kwL k) 0)) = 0 ↔ T = k)) ∨ (σ.1 10 = nI T ∧ T < 64 ∧ T ≠ 2) := by
  obtain ⟨h8, h9, c, h10, hc, _⟩ := ht
  rcases hc with ⟨rfl, hw, hT, hpe, hen, hl⟩ | ⟨rfl, hT⟩
  · refine Or.inl ⟨h10, ?_, fun k h1 h2 h3 => ?_⟩
    · rw [hT]; exact kwOf_r
    · have hb : ∀ j, j < e - p → 0 < b (p + j) ∧ b (p + j) < 256 := by
        intro j hj
        have := isLt_i.mp (hl j hj)
        omega
      have h7 := kw_7 ⟨k - 400, by omega⟩ (by show k - 400 ≠ 13; omega)
      have h63 := kw_63 ⟨k - 400, by omega⟩ (by show k - 400 ≠ 13; omega)
      rw [show 400 + (⟨k - 400, by omega⟩ : Fin 18).val = k by show 400 + (k - 400) = k; omega] at h7 h63
      have hlt : (if e - p ≤ 7 then wdN b p (e - p) else 0) < 2 ^ 63 := by
        split
        · have g1 := wdN_lt (b := b) (x := p) (e - p) (fun j hj => (hb j hj).2)
          have g2 : (256 : Nat) ^ (e - p) ≤ 256 ^ 7 := Nat.pow_le_pow_right (by omega) (by omega)
          have g3 : (256 : Nat) ^ 7 < 2 ^ 63 := by decide
          omega
        · omega
      rw [hw, lg_cmp_eq, pk_lEQ hlt h63, wd_kw hb h7.2.2 h7.1 h7.2.1, hT, kwOf_i h1 h2]
  · refine Or.inr ⟨h10, ?_, ?_⟩
    · rcases hT with h | h | h | h | h | h
      · omega
      · omega
      · omega
      · omega
      · omega
      · have := knS_i.mp h; omega
    · rcases hT with h | h | h | h | h | h
      · omega
      · omega
      · omega
      · omega
      · omega
      · have := knS_i.mp h; omega
/-- a sign, a number, the end: the field says it -/
theorem tk_sign (ht : tkM σ b n p T e v) (hp : tpR σ b n) {c : Nat} (hc : c ≠ 2) (hc3 : c ≠ 3) (h64 : c < 64) : (σ.1 10 = nI c) = (T = c) := by
  rcases tk_word ht hp with ⟨h, hT, _⟩ | ⟨h, hT, _⟩
  · rw [h]
    refine propext ⟨fun a => ?_, fun a => ?_⟩
    · exact absurd ((nI_eq (by omega) (by omega)).mp a).symm hc
    · omega
  · rw [h]
    refine propext ⟨fun a => (nI_eq (by omega) (by omega)).mp a, fun a => by rw [a]⟩
theorem c_M_isWord (ht : tkM σ b n p T e v) (hp : tpR σ b n) {k : Nat} (h1 : 400 ≤ k) (h2 : k < 418) (h3 : k ≠ 413) (h : Q (some (.int (if T = k then 1 else 0))) (mM q M0 σ)) : xEv xP (xprim sa) (d + 1) m_M_isWord [.ref q, .long (lN (wdL (kwL k) 0))] (mM q M0 σ) Q := by
  refine t_M_isWord ?_
  rcases tk_word ht hp with ⟨g1, g2, g3⟩ | ⟨g1, g2, g3⟩
  · simp (disch := omega) only [↓i01, ↓i02, ↓xrI_mk, ↓xrV_mk, ↓xrL_mk, ↓xrR_mk, ↓mg_0, ↓mg_1, ↓mp_2, ↓mg_2, ↓mg_3, ↓mg_4, ↓mp_5, ↓mg_5, ↓mp_6, ↓mg_6, ↓mp_7, ↓mg_7, ↓mp_8, ↓mg_8, ↓mp_9, ↓mg_9, ↓mp_10, ↓mg_10, ↓mp_11, ↓mg_11, ↓mp_12, ↓mg_12, ↓mp_13, ↓mg_13, ↓mp_14, ↓mg_14, ↓mp_15, ↓mg_15, ↓mp_16, ↓mg_16, ↓mg_17, ↓mp_18, ↓mg_18, ↓mp_19, ↓mg_19, ↓mp_20, ↓mg_20, ↓mp_21, ↓mg_21, ↓mg_22, ↓mg_23, ↓mg_24, ↓mg_25, ↓mg_26, ↓mg_27, ↓mg_28, ↓mg_29, ↓mg_30, ↓mg_31, ↓mg_32, ↓mg_33, ↓mg_34, ↓mp_35, ↓mg_35, ↓mp_36, ↓mg_36, ↓mg_37, ↓mg_38, ↓mg_39, ↓ma_1, ↓ms_1, ↓ma_2, ↓ms_2, ↓ma_3, ↓ms_3, ↓ma_4, ↓ms_4, ↓ma_5, ↓ms_5, ↓ma_6, ↓ms_6, ↓ma_9, ↓ms_9, ↓ma_10, ↓ms_10, ↓ma_11, ↓ms_11, ↓ma_12, ↓ms_12, ↓ma_13, ↓ms_13, ↓ma_14, ↓ms_14, ↓ma_15, ↓ms_15, ↓ma_16, ↓ms_16, ↓ma_17, ↓ms_17, ↓ma_18, ↓ms_18, ↓ma_19, ↓ms_19, ↓ma_20, ↓ms_20, ↓ma_21, ↓ms_21, ↓mo_q', ↓ma_L, ↓ms_L, ↓ma_Z, ↓ms_Z, mF_1, mF_2, mWd_1, mWd_w, mWd_2, mA_1, mA_w, mA_a, mA_v, mV_1, mV_w, mV_a, mV_v, mA_mA, mV_mV, mF_mF, nI_add, nI_cl, vpi, i01, i02, i10, i11, ↓reduceIte, not_true_eq_false, not_false_eq_true, and_true, true_and, ne_eq, Nat.reduceAdd, Nat.reduceMul, Nat.reduceSub, Nat.reduceEqDiff, reduceCtorEq, Nat.add_zero, Nat.zero_add, n0p, ite_true, ite_false, if_true, if_false, nlT, nlF, nleT, nleF, neT, neF, n0F, n0T, pk_sub, pk_mul, nIm1, nIm2, nlZ, nleZ, upd_s, upd_n, pk_uLs, pk_uLn, nar_0, nar_1, nar_n0, nar_n1, g1]
    by_cases e : T = k
    · rw [if_pos e] at h
      rw [if_neg (not_not_intro ((g3 k h1 h2 h3).mpr e))]
      exact h
    · rw [if_neg e] at h
      rw [if_pos (fun a => e ((g3 k h1 h2 h3).mp a))]
      exact h
  · simp (disch := omega) only [↓i01, ↓i02, ↓xrI_mk, ↓xrV_mk, ↓xrL_mk, ↓xrR_mk, ↓mg_0, ↓mg_1, ↓mp_2, ↓mg_2, ↓mg_3, ↓mg_4, ↓mp_5, ↓mg_5, ↓mp_6, ↓mg_6, ↓mp_7, ↓mg_7, ↓mp_8, ↓mg_8, ↓mp_9, ↓mg_9, ↓mp_10, ↓mg_10, ↓mp_11, ↓mg_11, ↓mp_12, ↓mg_12, ↓mp_13, ↓mg_13, ↓mp_14, ↓mg_14, ↓mp_15, ↓mg_15, ↓mp_16, ↓mg_16, ↓mg_17, ↓mp_18, ↓mg_18, ↓mp_19, ↓mg_19, ↓mp_20, ↓mg_20, ↓mp_21, ↓mg_21, ↓mg_22, ↓mg_23, ↓mg_24, ↓mg_25, ↓mg_26, ↓mg_27, ↓mg_28, ↓mg_29, ↓mg_30, ↓mg_31, ↓mg_32, ↓mg_33, ↓mg_34, ↓mp_35, ↓mg_35, ↓mp_36, ↓mg_36, ↓mg_37, ↓mg_38, ↓mg_39, ↓ma_1, ↓ms_1, ↓ma_2, ↓ms_2, ↓ma_3, ↓ms_3, ↓ma_4, ↓ms_4, ↓ma_5, ↓ms_5, ↓ma_6, ↓ms_6, ↓ma_9, ↓ms_9, ↓ma_10, ↓ms_10, ↓ma_11, ↓ms_11, ↓ma_12, ↓ms_12, ↓ma_13, ↓ms_13, ↓ma_14, ↓ms_14, ↓ma_15, ↓ms_15, ↓ma_16, ↓ms_16, ↓ma_17, ↓ms_17, ↓ma_18, ↓ms_18, ↓ma_19, ↓ms_19, ↓ma_20, ↓ms_20, ↓ma_21, ↓ms_21, ↓mo_q', ↓ma_L, ↓ms_L, ↓ma_Z, ↓ms_Z, mF_1, mF_2, mWd_1, mWd_w, mWd_2, mA_1, mA_w, mA_a, mA_v, mV_1, mV_w, mV_a, mV_v, mA_mA, mV_mV, mF_mF, nI_add, nI_cl, vpi, i01, i02, i10, i11, ↓reduceIte, not_true_eq_false, not_false_eq_true, and_true, true_and, ne_eq, Nat.reduceAdd, Nat.reduceMul, Nat.reduceSub, Nat.reduceEqDiff, reduceCtorEq, Nat.add_zero, Nat.zero_add, n0p, ite_true, ite_false, if_true, if_false, nlT, nlF, nleT, nleF, neT, neF, n0F, n0T, pk_sub, pk_mul, nIm1, nIm2, nlZ, nleZ, upd_s, upd_n, pk_uLs, pk_uLn, nar_0, nar_1, nar_n0, nar_n1, g1]
    rw [if_neg (by omega)] at h
    exact h
theorem c_M_w3 {x y z : Nat} (hx : x < 256) (hy : y < 256) (hz : z < 256) (h : Q (some (.long (lN ((x * 256 + y) * 256 + z)))) M) : xEv xP (xprim sa) (d + 1) m_M_w3 [.int (nI x), .int (nI y), .int (nI z)] M Q := by
  refine t_M_w3 ?_
  rw [nI_l (show x < 2 ^ 31 by omega), lpk (by omega) hy, lpk (by omega) hz]
  exact h
theorem c_M_w4 {x y z u : Nat} (hx : x < 256) (hy : y < 256) (hz : z < 256) (hu : u < 256) (h : Q (some (.long (lN (((x * 256 + y) * 256 + z) * 256 + u)))) M) : xEv xP (xprim sa) (d + 2) m_M_w4 [.int (nI x), .int (nI y), .int (nI z), .int (nI u)] M Q := by
  refine t_M_w4 (c_M_w3 hx hy hz ?_)
  rw [xrL_mk, lpk (by omega) hu]
  exact h
theorem c_M_w5 {x y z u w : Nat} (hx : x < 256) (hy : y < 256) (hz : z < 256) (hu : u < 256) (hw : w < 256) (h : Q (some (.long (lN ((((x * 256 + y) * 256 + z) * 256 + u) * 256 + w)))) M) : xEv xP (xprim sa) (d + 2) m_M_w5 [.int (nI x), .int (nI y), .int (nI z), .int (nI u), .int (nI w)] M Q := by
  refine t_M_w5 (c_M_w3 hx hy hz ?_)
  rw [xrL_mk, lpk (by omega) hu, lpk (by omega) hw]
  exact h
theorem kw_3 (ht : tkM σ b n p T e v) (hp : tpR σ b n) {x y z k : Nat} (hx : x < 256) (hy : y < 256) (hz : z < 256) (h1 : 400 ≤ k) (h2 : k < 418) (h3 : k ≠ 413) (hk : (x * 256 + y) * 256 + z = wdL (kwL k) 0) {K : Int32 → xM → Prop} (h : K (if T = k then 1 else 0) (mM q M0 σ)) : xEv xP (xprim sa) (d + 1) m_M_w3 [.int (nI x), .int (nI y), .int (nI z)] (mM q M0 σ) (xrL fun r1 M1 => xobj M1 q 12 ∧ xEv xP (xprim sa) (d + 1) m_M_isWord [.ref q, .long r1] M1 (xrI K)) := by
  refine c_M_w3 hx hy hz ?_
  rw [xrL_mk, hk]
  exact ⟨mo_q, c_M_isWord ht hp h1 h2 h3 h⟩
theorem kw_4 (ht : tkM σ b n p T e v) (hp : tpR σ b n) {x y z u k : Nat} (hx : x < 256) (hy : y < 256) (hz : z < 256) (hu : u < 256) (h1 : 400 ≤ k) (h2 : k < 418) (h3 : k ≠ 413) (hk : ((x * 256 + y) * 256 + z) * 256 + u = wdL (kwL k) 0) {K : Int32 → xM → Prop} (h : K (if T = k then 1 else 0) (mM q M0 σ)) : xEv xP (xprim sa) (d + 2) m_M_w4 [.int (nI x), .int (nI y), .int (nI z), .int (nI u)] (mM q M0 σ) (xrL fun r1 M1 => xobj M1 q 12 ∧ xEv xP (xprim sa) (d + 2) m_M_isWord [.ref q, .long r1] M1 (xrI K)) := by
  refine c_M_w4 hx hy hz hu ?_
  rw [xrL_mk, hk]
  exact ⟨mo_q, c_M_isWord ht hp h1 h2 h3 h⟩
theorem kw_5 (ht : tkM σ b n p T e v) (hp : tpR σ b n) {x y z u w k : Nat} (hx : x < 256) (hy : y < 256) (hz : z < 256) (hu : u < 256) (hw : w < 256) (h1 : 400 ≤ k) (h2 : k < 418) (h3 : k ≠ 413) (hk : (((x * 256 + y) * 256 + z) * 256 + u) * 256 + w = wdL (kwL k) 0) {K : Int32 → xM → Prop} (h : K (if T = k then 1 else 0) (mM q M0 σ)) : xEv xP (xprim sa) (d + 2) m_M_w5 [.int (nI x), .int (nI y), .int (nI z), .int (nI u), .int (nI w)] (mM q M0 σ) (xrL fun r1 M1 => xobj M1 q 12 ∧ xEv xP (xprim sa) (d + 2) m_M_isWord [.ref q, .long r1] M1 (xrI K)) := by
  refine c_M_w5 hx hy hz hu hw ?_
  rw [xrL_mk, hk]
  exact ⟨mo_q, c_M_isWord ht hp h1 h2 h3 h⟩
theorem c_M_sortOf (ht : tkM σ b n p T e v) (hp : tpR σ b n) (h : Q (some (.int (if 400 ≤ T ∧ T ≤ 404 then nI (T - 400) else -1))) (mM q M0 σ)) : xEv xP (xprim sa) (d + 3) m_M_sortOf [.ref q] (mM q M0 σ) Q := by
  refine t_M_sortOf (kw_4 (k := 400) ht hp (by omega) (by omega) (by omega) (by omega) (by omega) (by omega) (by omega) (by decide) ?_)
  by_cases e0 : T = 400
  · subst e0; exact h
  rw [if_neg e0, if_pos (by decide)]
  refine kw_4 (k := 401) ht hp (by omega) (by omega) (by omega) (by omega) (by omega) (by omega) (by omega) (by decide) ?_
  by_cases e1 : T = 401
  · subst e1; exact h
  rw [if_neg e1, if_pos (by decide)]
  refine kw_5 (k := 402) ht hp (by omega) (by omega) (by omega) (by omega) (by omega) (by omega) (by omega) (by omega) (by decide) ?_
  by_cases e2 : T = 402
  · subst e2; exact h
  rw [if_neg e2, if_pos (by decide)]
  refine kw_4 (k := 403) ht hp (by omega) (by omega) (by omega) (by omega) (by omega) (by omega) (by omega) (by decide) ?_
  by_cases e3 : T = 403
  · subst e3; exact h
  rw [if_neg e3, if_pos (by decide)]
  refine kw_4 (k := 404) ht hp (by omega) (by omega) (by omega) (by omega) (by omega) (by omega) (by omega) (by decide) ?_
  by_cases e4 : T = 404
  · subst e4; exact h
  rw [if_neg e4, if_pos (by decide)]
  rw [if_neg (by omega)] at h
  exact h
theorem c_M_isGotRight (ht : tkM σ b n p T e v) (hp : tpR σ b n) (h2 : σ.1 10 = nI 2) (h : Q (some (.int (if T = 413 then 1 else 0))) (mM q M0 σ)) : xEv xP (xprim sa) (d + 2) m_M_isGotRight [.ref q] (mM q M0 σ) Q := by
  obtain ⟨h8, h9, c, h10, hc, _⟩ := ht
  have h300 := hp.2.1
  have hc2 : c = 2 ∧ T = kwOf b p (e - p) ∧ p < e ∧ e ≤ n := by
    rcases hc with ⟨g1, _, g2, g3, g4, _⟩ | ⟨g1, g2⟩
    · exact ⟨g1, g2, g3, g4⟩
    · have hT : T < 64 ∧ T ≠ 2 := by
        rcases g2 with g | g | g | g | g | g
        · omega
        · omega
        · omega
        · omega
        · omega
        · have := knS_i.mp g; omega
      rw [h10] at h2
      have := (nI_eq (by omega) (by omega)).mp h2
      omega
  obtain ⟨_, hT, hpe, hen⟩ := hc2
  have hiff : T = 413 ↔ (e - p = 8 ∧ b p = 103 ∧ b (p + 1) = 111 ∧ b (p + 2) = 116 ∧ b (p + 3) = 114 ∧ b (p + 4) = 105 ∧ b (p + 5) = 103 ∧ b (p + 6) = 104 ∧ b (p + 7) = 116) := by
    rw [hT, kwOf_i (by omega) (by omega)]
    unfold isW
    rw [Bool.and_eq_true, decide_eq_true_eq, show kwL 413 = [103, 111, 116, 114, 105, 103, 104, 116] from rfl]
    simp only [mtB, Bool.and_eq_true, decide_eq_true_eq, and_true, List.length_cons, List.length_nil]
  refine t_M_isGotRight ?_
  simp only [mg_8, mg_9, h8, h9]
  rw [pk_sub (by omega)]
  by_cases e8 : e - p = 8
  · rw [e8, if_neg (not_not_intro rfl)]
    have hbv : ∀ j, j < 8 → byV b n (p + j) = nI (b (p + j)) ∧ b (p + j) < 256 := fun j hj => ⟨if_pos (by omega), (hp.2.2 (p + j) (by omega)).2⟩
    have no : ∀ j c, j < 8 → c < 256 → ¬ b (p + j) = c → ¬ byV b n (p + j) = nI c := by
      intro j c hj hc hne a
      rw [(hbv j hj).1] at a
      have := (hbv j hj).2
      exact hne ((nI_eq (by omega) (by omega)).mp a)
    have ye : ∀ j c, j < 8 → b (p + j) = c → byV b n (p + j) = nI c := fun j c hj he => by rw [(hbv j hj).1, he]
    have fl : ∀ (hh : ¬ T = 413), ((nI 0 = 0 ∨ nI 0 = 1) ∧ Q (some (.int (nI 0))) (mM q M0 σ)) := by
      intro hh
      rw [if_neg hh] at h
      exact o01 (Or.inl rfl) h
    refine ⟨mo_q, c_M_byteAt hp (by omega) ?_⟩
    rw [xrI_mk]
    by_cases q0 : b p = 103
    · rw [if_neg (not_not_intro (show byV b n p = nI 103 from ye 0 103 (by omega) q0))]
      simp only [mg_9, h9]
      rw [nI_add]
      refine ⟨mo_q, c_M_byteAt hp (by omega) ?_⟩
      rw [xrI_mk]
      by_cases q1 : b (p + 1) = 111
      · rw [if_neg (not_not_intro (ye 1 111 (by omega) q1))]
        simp only [mg_9, h9]
        rw [nI_add]
        refine ⟨mo_q, c_M_byteAt hp (by omega) ?_⟩
        rw [xrI_mk]
        by_cases q2 : b (p + 2) = 116
        · rw [if_neg (not_not_intro (ye 2 116 (by omega) q2))]
          simp only [mg_9, h9]
          rw [nI_add]
          refine ⟨mo_q, c_M_byteAt hp (by omega) ?_⟩
          rw [xrI_mk]
          by_cases q3 : b (p + 3) = 114
          · rw [if_pos (ye 3 114 (by omega) q3)]
            simp only [mg_9, h9]
            rw [nI_add]
            refine ⟨mo_q, c_M_byteAt hp (by omega) ?_⟩
            rw [xrI_mk]
            by_cases q4 : b (p + 4) = 105
            · rw [if_neg (not_not_intro (ye 4 105 (by omega) q4))]
              simp only [mg_9, h9]
              rw [nI_add]
              refine ⟨mo_q, c_M_byteAt hp (by omega) ?_⟩
              rw [xrI_mk]
              by_cases q5 : b (p + 5) = 103
              · rw [if_neg (not_not_intro (ye 5 103 (by omega) q5))]
                simp only [mg_9, h9]
                rw [nI_add]
                refine ⟨mo_q, c_M_byteAt hp (by omega) ?_⟩
                rw [xrI_mk]
                by_cases q6 : b (p + 6) = 104
                · rw [if_neg (not_not_intro (ye 6 104 (by omega) q6))]
                  simp only [mg_9, h9]
                  rw [nI_add]
                  refine ⟨mo_q, c_M_byteAt hp (by omega) ?_⟩
                  rw [xrI_mk]
                  by_cases q7 : b (p + 7) = 116
                  · rw [if_neg (not_not_intro (ye 7 116 (by omega) q7))]
                    rw [if_pos (hiff.mpr ⟨e8, q0, q1, q2, q3, q4, q5, q6, q7⟩)] at h
                    exact o01 (Or.inr rfl) h
                  · rw [if_pos (no 7 116 (by omega) (by omega) q7)]
                    exact fl (fun a => q7 (hiff.mp a).2.2.2.2.2.2.2.2)
                · rw [if_pos (no 6 104 (by omega) (by omega) q6)]
                  exact fl (fun a => q6 (hiff.mp a).2.2.2.2.2.2.2.1)
              · rw [if_pos (no 5 103 (by omega) (by omega) q5)]
                exact fl (fun a => q5 (hiff.mp a).2.2.2.2.2.2.1)
            · rw [if_pos (no 4 105 (by omega) (by omega) q4)]
              exact fl (fun a => q4 (hiff.mp a).2.2.2.2.2.1)
          · rw [if_neg (no 3 114 (by omega) (by omega) q3)]
            exact fl (fun a => q3 (hiff.mp a).2.2.2.2.1)
        · rw [if_pos (no 2 116 (by omega) (by omega) q2)]
          exact fl (fun a => q2 (hiff.mp a).2.2.2.1)
      · rw [if_pos (no 1 111 (by omega) (by omega) q1)]
        exact fl (fun a => q1 (hiff.mp a).2.2.1)
    · rw [if_pos (show ¬ byV b n p = nI 103 from no 0 103 (by omega) (by omega) q0)]
      exact fl (fun a => q0 (hiff.mp a).2.1)
  · rw [if_pos (fun a => e8 ((nI_eq (by omega) (by omega)).mp a))]
    rw [if_neg (fun a => e8 (hiff.mp a).1)] at h
    exact o01 (Or.inl rfl) h
theorem c_M_nameOf (ht : tkM σ b n p T e v) (hp : tpR σ b n) (h : Q (some (.int (if 410 ≤ T ∧ T ≤ 417 then nI (T - 410) else -1))) (mM q M0 σ)) : xEv xP (xprim sa) (d + 3) m_M_nameOf [.ref q] (mM q M0 σ) Q := by
  refine t_M_nameOf ?_
  rcases tk_word ht hp with ⟨g1, g2, g3⟩ | ⟨g1, g2, g3⟩
  · rw [mg_10, g1, if_pos rfl, mg_12]
    have tst : ∀ (k W : Nat), W = wdL (kwL k) 0 → 400 ≤ k → k < 418 → k ≠ 413 → ∀ {A B : Prop}, (¬ T = k → A) → (T = k → B) → (if ¬ lg_cmp σ.2.1 (lN W) = 0 then A else B) := by
      intro k W hW h1 h2 h3 A B hA hB
      rw [hW]
      by_cases ek : T = k
      · rw [if_neg (not_not_intro ((g3 k h1 h2 h3).mpr ek))]; exact hB ek
      · rw [if_pos (fun a => ek ((g3 k h1 h2 h3).mp a))]; exact hA ek
    refine tst 410 28005 (by decide) (by omega) (by omega) (by omega) (fun e0 => ?_) (fun e0 => by subst e0; exact h)
    rw [mg_12]
    refine c_M_w4 (by omega) (by omega) (by omega) (by omega) ?_
    rw [xrL_mk]
    refine tst 411 _ (by decide) (by omega) (by omega) (by omega) (fun e1 => ?_) (fun e1 => by subst e1; exact h)
    rw [mg_12]
    refine c_M_w3 (by omega) (by omega) (by omega) ?_
    rw [xrL_mk]
    refine c_M_w4 (by omega) (by omega) (by omega) (by omega) ?_
    rw [xrL_mk]
    rw [show lN ((103 * 256 + 111) * 256 + 116) <<< ((nI 32).toInt64 &&& 63) ||| lN (((108 * 256 + 101) * 256 + 102) * 256 + 116) = lN (wdL (kwL 412) 0) by decide]
    refine tst 412 _ rfl (by omega) (by omega) (by omega) (fun e2 => ?_) (fun e2 => by subst e2; exact h)
    refine ⟨mo_q, c_M_isGotRight ht hp g1 ?_⟩
    rw [xrI_mk]
    by_cases e3 : T = 413
    · subst e3; exact h
    rw [if_neg e3, if_pos (by decide), mg_12]
    refine c_M_w4 (by omega) (by omega) (by omega) (by omega) ?_
    rw [xrL_mk]
    refine tst 414 _ (by decide) (by omega) (by omega) (by omega) (fun e4 => ?_) (fun e4 => by subst e4; exact h)
    rw [mg_12]
    refine c_M_w4 (by omega) (by omega) (by omega) (by omega) ?_
    rw [xrL_mk]
    refine tst 415 _ (by decide) (by omega) (by omega) (by omega) (fun e5 => ?_) (fun e5 => by subst e5; exact h)
    rw [mg_12]
    refine c_M_w5 (by omega) (by omega) (by omega) (by omega) (by omega) ?_
    rw [xrL_mk]
    refine tst 416 _ (by decide) (by omega) (by omega) (by omega) (fun e6 => ?_) (fun e6 => by subst e6; exact h)
    rw [mg_12]
    refine c_M_w5 (by omega) (by omega) (by omega) (by omega) (by omega) ?_
    rw [xrL_mk]
    refine tst 417 _ (by decide) (by omega) (by omega) (by omega) (fun e7 => ?_) (fun e7 => by subst e7; exact h)
    rw [if_neg (by omega)] at h
    exact h
  · rw [mg_10, g1, if_neg (fun a => g3 ((nI_eq (by omega) (by omega)).mp a))]
    rw [if_neg (by omega)] at h
    exact h
theorem c_M_compareOf (ht : tkM σ b n p T e v) (hp : tpR σ b n) (h : Q (some (.int (if cmpK T = 0 then -1 else nI (cmpK T)))) (mM q M0 σ)) : xEv xP (xprim sa) (d + 1) m_M_compareOf [.ref q] (mM q M0 σ) Q := by
  refine t_M_compareOf ?_
  simp only [mg_10]
  have sg := fun c h1 h2 h3 => tk_sign ht hp (c := c) h1 h2 h3
  simp only [sg 60 (by omega) (by omega) (by omega), sg 4 (by omega) (by omega) (by omega), sg 62 (by omega) (by omega) (by omega), sg 5 (by omega) (by omega) (by omega), sg 61 (by omega) (by omega) (by omega), sg 35 (by omega) (by omega) (by omega)]
  unfold cmpK at h
  by_cases e1 : T = 60
  · subst e1; exact h
  by_cases e2 : T = 4
  · subst e2; exact h
  by_cases e3 : T = 62
  · subst e3; exact h
  by_cases e4 : T = 5
  · subst e4; exact h
  by_cases e5 : T = 61
  · subst e5; exact h
  by_cases e6 : T = 35
  · subst e6; exact h
  simp only [e1, e2, e3, e4, e5, e6, not_false_eq_true, if_true, if_false] at h ⊢
  exact h
end MW
