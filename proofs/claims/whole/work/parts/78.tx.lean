/-! the class reads a text -/
section TX
variable {sa : Nat → Nat} {d : Nat} {Q : xQ} {c R : Nat} {M0 M : xM} {τ τ0 : cS} {b : Nat → Nat} {n tb i sz : Nat}
theorem rd_all (hS : stR sa c M0) (hb : teK R tb) (h34 : tb + 7 < 34) (h300 : n ≤ 300) : ∀ f, RM sa c R M0 τ0 b n tb f 0 m_Tape_readEither 5 ∧ RL c R M0 τ0 b n tb f 1 4 (fun D Q o l cnt M => K_Tape_readEither sa D Q 1 [some (.ref (c + 34)), some (.int (nI o)), some (.int l), some (.int (nI cnt))] [] M (0, 0)) ∧ RM sa c R M0 τ0 b n tb f 2 m_Tape_readBoth 4 ∧ RL c R M0 τ0 b n tb f 3 3 (fun D Q o l cnt M => K_Tape_readBoth sa D Q 1 [some (.ref (c + 34)), some (.int (nI o)), some (.int l), some (.int (nI cnt))] [] M (0, 0)) ∧ RM sa c R M0 τ0 b n tb f 4 m_Tape_readAsk 3 ∧ RM sa c R M0 τ0 b n tb f 5 m_Tape_readSum 2 ∧ RL c R M0 τ0 b n tb f 6 1 (fun D Q o l cnt M => K_Tape_readSum sa D Q 1 [some (.ref (c + 34)), some (.int (nI o)), some (.int l), some (.int (nI cnt)), none] [] M (0, 0)) ∧ RM sa c R M0 τ0 b n tb f 7 m_Tape_readProduct 1 ∧ RL c R M0 τ0 b n tb f 8 0 (fun D Q o l cnt M => K_Tape_readProduct sa D Q 1 [some (.ref (c + 34)), some (.int (nI o)), some (.int l), some (.int (nI cnt)), none] [] M (0, 0)) ∧ RM sa c R M0 τ0 b n tb f 9 m_Tape_readOne 0 := by
  intro f
  induction f with
  | zero =>
    refine ⟨?_, ?_, ?_, ?_, ?_, ?_, ?_, ?_, ?_, ?_⟩
    · intro o i sz D t τ Q _ _ h; omega
    · intro o i sz cnt D t τ Q _ _ h; omega
    · intro o i sz D t τ Q _ _ h; omega
    · intro o i sz cnt D t τ Q _ _ h; omega
    · intro o i sz D t τ Q _ _ h; omega
    · intro o i sz D t τ Q _ _ h; omega
    · intro o i sz cnt D t τ Q _ _ h; omega
    · intro o i sz D t τ Q _ _ h; omega
    · intro o i sz cnt D t τ Q _ _ h; omega
    · intro o i sz D t τ Q _ _ h; omega
  | succ f ih =>
    obtain ⟨h0, h1, h2, h3, h4, h5, h6, h7, h8, h9⟩ := ih
    exact ⟨rm_0 hS h2 h1, rl_1 hS hb h34 h300 h2 h1, rm_2 hS h4 h3, rl_3 hS hb h34 h300 h4 h3, rm_4 hS hb h34 h300 h4 h5, rm_5 hS h7 h6, rl_6 hS hb h34 h300 h7 h6, rm_7 hS h9 h8, rl_8 hS hb h34 h300 h9 h8, rm_9 hS hb h34 h300 h0 h5 h9⟩
/-- a text under way at token i: sz steps, clauses l -/
def clC (τ0 τ : cS) (b : Nat → Nat) (n tb i sz : Nat) (l : List (Nat × Term)) : Prop := fF tb τ0 τ ∧ tpC τ b n ∧ τ 34 4 = nI tb ∧ tcX τ (lxI b n i) ∧ τ tb 7 = nI sz ∧ sz ≤ i ∧ i ≤ tkP b n i ∧ txC τ tb l ∧ txV l ∧ (∀ (k : Nat) (p : Nat × Term), l[k]? = some p → ∃ x, τ (tb + 6) k = nI x ∧ ccT τ tb p.2 x ∧ x + cs p.2 ≤ sz) ∧ τ 34 2 = 0 ∧ τ 34 3 = -1
theorem wrong_0 (hs6 : τ 34 6 = nI (tkP b n i)) (ht : tpC τ b n) (hfr : fF tb τ0 τ) {k : Nat} (h : ∀ τ', fF tb τ0 τ' → τ' 34 1 = nI n → τ' 34 2 = nI k → τ' 34 3 = nI (tkP b n i) → Q (some (.int (-1))) (cM c R M0 τ')) : xEv xP (xprim sa) (d + 1) m_Tape_wrong [.ref (c + 34), .int (nI k)] (cM c R M0 τ) Q := by
  refine t_Tape_wrong ?_
  simp (disch := omega) only [↓i01, ↓i02, ↓xrI_mk, ↓xrV_mk, ↓xrL_mk, ↓xrR_mk, ↓gCo_0_0, ↓pCo_0_0, ↓gCo_1_0, ↓gCo_2_0, ↓gCo_3_0, ↓gCo_4_0, ↓gCo_5_0, ↓gCo_6_0, ↓gCo_7_0, ↓gCo_8_0, ↓gCo_9_0, ↓gCo_10_0, ↓pCo_10_0, ↓gCo_11_0, ↓pCo_11_0, ↓co_0', ↓gTa_0_34, ↓gTa_1_34, ↓pTa_1_34, ↓gTa_2_34, ↓pTa_2_34, ↓gTa_3_34, ↓pTa_3_34, ↓gTa_5_34, ↓pTa_5_34, ↓gTa_6_34, ↓pTa_6_34, ↓gTa_7_34, ↓pTa_7_34, ↓gTa_8_34, ↓pTa_8_34, ↓co_34', ↓gHa_0_36, ↓pHa_0_36, ↓gHa_1_36, ↓gHa_2_36, ↓gHa_3_36, ↓gHa_4_36, ↓gHa_5_36, ↓gHa_6_36, ↓co_36', ↓gTr_0_42, ↓pTr_0_42, ↓gTr_1_42, ↓gTr_2_42, ↓gTr_3_42, ↓gTr_4_42, ↓co_42', ↓gRu_0_62, ↓gRu_1_62, ↓gRu_2_62, ↓gRu_3_62, ↓gRu_4_62, ↓gRu_5_62, ↓gRu_6_62, ↓gRu_7_62, ↓gRu_8_62, ↓gRu_9_62, ↓gRu_10_62, ↓pRu_10_62, ↓gRu_11_62, ↓pRu_11_62, ↓gRu_12_62, ↓pRu_12_62, ↓co_62', ↓gFo_0_85, ↓pFo_0_85, ↓gFo_1_85, ↓gFo_2_85, ↓gFo_3_85, ↓gFo_4_85, ↓gFo_5_85, ↓pFo_5_85, ↓co_85', ↓gFo_0_90, ↓pFo_0_90, ↓gFo_1_90, ↓gFo_2_90, ↓gFo_3_90, ↓gFo_4_90, ↓gFo_5_90, ↓pFo_5_90, ↓co_90', ↓gFo_0_95, ↓pFo_0_95, ↓gFo_1_95, ↓gFo_2_95, ↓gFo_3_95, ↓gFo_4_95, ↓gFo_5_95, ↓pFo_5_95, ↓co_95', ↓gMo_0_54, ↓gMo_1_54, ↓gMo_2_54, ↓gMo_3_54, ↓pMo_3_54, ↓gMo_4_54, ↓pMo_4_54, ↓co_54', ↓gMo_0_58, ↓gMo_1_58, ↓gMo_2_58, ↓gMo_3_58, ↓pMo_3_58, ↓gMo_4_58, ↓pMo_4_58, ↓co_58', ↓gMo_0_100, ↓gMo_1_100, ↓gMo_2_100, ↓gMo_3_100, ↓pMo_3_100, ↓gMo_4_100, ↓pMo_4_100, ↓co_100', ↓gMo_0_104, ↓gMo_1_104, ↓gMo_2_104, ↓gMo_3_104, ↓pMo_3_104, ↓gMo_4_104, ↓pMo_4_104, ↓co_104', ↓gMo_0_128, ↓gMo_1_128, ↓gMo_2_128, ↓gMo_3_128, ↓pMo_3_128, ↓gMo_4_128, ↓pMo_4_128, ↓co_128', ↓gMo_0_306, ↓gMo_1_306, ↓gMo_2_306, ↓gMo_3_306, ↓pMo_3_306, ↓gMo_4_306, ↓pMo_4_306, ↓co_306', ↓gEl_0_108, ↓gEl_1_108, ↓gEl_2_108, ↓gEl_3_108, ↓gEl_4_108, ↓gEl_5_108, ↓gEl_6_108, ↓gEl_7_108, ↓pEl_7_108, ↓co_108', ↓gEl_0_120, ↓gEl_1_120, ↓gEl_2_120, ↓gEl_3_120, ↓gEl_4_120, ↓gEl_5_120, ↓gEl_6_120, ↓gEl_7_120, ↓pEl_7_120, ↓co_120', ↓gEl_0_298, ↓gEl_1_298, ↓gEl_2_298, ↓gEl_3_298, ↓gEl_4_298, ↓gEl_5_298, ↓gEl_6_298, ↓gEl_7_298, ↓pEl_7_298, ↓co_298', ↓gHe_0_116, ↓gHe_1_116, ↓gHe_2_116, ↓pHe_2_116, ↓gHe_3_116, ↓pHe_3_116, ↓co_116', ↓gHe_0_294, ↓gHe_1_294, ↓gHe_2_294, ↓pHe_2_294, ↓gHe_3_294, ↓pHe_3_294, ↓co_294', ↓gHe_0_472, ↓gHe_1_472, ↓gHe_2_472, ↓pHe_2_472, ↓gHe_3_472, ↓pHe_3_472, ↓co_472', ↓gWh_0_119, ↓gWh_1_119, ↓gWh_2_119, ↓gWh_3_119, ↓gWh_4_119, ↓pWh_4_119, ↓co_119', ↓gWh_0_297, ↓gWh_1_297, ↓gWh_2_297, ↓gWh_3_297, ↓gWh_4_297, ↓pWh_4_297, ↓co_297', ↓gPa_0_132, ↓gPa_1_132, ↓pPa_1_132, ↓gPa_2_132, ↓pPa_2_132, ↓co_132', ↓gPa_0_310, ↓gPa_1_310, ↓pPa_1_310, ↓gPa_2_310, ↓pPa_2_310, ↓co_310', ↓ca_35, ↓cs_35, ↓cl_35, ↓ca_37, ↓cs_37, ↓cl_37, ↓ca_38, ↓cs_38, ↓cl_38, ↓ca_39, ↓cs_39, ↓cl_39, ↓ca_40, ↓cs_40, ↓cl_40, ↓ca_83, ↓cs_83, ↓cl_83, ↓ca_84, ↓cs_84, ↓cl_84, ↓ca_55, ↓cs_55, ↓cl_55, ↓ca_56, ↓cs_56, ↓cl_56, ↓ca_57, ↓cs_57, ↓cl_57, ↓ca_59, ↓cs_59, ↓cl_59, ↓ca_60, ↓cs_60, ↓cl_60, ↓ca_61, ↓cs_61, ↓cl_61, ↓ca_101, ↓cs_101, ↓cl_101, ↓ca_102, ↓cs_102, ↓cl_102, ↓ca_103, ↓cs_103, ↓cl_103, ↓ca_105, ↓cs_105, ↓cl_105, ↓ca_106, ↓cs_106, ↓cl_106, ↓ca_107, ↓cs_107, ↓cl_107, ↓ca_129, ↓cs_129, ↓cl_129, ↓ca_130, ↓cs_130, ↓cl_130, ↓ca_131, ↓cs_131, ↓cl_131, ↓ca_307, ↓cs_307, ↓cl_307, ↓ca_308, ↓cs_308, ↓cl_308, ↓ca_309, ↓cs_309, ↓cl_309, ↓ca_109, ↓cs_109, ↓cl_109, ↓ca_110, ↓cs_110, ↓cl_110, ↓ca_111, ↓cs_111, ↓cl_111, ↓ca_112, ↓cs_112, ↓cl_112, ↓ca_121, ↓cs_121, ↓cl_121, ↓ca_122, ↓cs_122, ↓cl_122, ↓ca_123, ↓cs_123, ↓cl_123, ↓ca_124, ↓cs_124, ↓cl_124, ↓ca_299, ↓cs_299, ↓cl_299, ↓ca_300, ↓cs_300, ↓cl_300, ↓ca_301, ↓cs_301, ↓cl_301, ↓ca_302, ↓cs_302, ↓cl_302, ↓ca_117, ↓cs_117, ↓cl_117, ↓ca_118, ↓cs_118, ↓cl_118, ↓ca_295, ↓cs_295, ↓cl_295, ↓ca_296, ↓cs_296, ↓cl_296, ↓ca_473, ↓cs_473, ↓cl_473, ↓ca_474, ↓cs_474, ↓cl_474, ↓ca_86, ↓cs_86, ↓cl_86, ↓ca_87, ↓cs_87, ↓cl_87, ↓ca_88, ↓cs_88, ↓cl_88, ↓ca_89, ↓cs_89, ↓cl_89, ↓ca_91, ↓cs_91, ↓cl_91, ↓ca_92, ↓cs_92, ↓cl_92, ↓ca_93, ↓cs_93, ↓cl_93, ↓ca_94, ↓cs_94, ↓cl_94, ↓ca_96, ↓cs_96, ↓cl_96, ↓ca_97, ↓cs_97, ↓cl_97, ↓ca_98, ↓cs_98, ↓cl_98, ↓ca_99, ↓cs_99, ↓cl_99, ↓ca_41, ↓cs_41, ↓cl_41, ↓ca_113, ↓cs_113, ↓cl_113, ↓ca_114, ↓cs_114, ↓cl_114, ↓ca_115, ↓cs_115, ↓cl_115, ↓ca_125, ↓cs_125, ↓cl_125, ↓ca_126, ↓cs_126, ↓cl_126, ↓ca_127, ↓cs_127, ↓cl_127, ↓ca_303, ↓cs_303, ↓cl_303, ↓ca_304, ↓cs_304, ↓cl_304, ↓ca_305, ↓cs_305, ↓cl_305, cU_s, cU_n, cU_U, nI_add, nI_cl, vpi, i01, i02, i10, i11, ↓reduceIte, not_true_eq_false, not_false_eq_true, and_true, true_and, ne_eq, Nat.reduceAdd, Nat.reduceMul, Nat.reduceSub, Nat.reduceEqDiff, reduceCtorEq, Nat.add_zero, Nat.zero_add, n0p, ite_true, ite_false, if_true, if_false, nlT, nlF, nleT, nleF, neT, neF, n0F, n0T, pk_sub, pk_mul, nIm1, nIm2, nlZ, nleZ, upd_s, upd_n, pk_uLs, pk_uLn, nar_0, nar_1, nar_n0, nar_n1, hs6]
  refine h _ (fun k k1 k2 => ?_) ?_ ?_ ?_
  · rw [cU_n k1]; exact hfr k k1 k2
  · rw [cU_s, upd_n (by omega), upd_n (by omega)]; exact ht.1
  · rw [cU_s, upd_n (by omega), upd_s]
  · rw [cU_s, upd_s]
/-- may a clause begin here? -/
theorem c_Ta_mayBegin (hb : teK R tb) (h34 : tb + 7 < 34) {l : List (Nat × Term)} (hc : clC τ0 τ b n tb i sz l) {x : Nat} (hx : τ 34 5 = nI x) (hx2 : x < 1000)
    (hE : ∀ k τ', (k = 1 ∧ ¬ (400 ≤ x ∧ x ≤ 404)) ∨ (k = 4 ∧ (400 ≤ x ∧ x ≤ 404) ∧ x ≠ 404 ∧ hasK (x - 400) l = true) ∨ (k = 5 ∧ (400 ≤ x ∧ x ≤ 404) ∧ ¬ (x ≠ 404 ∧ hasK (x - 400) l = true) ∧ l.length = 12) → fF tb τ0 τ' → τ' 34 1 = nI n → τ' 34 2 = nI k → τ' 34 3 = nI (tkP b n i) → Q (some (.int 0)) (cM c R M0 τ'))
    (hO : (400 ≤ x ∧ x ≤ 404) → ¬ (x ≠ 404 ∧ hasK (x - 400) l = true) → l.length < 12 → Q (some (.int 1)) (cM c R M0 τ)) : xEv xP (xprim sa) (d + 2) m_Tape_mayBegin [.ref (c + 34), .int (nI x)] (cM c R M0 τ) Q := by
  obtain ⟨h1, h2, h3, h4, h5, h6, h7, h8, h9, h10, h11, h12⟩ := hc
  have h12l := h8.2.1
  have wr : ∀ k, ((k = 1 ∧ ¬ (400 ≤ x ∧ x ≤ 404)) ∨ (k = 4 ∧ (400 ≤ x ∧ x ≤ 404) ∧ x ≠ 404 ∧ hasK (x - 400) l = true) ∨ (k = 5 ∧ (400 ≤ x ∧ x ≤ 404) ∧ ¬ (x ≠ 404 ∧ hasK (x - 400) l = true) ∧ l.length = 12)) → xEv xP (xprim sa) (d + 1) m_Tape_wrong [.ref (c + 34), .int (nI k)] (cM c R M0 τ) (xrI fun r1 M1 => ((nI 0) = 0 ∨ (nI 0) = 1) ∧ Q (some (.int (nI 0))) M1) := by
    intro k hk
    refine wrong_0 h4.2.1 h2 h1 (fun τ' f1 f2 f3 f4 => ?_)
    rw [xrI_mk]
    exact ⟨Or.inl rfl, hE k τ' hk f1 f2 f3 f4⟩
  have e8 : τ tb 8 = nI l.length := h8.1
  refine t_Tape_mayBegin ?_
  by_cases e1 : x < 400
  · rw [if_pos (nI_lt e1 (by omega))]
    exact ⟨co_34, wr 1 (Or.inl ⟨rfl, by omega⟩)⟩
  rw [if_neg (nI_nlt (by omega) (by omega))]
  by_cases e2 : x ≤ 404
  rotate_left
  · rw [if_neg (nI_ge (by omega) (by omega))]
    exact ⟨co_34, wr 1 (Or.inl ⟨rfl, by omega⟩)⟩
  rw [if_pos (nI_le e2 (by omega))]
  have tail : ¬ (x ≠ 404 ∧ hasK (x - 400) l = true) → (if nI l.length < nI 12 then ((nI 1 = 0 ∨ nI 1 = 1) ∧ Q (some (.int (nI 1))) (cM c R M0 τ)) else (xobj (cM c R M0 τ) (c + 34) 7 ∧ xEv xP (xprim sa) (d + 1) m_Tape_wrong [.ref (c + 34), .int (nI 5)] (cM c R M0 τ) (xrI fun r1 M1 => ((nI 0) = 0 ∨ (nI 0) = 1) ∧ Q (some (.int (nI 0))) M1))) := by
    intro hn
    by_cases e3 : l.length < 12
    · rw [if_pos (nI_lt e3 (by omega))]
      exact ⟨Or.inr rfl, hO (by omega) hn e3⟩
    · rw [if_neg (nI_nlt (by omega) (by omega))]
      exact ⟨co_34, wr 5 (Or.inr (Or.inr ⟨rfl, by omega, hn, by omega⟩))⟩
  by_cases e4 : x = 404
  · rw [if_pos (by rw [e4]), g_made h3 h34, gTe_8 hb.1, e8]
    exact tail (fun q => q.1 e4)
  · rw [if_neg (fun q => e4 ((nI_eq (by omega) (by omega)).mp q)), g_made h3 h34]
    refine ⟨(co_T hb.1 (by omega)) ▸ trivial, ?_⟩
    obtain ⟨sn, rfl⟩ : ∃ sn, x = 400 + sn := ⟨x - 400, by omega⟩
    refine c_Te_clauseOf hb h8 (sn := sn) (by omega) (fun hf => ?_) (fun k p hk hp hf => ?_)
    · rw [xrI_mk, if_pos rfl, g_made h3 h34, gTe_8 hb.1, e8]
      refine tail (fun q => ?_)
      have := q.2
      unfold hasK at this
      rw [show 400 + sn - 400 = sn by omega, hf] at this
      exact nomatch this
    · have := gt_lt hk
      rw [xrI_mk, if_neg (nI_m1 (by omega))]
      refine ⟨co_34, wr 4 (Or.inr (Or.inl ⟨rfl, by omega, e4, ?_⟩))⟩
      unfold hasK
      rw [show 400 + sn - 400 = sn by omega, hf]
end TX
