/-! the class reads clauses, a text -/
section TY
variable {sa : Nat → Nat} {d : Nat} {Q : xQ} {c R : Nat} {M0 M : xM} {τ τ0 : cS} {b : Nat → Nat} {n tb i sz : Nat}
theorem c_Te_addClause (hb : teK R tb) {k : Nat} (hk : k < 12) (h8 : τ tb 8 = nI k) {v1 v2 v3 : Int32} (h : ∀ τ', (∀ j, j < tb ∨ (tb < j ∧ j < tb + 5) ∨ tb + 7 < j → τ' j = τ j) → (∀ j, j ≠ 8 → τ' tb j = τ tb j) → τ' tb 8 = nI (k + 1) → τ' (tb + 5) k = v1 → τ' (tb + 6) k = v2 → τ' (tb + 7) k = v3 → (∀ q, 5 ≤ q → q ≤ 7 → ∀ j, j ≠ k → τ' (tb + q) j = τ (tb + q) j) → Q none (cM c R M0 τ')) : xEv xP (xprim sa) (d + 1) m_Text_addClause [.ref (c + tb), .int v1, .int v2, .int v3] (cM c R M0 τ) Q := by
  refine t_Text_addClause ?_
  simp (disch := omega) only [↓i01, ↓i02, ↓xrI_mk, ↓xrV_mk, ↓xrL_mk, ↓xrR_mk, ↓gCo_0_0, ↓pCo_0_0, ↓gCo_1_0, ↓gCo_2_0, ↓gCo_3_0, ↓gCo_4_0, ↓gCo_5_0, ↓gCo_6_0, ↓gCo_7_0, ↓gCo_8_0, ↓gCo_9_0, ↓gCo_10_0, ↓pCo_10_0, ↓gCo_11_0, ↓pCo_11_0, ↓co_0', ↓gTa_0_34, ↓gTa_1_34, ↓pTa_1_34, ↓gTa_2_34, ↓pTa_2_34, ↓gTa_3_34, ↓pTa_3_34, ↓gTa_5_34, ↓pTa_5_34, ↓gTa_6_34, ↓pTa_6_34, ↓gTa_7_34, ↓pTa_7_34, ↓gTa_8_34, ↓pTa_8_34, ↓co_34', ↓gHa_0_36, ↓pHa_0_36, ↓gHa_1_36, ↓gHa_2_36, ↓gHa_3_36, ↓gHa_4_36, ↓gHa_5_36, ↓gHa_6_36, ↓co_36', ↓gTr_0_42, ↓pTr_0_42, ↓gTr_1_42, ↓gTr_2_42, ↓gTr_3_42, ↓gTr_4_42, ↓co_42', ↓gRu_0_62, ↓gRu_1_62, ↓gRu_2_62, ↓gRu_3_62, ↓gRu_4_62, ↓gRu_5_62, ↓gRu_6_62, ↓gRu_7_62, ↓gRu_8_62, ↓gRu_9_62, ↓gRu_10_62, ↓pRu_10_62, ↓gRu_11_62, ↓pRu_11_62, ↓gRu_12_62, ↓pRu_12_62, ↓co_62', ↓gFo_0_85, ↓pFo_0_85, ↓gFo_1_85, ↓gFo_2_85, ↓gFo_3_85, ↓gFo_4_85, ↓gFo_5_85, ↓pFo_5_85, ↓co_85', ↓gFo_0_90, ↓pFo_0_90, ↓gFo_1_90, ↓gFo_2_90, ↓gFo_3_90, ↓gFo_4_90, ↓gFo_5_90, ↓pFo_5_90, ↓co_90', ↓gFo_0_95, ↓pFo_0_95, ↓gFo_1_95, ↓gFo_2_95, ↓gFo_3_95, ↓gFo_4_95, ↓gFo_5_95, ↓pFo_5_95, ↓co_95', ↓gMo_0_54, ↓gMo_1_54, ↓gMo_2_54, ↓gMo_3_54, ↓pMo_3_54, ↓gMo_4_54, ↓pMo_4_54, ↓co_54', ↓gMo_0_58, ↓gMo_1_58, ↓gMo_2_58, ↓gMo_3_58, ↓pMo_3_58, ↓gMo_4_58, ↓pMo_4_58, ↓co_58', ↓gMo_0_100, ↓gMo_1_100, ↓gMo_2_100, ↓gMo_3_100, ↓pMo_3_100, ↓gMo_4_100, ↓pMo_4_100, ↓co_100', ↓gMo_0_104, ↓gMo_1_104, ↓gMo_2_104, ↓gMo_3_104, ↓pMo_3_104, ↓gMo_4_104, ↓pMo_4_104, ↓co_104', ↓gMo_0_128, ↓gMo_1_128, ↓gMo_2_128, ↓gMo_3_128, ↓pMo_3_128, ↓gMo_4_128, ↓pMo_4_128, ↓co_128', ↓gMo_0_306, ↓gMo_1_306, ↓gMo_2_306, ↓gMo_3_306, ↓pMo_3_306, ↓gMo_4_306, ↓pMo_4_306, ↓co_306', ↓gEl_0_108, ↓gEl_1_108, ↓gEl_2_108, ↓gEl_3_108, ↓gEl_4_108, ↓gEl_5_108, ↓gEl_6_108, ↓gEl_7_108, ↓pEl_7_108, ↓co_108', ↓gEl_0_120, ↓gEl_1_120, ↓gEl_2_120, ↓gEl_3_120, ↓gEl_4_120, ↓gEl_5_120, ↓gEl_6_120, ↓gEl_7_120, ↓pEl_7_120, ↓co_120', ↓gEl_0_298, ↓gEl_1_298, ↓gEl_2_298, ↓gEl_3_298, ↓gEl_4_298, ↓gEl_5_298, ↓gEl_6_298, ↓gEl_7_298, ↓pEl_7_298, ↓co_298', ↓gHe_0_116, ↓gHe_1_116, ↓gHe_2_116, ↓pHe_2_116, ↓gHe_3_116, ↓pHe_3_116, ↓co_116', ↓gHe_0_294, ↓gHe_1_294, ↓gHe_2_294, ↓pHe_2_294, ↓gHe_3_294, ↓pHe_3_294, ↓co_294', ↓gHe_0_472, ↓gHe_1_472, ↓gHe_2_472, ↓pHe_2_472, ↓gHe_3_472, ↓pHe_3_472, ↓co_472', ↓gWh_0_119, ↓gWh_1_119, ↓gWh_2_119, ↓gWh_3_119, ↓gWh_4_119, ↓pWh_4_119, ↓co_119', ↓gWh_0_297, ↓gWh_1_297, ↓gWh_2_297, ↓gWh_3_297, ↓gWh_4_297, ↓pWh_4_297, ↓co_297', ↓gPa_0_132, ↓gPa_1_132, ↓pPa_1_132, ↓gPa_2_132, ↓pPa_2_132, ↓co_132', ↓gPa_0_310, ↓gPa_1_310, ↓pPa_1_310, ↓gPa_2_310, ↓pPa_2_310, ↓co_310', ↓ca_35, ↓cs_35, ↓cl_35, ↓ca_37, ↓cs_37, ↓cl_37, ↓ca_38, ↓cs_38, ↓cl_38, ↓ca_39, ↓cs_39, ↓cl_39, ↓ca_40, ↓cs_40, ↓cl_40, ↓ca_83, ↓cs_83, ↓cl_83, ↓ca_84, ↓cs_84, ↓cl_84, ↓ca_55, ↓cs_55, ↓cl_55, ↓ca_56, ↓cs_56, ↓cl_56, ↓ca_57, ↓cs_57, ↓cl_57, ↓ca_59, ↓cs_59, ↓cl_59, ↓ca_60, ↓cs_60, ↓cl_60, ↓ca_61, ↓cs_61, ↓cl_61, ↓ca_101, ↓cs_101, ↓cl_101, ↓ca_102, ↓cs_102, ↓cl_102, ↓ca_103, ↓cs_103, ↓cl_103, ↓ca_105, ↓cs_105, ↓cl_105, ↓ca_106, ↓cs_106, ↓cl_106, ↓ca_107, ↓cs_107, ↓cl_107, ↓ca_129, ↓cs_129, ↓cl_129, ↓ca_130, ↓cs_130, ↓cl_130, ↓ca_131, ↓cs_131, ↓cl_131, ↓ca_307, ↓cs_307, ↓cl_307, ↓ca_308, ↓cs_308, ↓cl_308, ↓ca_309, ↓cs_309, ↓cl_309, ↓ca_109, ↓cs_109, ↓cl_109, ↓ca_110, ↓cs_110, ↓cl_110, ↓ca_111, ↓cs_111, ↓cl_111, ↓ca_112, ↓cs_112, ↓cl_112, ↓ca_121, ↓cs_121, ↓cl_121, ↓ca_122, ↓cs_122, ↓cl_122, ↓ca_123, ↓cs_123, ↓cl_123, ↓ca_124, ↓cs_124, ↓cl_124, ↓ca_299, ↓cs_299, ↓cl_299, ↓ca_300, ↓cs_300, ↓cl_300, ↓ca_301, ↓cs_301, ↓cl_301, ↓ca_302, ↓cs_302, ↓cl_302, ↓ca_117, ↓cs_117, ↓cl_117, ↓ca_118, ↓cs_118, ↓cl_118, ↓ca_295, ↓cs_295, ↓cl_295, ↓ca_296, ↓cs_296, ↓cl_296, ↓ca_473, ↓cs_473, ↓cl_473, ↓ca_474, ↓cs_474, ↓cl_474, ↓ca_86, ↓cs_86, ↓cl_86, ↓ca_87, ↓cs_87, ↓cl_87, ↓ca_88, ↓cs_88, ↓cl_88, ↓ca_89, ↓cs_89, ↓cl_89, ↓ca_91, ↓cs_91, ↓cl_91, ↓ca_92, ↓cs_92, ↓cl_92, ↓ca_93, ↓cs_93, ↓cl_93, ↓ca_94, ↓cs_94, ↓cl_94, ↓ca_96, ↓cs_96, ↓cl_96, ↓ca_97, ↓cs_97, ↓cl_97, ↓ca_98, ↓cs_98, ↓cl_98, ↓ca_99, ↓cs_99, ↓cl_99, ↓ca_41, ↓cs_41, ↓cl_41, ↓ca_113, ↓cs_113, ↓cl_113, ↓ca_114, ↓cs_114, ↓cl_114, ↓ca_115, ↓cs_115, ↓cl_115, ↓ca_125, ↓cs_125, ↓cl_125, ↓ca_126, ↓cs_126, ↓cl_126, ↓ca_127, ↓cs_127, ↓cl_127, ↓ca_303, ↓cs_303, ↓cl_303, ↓ca_304, ↓cs_304, ↓cl_304, ↓ca_305, ↓cs_305, ↓cl_305, cU_s, cU_n, cU_U, nI_add, nI_cl, vpi, i01, i02, i10, i11, ↓reduceIte, not_true_eq_false, not_false_eq_true, and_true, true_and, ne_eq, Nat.reduceAdd, Nat.reduceMul, Nat.reduceSub, Nat.reduceEqDiff, reduceCtorEq, Nat.add_zero, Nat.zero_add, n0p, ite_true, ite_false, if_true, if_false, nlT, nlF, nleT, nleF, neT, neF, n0F, n0T, pk_sub, pk_mul, nIm1, nIm2, nlZ, nleZ, upd_s, upd_n, pk_uLs, pk_uLn, nar_0, nar_1, nar_n0, nar_n1, ↓gTe_0 hb.1, ↓gTe_1 hb.1, ↓gTe_2 hb.1, ↓gTe_3 hb.1, ↓gTe_4 hb.1, ↓gTe_5 hb.1, ↓gTe_6 hb.1, ↓gTe_7 hb.1, ↓gTe_8 hb.1, ↓pTe_7 hb.1, ↓pTe_8 hb.1, ↓co_T hb.1 (by omega), ↓ca_I hb.2.1, ↓cs_I hb.2.1, ↓cl_I hb.2.1, ↓ca_I hb.2.2.1, ↓cs_I hb.2.2.1, ↓cl_I hb.2.2.1, ↓ca_I hb.2.2.2.1, ↓cs_I hb.2.2.2.1, ↓cl_I hb.2.2.2.1, ↓ca_I hb.2.2.2.2.1, ↓cs_I hb.2.2.2.2.1, ↓cl_I hb.2.2.2.2.1, ↓ca_I hb.2.2.2.2.2.1, ↓cs_I hb.2.2.2.2.2.1, ↓cl_I hb.2.2.2.2.2.1, ↓ca_I hb.2.2.2.2.2.2.1, ↓cs_I hb.2.2.2.2.2.2.1, ↓cl_I hb.2.2.2.2.2.2.1, ↓ca_I hb.2.2.2.2.2.2.2, ↓cs_I hb.2.2.2.2.2.2.2, ↓cl_I hb.2.2.2.2.2.2.2, h8]
  refine h _ (fun j hj => ?_) (fun j hj => ?_) ?_ ?_ ?_ ?_ (fun q q1 q2 j hj => ?_)
  · rw [cU_n (by omega), cU_n (by omega), cU_n (by omega), cU_n (by omega)]
  · rw [cU_s, upd_n hj]
  · rw [cU_s, upd_s]
  · rw [cU_n (by omega), cU_n (by omega), cU_n (by omega), cU_s, upd_s]
  · rw [cU_n (by omega), cU_n (by omega), cU_s, upd_s]
  · rw [cU_n (by omega), cU_s, upd_s]
  · rw [cU_n (by omega)]
    rcases (show q = 5 ∨ q = 6 ∨ q = 7 by omega) with rfl | rfl | rfl
    · rw [cU_n (by omega), cU_n (by omega), cU_s, upd_n hj]
    · rw [cU_n (by omega), cU_s, upd_n hj]
    · rw [cU_s, upd_n hj]
theorem c_Ta_clause (hS : stR sa c M0) (hb : teK R tb) (h34 : tb + 7 < 34) (h300 : n ≤ 300) {l : List (Nat × Term)} (hc : clC τ0 τ b n tb i sz l) (ht : tkT b n i ≠ 0)
    (hE : ∀ k j τ', (∀ m, rdS (tkT b n) (tkV b n) (m + 1) i l = .inl (k, j)) → fF tb τ0 τ' → τ' 34 1 = nI n → τ' 34 2 = nI k → τ' 34 3 = nI (tkP b n j) → Q (some (.int 0)) (cM c R M0 τ'))
    (hO : ∀ p j sz' τ', (∀ m, rdS (tkT b n) (tkV b n) (m + 1) i l = rdS (tkT b n) (tkV b n) m j (l ++ [p])) → clC τ0 τ' b n tb j sz' (l ++ [p]) → Q (some (.int 1)) (cM c R M0 τ')) : xEv xP (xprim sa) (d + 76) m_Tape_readClause [.ref (c + 34)] (cM c R M0 τ) Q := by
  have hc0 := hc
  obtain ⟨h1, h2, h3, h4, h5, h6, h7, h8, h9, h10, h11, h12⟩ := hc
  obtain ⟨x, ex, hx⟩ := h4.1
  have et : (lxI b n i).2.1 = tkT b n i := rfl
  rw [et] at hx
  have hx2 : x < 1000 := by
    rcases hx with q | q | q | q | q | q | q
    · omega
    · omega
    · omega
    · omega
    · omega
    · have := knS_i.mp q.1; omega
    · omega
  have hxt : (400 ≤ x ∧ x ≤ 404) ↔ (400 ≤ tkT b n i ∧ tkT b n i ≤ 404) := by
    rcases hx with q | q | q | q | q | q | q
    · omega
    · omega
    · omega
    · omega
    · omega
    · omega
    · omega
  have hxe : (400 ≤ x ∧ x ≤ 404) → x = tkT b n i := by
    intro q0
    rcases hx with q | q | q | q | q | q | q
    · omega
    · omega
    · omega
    · omega
    · omega
    · omega
    · omega
  refine t_Tape_readClause ?_
  simp (disch := omega) only [↓i01, ↓i02, ↓xrI_mk, ↓xrV_mk, ↓xrL_mk, ↓xrR_mk, ↓gCo_0_0, ↓pCo_0_0, ↓gCo_1_0, ↓gCo_2_0, ↓gCo_3_0, ↓gCo_4_0, ↓gCo_5_0, ↓gCo_6_0, ↓gCo_7_0, ↓gCo_8_0, ↓gCo_9_0, ↓gCo_10_0, ↓pCo_10_0, ↓gCo_11_0, ↓pCo_11_0, ↓co_0', ↓gTa_0_34, ↓gTa_1_34, ↓pTa_1_34, ↓gTa_2_34, ↓pTa_2_34, ↓gTa_3_34, ↓pTa_3_34, ↓gTa_5_34, ↓pTa_5_34, ↓gTa_6_34, ↓pTa_6_34, ↓gTa_7_34, ↓pTa_7_34, ↓gTa_8_34, ↓pTa_8_34, ↓co_34', ↓gHa_0_36, ↓pHa_0_36, ↓gHa_1_36, ↓gHa_2_36, ↓gHa_3_36, ↓gHa_4_36, ↓gHa_5_36, ↓gHa_6_36, ↓co_36', ↓gTr_0_42, ↓pTr_0_42, ↓gTr_1_42, ↓gTr_2_42, ↓gTr_3_42, ↓gTr_4_42, ↓co_42', ↓gRu_0_62, ↓gRu_1_62, ↓gRu_2_62, ↓gRu_3_62, ↓gRu_4_62, ↓gRu_5_62, ↓gRu_6_62, ↓gRu_7_62, ↓gRu_8_62, ↓gRu_9_62, ↓gRu_10_62, ↓pRu_10_62, ↓gRu_11_62, ↓pRu_11_62, ↓gRu_12_62, ↓pRu_12_62, ↓co_62', ↓gFo_0_85, ↓pFo_0_85, ↓gFo_1_85, ↓gFo_2_85, ↓gFo_3_85, ↓gFo_4_85, ↓gFo_5_85, ↓pFo_5_85, ↓co_85', ↓gFo_0_90, ↓pFo_0_90, ↓gFo_1_90, ↓gFo_2_90, ↓gFo_3_90, ↓gFo_4_90, ↓gFo_5_90, ↓pFo_5_90, ↓co_90', ↓gFo_0_95, ↓pFo_0_95, ↓gFo_1_95, ↓gFo_2_95, ↓gFo_3_95, ↓gFo_4_95, ↓gFo_5_95, ↓pFo_5_95, ↓co_95', ↓gMo_0_54, ↓gMo_1_54, ↓gMo_2_54, ↓gMo_3_54, ↓pMo_3_54, ↓gMo_4_54, ↓pMo_4_54, ↓co_54', ↓gMo_0_58, ↓gMo_1_58, ↓gMo_2_58, ↓gMo_3_58, ↓pMo_3_58, ↓gMo_4_58, ↓pMo_4_58, ↓co_58', ↓gMo_0_100, ↓gMo_1_100, ↓gMo_2_100, ↓gMo_3_100, ↓pMo_3_100, ↓gMo_4_100, ↓pMo_4_100, ↓co_100', ↓gMo_0_104, ↓gMo_1_104, ↓gMo_2_104, ↓gMo_3_104, ↓pMo_3_104, ↓gMo_4_104, ↓pMo_4_104, ↓co_104', ↓gMo_0_128, ↓gMo_1_128, ↓gMo_2_128, ↓gMo_3_128, ↓pMo_3_128, ↓gMo_4_128, ↓pMo_4_128, ↓co_128', ↓gMo_0_306, ↓gMo_1_306, ↓gMo_2_306, ↓gMo_3_306, ↓pMo_3_306, ↓gMo_4_306, ↓pMo_4_306, ↓co_306', ↓gEl_0_108, ↓gEl_1_108, ↓gEl_2_108, ↓gEl_3_108, ↓gEl_4_108, ↓gEl_5_108, ↓gEl_6_108, ↓gEl_7_108, ↓pEl_7_108, ↓co_108', ↓gEl_0_120, ↓gEl_1_120, ↓gEl_2_120, ↓gEl_3_120, ↓gEl_4_120, ↓gEl_5_120, ↓gEl_6_120, ↓gEl_7_120, ↓pEl_7_120, ↓co_120', ↓gEl_0_298, ↓gEl_1_298, ↓gEl_2_298, ↓gEl_3_298, ↓gEl_4_298, ↓gEl_5_298, ↓gEl_6_298, ↓gEl_7_298, ↓pEl_7_298, ↓co_298', ↓gHe_0_116, ↓gHe_1_116, ↓gHe_2_116, ↓pHe_2_116, ↓gHe_3_116, ↓pHe_3_116, ↓co_116', ↓gHe_0_294, ↓gHe_1_294, ↓gHe_2_294, ↓pHe_2_294, ↓gHe_3_294, ↓pHe_3_294, ↓co_294', ↓gHe_0_472, ↓gHe_1_472, ↓gHe_2_472, ↓pHe_2_472, ↓gHe_3_472, ↓pHe_3_472, ↓co_472', ↓gWh_0_119, ↓gWh_1_119, ↓gWh_2_119, ↓gWh_3_119, ↓gWh_4_119, ↓pWh_4_119, ↓co_119', ↓gWh_0_297, ↓gWh_1_297, ↓gWh_2_297, ↓gWh_3_297, ↓gWh_4_297, ↓pWh_4_297, ↓co_297', ↓gPa_0_132, ↓gPa_1_132, ↓pPa_1_132, ↓gPa_2_132, ↓pPa_2_132, ↓co_132', ↓gPa_0_310, ↓gPa_1_310, ↓pPa_1_310, ↓gPa_2_310, ↓pPa_2_310, ↓co_310', ↓ca_35, ↓cs_35, ↓cl_35, ↓ca_37, ↓cs_37, ↓cl_37, ↓ca_38, ↓cs_38, ↓cl_38, ↓ca_39, ↓cs_39, ↓cl_39, ↓ca_40, ↓cs_40, ↓cl_40, ↓ca_83, ↓cs_83, ↓cl_83, ↓ca_84, ↓cs_84, ↓cl_84, ↓ca_55, ↓cs_55, ↓cl_55, ↓ca_56, ↓cs_56, ↓cl_56, ↓ca_57, ↓cs_57, ↓cl_57, ↓ca_59, ↓cs_59, ↓cl_59, ↓ca_60, ↓cs_60, ↓cl_60, ↓ca_61, ↓cs_61, ↓cl_61, ↓ca_101, ↓cs_101, ↓cl_101, ↓ca_102, ↓cs_102, ↓cl_102, ↓ca_103, ↓cs_103, ↓cl_103, ↓ca_105, ↓cs_105, ↓cl_105, ↓ca_106, ↓cs_106, ↓cl_106, ↓ca_107, ↓cs_107, ↓cl_107, ↓ca_129, ↓cs_129, ↓cl_129, ↓ca_130, ↓cs_130, ↓cl_130, ↓ca_131, ↓cs_131, ↓cl_131, ↓ca_307, ↓cs_307, ↓cl_307, ↓ca_308, ↓cs_308, ↓cl_308, ↓ca_309, ↓cs_309, ↓cl_309, ↓ca_109, ↓cs_109, ↓cl_109, ↓ca_110, ↓cs_110, ↓cl_110, ↓ca_111, ↓cs_111, ↓cl_111, ↓ca_112, ↓cs_112, ↓cl_112, ↓ca_121, ↓cs_121, ↓cl_121, ↓ca_122, ↓cs_122, ↓cl_122, ↓ca_123, ↓cs_123, ↓cl_123, ↓ca_124, ↓cs_124, ↓cl_124, ↓ca_299, ↓cs_299, ↓cl_299, ↓ca_300, ↓cs_300, ↓cl_300, ↓ca_301, ↓cs_301, ↓cl_301, ↓ca_302, ↓cs_302, ↓cl_302, ↓ca_117, ↓cs_117, ↓cl_117, ↓ca_118, ↓cs_118, ↓cl_118, ↓ca_295, ↓cs_295, ↓cl_295, ↓ca_296, ↓cs_296, ↓cl_296, ↓ca_473, ↓cs_473, ↓cl_473, ↓ca_474, ↓cs_474, ↓cl_474, ↓ca_86, ↓cs_86, ↓cl_86, ↓ca_87, ↓cs_87, ↓cl_87, ↓ca_88, ↓cs_88, ↓cl_88, ↓ca_89, ↓cs_89, ↓cl_89, ↓ca_91, ↓cs_91, ↓cl_91, ↓ca_92, ↓cs_92, ↓cl_92, ↓ca_93, ↓cs_93, ↓cl_93, ↓ca_94, ↓cs_94, ↓cl_94, ↓ca_96, ↓cs_96, ↓cl_96, ↓ca_97, ↓cs_97, ↓cl_97, ↓ca_98, ↓cs_98, ↓cl_98, ↓ca_99, ↓cs_99, ↓cl_99, ↓ca_41, ↓cs_41, ↓cl_41, ↓ca_113, ↓cs_113, ↓cl_113, ↓ca_114, ↓cs_114, ↓cl_114, ↓ca_115, ↓cs_115, ↓cl_115, ↓ca_125, ↓cs_125, ↓cl_125, ↓ca_126, ↓cs_126, ↓cl_126, ↓ca_127, ↓cs_127, ↓cl_127, ↓ca_303, ↓cs_303, ↓cl_303, ↓ca_304, ↓cs_304, ↓cl_304, ↓ca_305, ↓cs_305, ↓cl_305, cU_s, cU_n, cU_U, nI_add, nI_cl, vpi, i01, i02, i10, i11, ↓reduceIte, not_true_eq_false, not_false_eq_true, and_true, true_and, ne_eq, Nat.reduceAdd, Nat.reduceMul, Nat.reduceSub, Nat.reduceEqDiff, reduceCtorEq, Nat.add_zero, Nat.zero_add, n0p, ite_true, ite_false, if_true, if_false, nlT, nlF, nleT, nleF, neT, neF, n0F, n0T, pk_sub, pk_mul, nIm1, nIm2, nlZ, nleZ, upd_s, upd_n, pk_uLs, pk_uLn, nar_0, nar_1, nar_n0, nar_n1]
  rw [ex]
  refine c_Ta_mayBegin (d := d + 73) hb h34 hc0 ex hx2 (fun k τ' hk f1 f2 f3 f4 => ?_) (fun q1 q2 q3 => ?_)
  · rw [xrI_mk, if_neg (by decide)]
    refine hE k i τ' (fun m => ?_) f1 f2 f3 f4
    rw [rdS_s, if_neg ht]
    rcases hk with ⟨e1, e2⟩ | ⟨e1, e2, e3, e4⟩ | ⟨e1, e2, e3, e4⟩
    · rw [if_pos (fun q => e2 (hxt.mpr q)), e1]
    · have := hxe e2
      rw [if_neg (not_not_intro (hxt.mp e2)), if_pos ⟨by omega, by rw [← this]; exact e4⟩, e1]
    · have := hxe e2
      rw [if_neg (not_not_intro (hxt.mp e2)), if_neg (fun q => e3 ⟨by omega, by rw [this]; exact q.2⟩), if_pos e4, e1]
  rw [xrI_mk, if_pos (by decide)]
  have hxT := hxe q1
  have rd : ∀ m, rdS (tkT b n) (tkV b n) (m + 1) i l = (match ps (tkT b n) (tkV b n) 3100 (if tkT b n i = 404 then 0 else 5) 0 (i + 1) (.int 0) with
      | .inl e => .inl e
      | .inr (t, j) => if tkT b n j = 59 then rdS (tkT b n) (tkV b n) m (j + 1) (l ++ [(tkT b n i - 400, t)]) else .inl (1, j)) := by
    intro m
    rw [rdS_s, if_neg ht, if_neg (not_not_intro (hxt.mp q1)), if_neg (fun q => q2 ⟨by omega, by rw [hxT]; exact q.2⟩), if_neg (by omega)]
    generalize ps (tkT b n) (tkV b n) 3100 (if tkT b n i = 404 then 0 else 5) 0 (i + 1) (.int 0) = r
    cases r with
    | inl e => rfl
    | inr p => rfl
  refine ⟨co_34, c_Ta_next (d := d + 71) hS h2 (x := tkE b n i) (tk_e i).2.1 h4.2.2.1 (fun τ1 f' x' => ?_)⟩
  rw [xrV_mk]
  have r1 : rS τ τ1 b n tb (i + 1) sz := ⟨fun k k1 k2 => f'.1 k k1, fun k k1 k2 => f'.1 k (by omega), ⟨by rw [f'.1 tb (by omega)], f'.2 2 (by omega), f'.2 3 (by omega)⟩, tpC_F f' h2, by rw [f'.2 4 (by omega)]; exact h3, x', by rw [f'.1 tb (by omega)]; exact h5, by omega, by omega, tk_i h7 ht⟩
  have a7 : τ1 tb 7 = nI sz := r1.2.2.2.2.2.2.1
  have f23 : τ1 34 2 = 0 ∧ τ1 34 3 = -1 := ⟨(f'.2 2 (by omega)).trans h11, (f'.2 3 (by omega)).trans h12⟩
  rw [g_made r1.2.2.2.2.1 h34, gTe_7 hb.1, a7]
  have hin := tk_n h7
  -- behind the tree
  have behind : ∀ (md : Nat) (t' : Term) (j : Nat) (τ2 : cS), (md = 0 ∨ md = 5) → md = (if tkT b n i = 404 then 0 else 5) → ps (tkT b n) (tkV b n) 3100 md 0 (i + 1) (.int 0) = .inr (t', j) → rS τ τ2 b n tb j (sz + cs t') → kpL tb sz τ1 τ2 → ccT τ2 tb t' sz → xEv xP (xprim sa) (d + 75) m_Tape_isPassed [.ref (c + 34), .int (nI 59)] (cM c R M0 τ2) (xrI fun r3 M4 => if ¬ r3 = 0 then (xgfR M4 (c + 34) 7 4 fun v4 => (xobj M4 v4 8 ∧ xEv xP (xprim sa) (d + 75) m_Text_addClause [.ref v4, .int (nI x), .int (nI sz), .int (nI (sz + cs t' - 1))] M4 (xrV fun M5 => Q (some (.int (nI 1))) M5))) else Q (some (.int (nI 0))) M4) := by
    intro md t' j τ2 hmd emd q1' r2 k2 c2
    rw [← emd, q1'] at rd
    refine rS_pass (d := d + 70) (v := 59) hS h34 (Or.inl rfl) r2 (fun e τ' f1 f2 f3 f4 => ?_) (fun e τ3 r3 f3 => ?_)
    · rw [xrI_mk, if_neg (by decide)]
      refine hE 1 j τ' (fun m => ?_) (fun k k1 k2 => (f1 k k1 k2).trans (h1 k k1 k2)) f2 f3 f4
      rw [rd]
      dsimp only
      rw [if_neg e]
    · rw [xrI_mk, if_pos (by decide), g_made r3.2.2.2.2.1 h34]
      have a8 : τ3 tb 8 = nI l.length := r3.2.2.1.1.trans h8.1
      refine ⟨(co_T hb.1 (by omega)) ▸ trivial, c_Te_addClause hb q3 a8 (fun τ4 s4 t4 b8 b5 b6 b7 n4 => ?_)⟩
      rw [xrV_mk]
      refine hO (tkT b n i - 400, t') (j + 1) (sz + cs t') τ4 (fun m => ?_) ?_
      · rw [rd]
        dsimp only
        rw [if_pos e]
      · have G := ps_G (tk := tkT b n) (tv := tkV b n) (tp := tkP b n) (n := n) (fun i h ht => tk_i h ht) (fun i h => tk_n h) 3100 md 0 (i + 1) (.int 0) (by omega) r1.2.2.2.2.2.2.2.2.2 (by omega) (fun q => by rcases hmd with rfl | rfl <;> exact nomatch q)
        rw [q1'] at G
        obtain ⟨G1, G2, G3, G4, G5⟩ := G
        have hjn := tk_n G3
        have szj := r2.2.2.2.2.2.2.2.1
        have same : ∀ q, 1 ≤ q → q ≤ 4 → ∀ z, z < sz → τ4 (tb + q) z = τ (tb + q) z := by
          intro q u1 u2 z hz
          rw [s4 (tb + q) (by omega), f3 (tb + q) (by omega), k2 q u1 u2 z hz, f'.1 (tb + q) (by omega)]
        have cl5 : ∀ q, 5 ≤ q → q ≤ 7 → ∀ z, z ≠ l.length → τ4 (tb + q) z = τ (tb + q) z := by
          intro q u1 u2 z hz
          rw [n4 q u1 u2 z hz, f3 (tb + q) (by omega)]
          exact congrFun (r2.2.1 (tb + q) (by omega) (by omega)) z
        have wft : wf t' (tkT b n i - 400 == 4) := by
          rcases hmd with rfl | rfl
          · have e4 : tkT b n i = 404 := by
              by_cases e4 : tkT b n i = 404
              · exact e4
              · rw [if_neg e4] at emd; omega
            rw [e4]; exact G4
          · have e4 : ¬ tkT b n i = 404 := fun e4 => by rw [if_pos e4] at emd; omega
            have : (tkT b n i - 400 == 4) = false := by
              rw [beq_eq_false_iff_ne]; omega
            rw [this]; exact G4
        have old : ∀ (k : Nat) (p : Nat × Term), (l ++ [(tkT b n i - 400, t')])[k]? = some p → ∃ x, τ4 (tb + 6) k = nI x ∧ ccT τ4 tb p.2 x ∧ x + cs p.2 ≤ sz + cs t' := by
          intro k p hk
          rcases gt_app hk with g | ⟨g, g'⟩
          · obtain ⟨y, y1, y2, y3⟩ := h10 k p g
            have := gt_lt g
            exact ⟨y, by rw [cl5 6 (by omega) (by omega) k (by omega)]; exact y1, ccT_k p.2 y (fun q u1 u2 z hz => same q u1 u2 z (by omega)) y2, by omega⟩
          · rw [g, g']
            exact ⟨sz, b6, ccT_k t' sz (fun q u1 u2 z hz => by rw [s4 (tb + q) (by omega), f3 (tb + q) (by omega)]) c2, Nat.le_refl _⟩
        refine ⟨fun k k1 k2 => ?_, ?_, ?_, ?_, ?_, by omega, r3.2.2.2.2.2.2.2.2.2, ⟨?_, ?_, fun k p hk => ?_⟩, ?_, old, ?_, ?_⟩
        · rw [s4 k (by omega)]; exact (r3.1 k k1 k2).trans (h1 k k1 k2)
        · unfold tpC
          rw [s4 34 (by omega), s4 35 (by omega)]
          exact r3.2.2.2.1
        · rw [s4 34 (by omega)]; exact r3.2.2.2.2.1
        · unfold tcX
          rw [s4 34 (by omega)]
          exact r3.2.2.2.2.2.1
        · rw [t4 7 (by omega)]; exact r3.2.2.2.2.2.2.1
        · rw [b8, List.length_append]; rfl
        · rw [List.length_append]; show l.length + 1 ≤ 12; omega
        · obtain ⟨y, y1, y2, y3⟩ := old k p hk
          rcases gt_app hk with g | ⟨g, g'⟩
          · obtain ⟨z, z1, z2, z3, z4, z5, z6, z7, z8⟩ := h8.2.2 k p g
            have := gt_lt g
            have eyz : nI y = nI z := by rw [← y1, cl5 6 (by omega) (by omega) k (by omega)]; exact z2
            have hyz : y = z := (nI_eq (by omega) (by omega)).mp eyz
            refine ⟨y, by rw [cl5 5 (by omega) (by omega) k (by omega)]; exact z1, y1, by rw [cl5 7 (by omega) (by omega) k (by omega), hyz]; exact z3, y2, by omega, z6, z7, z8⟩
          · have hw := cs_pos t' _ wft
            rw [g, g']
            rw [g] at y1
            refine ⟨sz, ?_, b6, b7, ?_, ?_, hw, wft, ?_⟩
            · rw [b5, hxT]
              show nI (tkT b n i) = nI (400 + (tkT b n i - 400))
              rw [show 400 + (tkT b n i - 400) = tkT b n i by omega]
            · exact ccT_k t' sz (fun q u1 u2 z hz => by rw [s4 (tb + q) (by omega), f3 (tb + q) (by omega)]) c2
            · show sz + cs t' ≤ 300; omega
            · show tkT b n i - 400 ≤ 4; omega
        · refine txV_a h9 (fun h4' => ?_)
          have h4' : tkT b n i - 400 < 4 := h4'
          show hasK (tkT b n i - 400) l = false
          cases hh : hasK (tkT b n i - 400) l
          · rfl
          · exact absurd ⟨by omega, by rw [hxT]; exact hh⟩ q2
        · rw [s4 34 (by omega)]; exact r3.2.2.1.2.1.trans h11
        · rw [s4 34 (by omega)]; exact r3.2.2.1.2.2.trans h12
  obtain ⟨R0, _, _, _, _, R5, _⟩ := rd_all (τ0 := τ) hS hb h34 h300 3100
  have bad : ∀ (md e j : Nat) (τ' : cS), md = (if tkT b n i = 404 then 0 else 5) → ps (tkT b n) (tkV b n) 3100 md 0 (i + 1) (.int 0) = .inl (e, j) → fF tb τ τ' → τ' 34 1 = nI n → τ' 34 2 = nI e → τ' 34 3 = nI (tkP b n j) → Q (some (.int (nI 0))) (cM c R M0 τ') := by
    intro md e j τ' emd q1' f1 f2 f3 f4
    rw [← emd, q1'] at rd
    exact hE e j τ' (fun m => rd m) (fun k k1 k2 => (f1 k k1 k2).trans (h1 k k1 k2)) f2 f3 f4
  by_cases e4 : x = 404
  · rw [if_neg (not_not_intro (by rw [e4]))]
    have emd : 0 = (if tkT b n i = 404 then 0 else 5) := by rw [if_pos (by omega)]
    refine ⟨co_34, R0 0 (i + 1) sz (d + 75) (.int 0) τ1 _ (by omega) (by omega) (by omega) r1 (fun e j τ' q1' f1 f2 f3 f4 => ?_) (fun t' j τ2 q1' r2 k2 c2 => ?_)⟩
    · rw [xrI_mk, if_pos rfl]
      exact bad 0 e j τ' emd q1' f1 f2 f3 f4
    · have := r2.2.2.2.2.2.2.2.1
      have := tk_n r2.2.2.2.2.2.2.2.2.2
      rw [xrI_mk, if_neg (nI_m1 (by omega))]
      exact ⟨co_34, behind 0 t' j τ2 (Or.inl rfl) emd q1' r2 k2 c2⟩
  · rw [if_pos (fun q => e4 ((nI_eq (by omega) (by omega)).mp q))]
    have emd : 5 = (if tkT b n i = 404 then 0 else 5) := by rw [if_neg (by omega)]
    refine ⟨co_34, R5 0 (i + 1) sz (d + 75) (.int 0) τ1 _ (by omega) (by omega) (by omega) r1 (fun e j τ' q1' f1 f2 f3 f4 => ?_) (fun t' j τ2 q1' r2 k2 c2 => ?_)⟩
    · rw [xrI_mk, if_pos rfl]
      exact bad 5 e j τ' emd q1' f1 f2 f3 f4
    · have := r2.2.2.2.2.2.2.2.1
      have := tk_n r2.2.2.2.2.2.2.2.2.2
      rw [xrI_mk, if_neg (nI_m1 (by omega))]
      exact ⟨co_34, behind 5 t' j τ2 (Or.inr rfl) emd q1' r2 k2 c2⟩
end TY
