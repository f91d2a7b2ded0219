/-! the class reads: the methods -/
section TM
variable {sa : Nat → Nat} {d : Nat} {Q : xQ} {c R : Nat} {M0 M : xM} {τ τ0 : cS} {b : Nat → Nat} {n tb i sz : Nat}
theorem rm_0 (hS : stR sa c M0) {f : Nat} (h1 : RM sa c R M0 τ0 b n tb f 2 m_Tape_readBoth 4) (h2 : RL c R M0 τ0 b n tb f 1 4 (fun D Q o l cnt M => K_Tape_readEither sa D Q 1 [some (.ref (c + 34)), some (.int (nI o)), some (.int l), some (.int (nI cnt))] [] M (0, 0))) : RM sa c R M0 τ0 b n tb (f + 1) 0 m_Tape_readEither 5 := by
  intro o i sz D t τ Q ho hD hf hs hE hO
  obtain ⟨d, rfl⟩ : ∃ d, D = d + 1 := ⟨D - 1, by omega⟩
  rw [ps_0] at hE hO
  refine t_Tape_readEither ⟨co_34, h1 o i sz d t τ _ ho (by omega) (by omega) hs (fun e j τ' q1 q2 q3 q4 q5 => ?_) (fun t' j τ' q1 q2 q3 q4 => ?_)⟩
  · rw [q1] at hE
    rw [xrI_mk]
    have := hE e j τ' rfl q2 q3 q4 q5
    refine t_Tape_readEither_1 ?_
    rw [if_neg (by decide), if_pos rfl]
    exact this
  · rw [q1] at hE hO
    rw [xrI_mk]
    have G := ps_G (tk := tkT b n) (tv := tkV b n) (tp := tkP b n) (n := n) (fun i h ht => tk_i h ht) (fun i h => tk_n h) f 2 o i t (by omega) hs.2.2.2.2.2.2.2.2.2 (by omega) (fun q => nomatch q)
    rw [q1] at G
    obtain ⟨G1, G2, G3, G4, G5⟩ := G
    have G2 := G2 rfl
    have hi1 := hs.2.2.2.2.2.2.2.2.1
    exact h2 o j sz 0 d t' τ' Q ho (by omega) (by omega) G4 (by omega) q4 q2 hE (fun t2 j2 τ2 p1 p2 p3 p4 => hO t2 j2 τ2 p1 p2 (kpL_t q3 p3) p4)
theorem rm_2 (hS : stR sa c M0) {f : Nat} (h1 : RM sa c R M0 τ0 b n tb f 4 m_Tape_readAsk 3) (h2 : RL c R M0 τ0 b n tb f 3 3 (fun D Q o l cnt M => K_Tape_readBoth sa D Q 1 [some (.ref (c + 34)), some (.int (nI o)), some (.int l), some (.int (nI cnt))] [] M (0, 0))) : RM sa c R M0 τ0 b n tb (f + 1) 2 m_Tape_readBoth 4 := by
  intro o i sz D t τ Q ho hD hf hs hE hO
  obtain ⟨d, rfl⟩ : ∃ d, D = d + 1 := ⟨D - 1, by omega⟩
  rw [ps_2] at hE hO
  refine t_Tape_readBoth ⟨co_34, h1 o i sz d t τ _ ho (by omega) (by omega) hs (fun e j τ' q1 q2 q3 q4 q5 => ?_) (fun t' j τ' q1 q2 q3 q4 => ?_)⟩
  · rw [q1] at hE
    rw [xrI_mk]
    have := hE e j τ' rfl q2 q3 q4 q5
    refine t_Tape_readBoth_1 ?_
    rw [if_neg (by decide), if_pos rfl]
    exact this
  · rw [q1] at hE hO
    rw [xrI_mk]
    have G := ps_G (tk := tkT b n) (tv := tkV b n) (tp := tkP b n) (n := n) (fun i h ht => tk_i h ht) (fun i h => tk_n h) f 4 o i t (by omega) hs.2.2.2.2.2.2.2.2.2 (by omega) (fun q => nomatch q)
    rw [q1] at G
    obtain ⟨G1, G2, G3, G4, G5⟩ := G
    have G2 := G2 rfl
    have hi1 := hs.2.2.2.2.2.2.2.2.1
    exact h2 o j sz 0 d t' τ' Q ho (by omega) (by omega) G4 (by omega) q4 q2 hE (fun t2 j2 τ2 p1 p2 p3 p4 => hO t2 j2 τ2 p1 p2 (kpL_t q3 p3) p4)
theorem rm_5 (hS : stR sa c M0) {f : Nat} (h1 : RM sa c R M0 τ0 b n tb f 7 m_Tape_readProduct 1) (h2 : RL c R M0 τ0 b n tb f 6 1 (fun D Q o l cnt M => K_Tape_readSum sa D Q 1 [some (.ref (c + 34)), some (.int (nI o)), some (.int l), some (.int (nI cnt)), none] [] M (0, 0))) : RM sa c R M0 τ0 b n tb (f + 1) 5 m_Tape_readSum 2 := by
  intro o i sz D t τ Q ho hD hf hs hE hO
  obtain ⟨d, rfl⟩ : ∃ d, D = d + 1 := ⟨D - 1, by omega⟩
  rw [ps_5] at hE hO
  refine t_Tape_readSum ⟨co_34, h1 o i sz d t τ _ ho (by omega) (by omega) hs (fun e j τ' q1 q2 q3 q4 q5 => ?_) (fun t' j τ' q1 q2 q3 q4 => ?_)⟩
  · rw [q1] at hE
    rw [xrI_mk]
    have := hE e j τ' rfl q2 q3 q4 q5
    refine t_Tape_readSum_1 ?_
    rw [if_neg (by decide), if_pos rfl]
    exact this
  · rw [q1] at hE hO
    rw [xrI_mk]
    have G := ps_G (tk := tkT b n) (tv := tkV b n) (tp := tkP b n) (n := n) (fun i h ht => tk_i h ht) (fun i h => tk_n h) f 7 o i t (by omega) hs.2.2.2.2.2.2.2.2.2 (by omega) (fun q => nomatch q)
    rw [q1] at G
    obtain ⟨G1, G2, G3, G4, G5⟩ := G
    have G2 := G2 rfl
    have hi1 := hs.2.2.2.2.2.2.2.2.1
    exact h2 o j sz 0 d t' τ' Q ho (by omega) (by omega) G4 (by omega) q4 q2 hE (fun t2 j2 τ2 p1 p2 p3 p4 => hO t2 j2 τ2 p1 p2 (kpL_t q3 p3) p4)
theorem rm_7 (hS : stR sa c M0) {f : Nat} (h1 : RM sa c R M0 τ0 b n tb f 9 m_Tape_readOne 0) (h2 : RL c R M0 τ0 b n tb f 8 0 (fun D Q o l cnt M => K_Tape_readProduct sa D Q 1 [some (.ref (c + 34)), some (.int (nI o)), some (.int l), some (.int (nI cnt)), none] [] M (0, 0))) : RM sa c R M0 τ0 b n tb (f + 1) 7 m_Tape_readProduct 1 := by
  intro o i sz D t τ Q ho hD hf hs hE hO
  obtain ⟨d, rfl⟩ : ∃ d, D = d + 1 := ⟨D - 1, by omega⟩
  rw [ps_7] at hE hO
  refine t_Tape_readProduct ⟨co_34, h1 o i sz d t τ _ ho (by omega) (by omega) hs (fun e j τ' q1 q2 q3 q4 q5 => ?_) (fun t' j τ' q1 q2 q3 q4 => ?_)⟩
  · rw [q1] at hE
    rw [xrI_mk]
    have := hE e j τ' rfl q2 q3 q4 q5
    refine t_Tape_readProduct_1 ?_
    rw [if_neg (by decide), if_pos rfl]
    exact this
  · rw [q1] at hE hO
    rw [xrI_mk]
    have G := ps_G (tk := tkT b n) (tv := tkV b n) (tp := tkP b n) (n := n) (fun i h ht => tk_i h ht) (fun i h => tk_n h) f 9 o i t (by omega) hs.2.2.2.2.2.2.2.2.2 (by omega) (fun q => nomatch q)
    rw [q1] at G
    obtain ⟨G1, G2, G3, G4, G5⟩ := G
    have G2 := G2 rfl
    have hi1 := hs.2.2.2.2.2.2.2.2.1
    exact h2 o j sz 0 d t' τ' Q ho (by omega) (by omega) G4 (by omega) q4 q2 hE (fun t2 j2 τ2 p1 p2 p3 p4 => hO t2 j2 τ2 p1 p2 (kpL_t q3 p3) p4)
theorem rm_4 (hS : stR sa c M0) (hb : teK R tb) (h34 : tb + 7 < 34) (h300 : n ≤ 300) {f : Nat} (h4 : RM sa c R M0 τ0 b n tb f 4 m_Tape_readAsk 3) (h5 : RM sa c R M0 τ0 b n tb f 5 m_Tape_readSum 2) : RM sa c R M0 τ0 b n tb (f + 1) 4 m_Tape_readAsk 3 := by
  intro o i sz D t τ Q ho hD hf hs hE hO
  obtain ⟨d, rfl⟩ : ∃ d, D = d + 6 := ⟨D - 6, by omega⟩
  rw [ps_4] at hE hO
  have hi1 := hs.2.2.2.2.2.2.2.2.1
  have hsz := hs.2.2.2.2.2.2.2.1
  have hin := tk_n hs.2.2.2.2.2.2.2.2.2
  have tc := tc_is (v := 409) hs.2.2.2.2.2.1.1 (by decide)
  rw [show tcN 409 = 409 from rfl] at tc
  refine t_Tape_readAsk ?_
  simp (disch := omega) only [↓i01, ↓i02, ↓xrI_mk, ↓xrV_mk, ↓xrL_mk, ↓xrR_mk, ↓gCo_0_0, ↓pCo_0_0, ↓gCo_1_0, ↓gCo_2_0, ↓gCo_3_0, ↓gCo_4_0, ↓gCo_5_0, ↓gCo_6_0, ↓gCo_7_0, ↓gCo_8_0, ↓gCo_9_0, ↓gCo_10_0, ↓pCo_10_0, ↓gCo_11_0, ↓pCo_11_0, ↓co_0', ↓gTa_0_34, ↓gTa_1_34, ↓pTa_1_34, ↓gTa_2_34, ↓pTa_2_34, ↓gTa_3_34, ↓pTa_3_34, ↓gTa_5_34, ↓pTa_5_34, ↓gTa_6_34, ↓pTa_6_34, ↓gTa_7_34, ↓pTa_7_34, ↓gTa_8_34, ↓pTa_8_34, ↓co_34', ↓gHa_0_36, ↓pHa_0_36, ↓gHa_1_36, ↓gHa_2_36, ↓gHa_3_36, ↓gHa_4_36, ↓gHa_5_36, ↓gHa_6_36, ↓co_36', ↓gTr_0_42, ↓pTr_0_42, ↓gTr_1_42, ↓gTr_2_42, ↓gTr_3_42, ↓gTr_4_42, ↓co_42', ↓gRu_0_62, ↓gRu_1_62, ↓gRu_2_62, ↓gRu_3_62, ↓gRu_4_62, ↓gRu_5_62, ↓gRu_6_62, ↓gRu_7_62, ↓gRu_8_62, ↓gRu_9_62, ↓gRu_10_62, ↓pRu_10_62, ↓gRu_11_62, ↓pRu_11_62, ↓gRu_12_62, ↓pRu_12_62, ↓co_62', ↓gFo_0_85, ↓pFo_0_85, ↓gFo_1_85, ↓gFo_2_85, ↓gFo_3_85, ↓gFo_4_85, ↓gFo_5_85, ↓pFo_5_85, ↓co_85', ↓gFo_0_90, ↓pFo_0_90, ↓gFo_1_90, ↓gFo_2_90, ↓gFo_3_90, ↓gFo_4_90, ↓gFo_5_90, ↓pFo_5_90, ↓co_90', ↓gFo_0_95, ↓pFo_0_95, ↓gFo_1_95, ↓gFo_2_95, ↓gFo_3_95, ↓gFo_4_95, ↓gFo_5_95, ↓pFo_5_95, ↓co_95', ↓gMo_0_54, ↓gMo_1_54, ↓gMo_2_54, ↓gMo_3_54, ↓pMo_3_54, ↓gMo_4_54, ↓pMo_4_54, ↓co_54', ↓gMo_0_58, ↓gMo_1_58, ↓gMo_2_58, ↓gMo_3_58, ↓pMo_3_58, ↓gMo_4_58, ↓pMo_4_58, ↓co_58', ↓gMo_0_100, ↓gMo_1_100, ↓gMo_2_100, ↓gMo_3_100, ↓pMo_3_100, ↓gMo_4_100, ↓pMo_4_100, ↓co_100', ↓gMo_0_104, ↓gMo_1_104, ↓gMo_2_104, ↓gMo_3_104, ↓pMo_3_104, ↓gMo_4_104, ↓pMo_4_104, ↓co_104', ↓gMo_0_128, ↓gMo_1_128, ↓gMo_2_128, ↓gMo_3_128, ↓pMo_3_128, ↓gMo_4_128, ↓pMo_4_128, ↓co_128', ↓gMo_0_306, ↓gMo_1_306, ↓gMo_2_306, ↓gMo_3_306, ↓pMo_3_306, ↓gMo_4_306, ↓pMo_4_306, ↓co_306', ↓gEl_0_108, ↓gEl_1_108, ↓gEl_2_108, ↓gEl_3_108, ↓gEl_4_108, ↓gEl_5_108, ↓gEl_6_108, ↓gEl_7_108, ↓pEl_7_108, ↓co_108', ↓gEl_0_120, ↓gEl_1_120, ↓gEl_2_120, ↓gEl_3_120, ↓gEl_4_120, ↓gEl_5_120, ↓gEl_6_120, ↓gEl_7_120, ↓pEl_7_120, ↓co_120', ↓gEl_0_298, ↓gEl_1_298, ↓gEl_2_298, ↓gEl_3_298, ↓gEl_4_298, ↓gEl_5_298, ↓gEl_6_298, ↓gEl_7_298, ↓pEl_7_298, ↓co_298', ↓gHe_0_116, ↓gHe_1_116, ↓gHe_2_116, ↓pHe_2_116, ↓gHe_3_116, ↓pHe_3_116, ↓co_116', ↓gHe_0_294, ↓gHe_1_294, ↓gHe_2_294, ↓pHe_2_294, ↓gHe_3_294, ↓pHe_3_294, ↓co_294', ↓gHe_0_472, ↓gHe_1_472, ↓gHe_2_472, ↓pHe_2_472, ↓gHe_3_472, ↓pHe_3_472, ↓co_472', ↓gWh_0_119, ↓gWh_1_119, ↓gWh_2_119, ↓gWh_3_119, ↓gWh_4_119, ↓pWh_4_119, ↓co_119', ↓gWh_0_297, ↓gWh_1_297, ↓gWh_2_297, ↓gWh_3_297, ↓gWh_4_297, ↓pWh_4_297, ↓co_297', ↓gPa_0_132, ↓gPa_1_132, ↓pPa_1_132, ↓gPa_2_132, ↓pPa_2_132, ↓co_132', ↓gPa_0_310, ↓gPa_1_310, ↓pPa_1_310, ↓gPa_2_310, ↓pPa_2_310, ↓co_310', ↓ca_35, ↓cs_35, ↓cl_35, ↓ca_37, ↓cs_37, ↓cl_37, ↓ca_38, ↓cs_38, ↓cl_38, ↓ca_39, ↓cs_39, ↓cl_39, ↓ca_40, ↓cs_40, ↓cl_40, ↓ca_83, ↓cs_83, ↓cl_83, ↓ca_84, ↓cs_84, ↓cl_84, ↓ca_55, ↓cs_55, ↓cl_55, ↓ca_56, ↓cs_56, ↓cl_56, ↓ca_57, ↓cs_57, ↓cl_57, ↓ca_59, ↓cs_59, ↓cl_59, ↓ca_60, ↓cs_60, ↓cl_60, ↓ca_61, ↓cs_61, ↓cl_61, ↓ca_101, ↓cs_101, ↓cl_101, ↓ca_102, ↓cs_102, ↓cl_102, ↓ca_103, ↓cs_103, ↓cl_103, ↓ca_105, ↓cs_105, ↓cl_105, ↓ca_106, ↓cs_106, ↓cl_106, ↓ca_107, ↓cs_107, ↓cl_107, ↓ca_129, ↓cs_129, ↓cl_129, ↓ca_130, ↓cs_130, ↓cl_130, ↓ca_131, ↓cs_131, ↓cl_131, ↓ca_307, ↓cs_307, ↓cl_307, ↓ca_308, ↓cs_308, ↓cl_308, ↓ca_309, ↓cs_309, ↓cl_309, ↓ca_109, ↓cs_109, ↓cl_109, ↓ca_110, ↓cs_110, ↓cl_110, ↓ca_111, ↓cs_111, ↓cl_111, ↓ca_112, ↓cs_112, ↓cl_112, ↓ca_121, ↓cs_121, ↓cl_121, ↓ca_122, ↓cs_122, ↓cl_122, ↓ca_123, ↓cs_123, ↓cl_123, ↓ca_124, ↓cs_124, ↓cl_124, ↓ca_299, ↓cs_299, ↓cl_299, ↓ca_300, ↓cs_300, ↓cl_300, ↓ca_301, ↓cs_301, ↓cl_301, ↓ca_302, ↓cs_302, ↓cl_302, ↓ca_117, ↓cs_117, ↓cl_117, ↓ca_118, ↓cs_118, ↓cl_118, ↓ca_295, ↓cs_295, ↓cl_295, ↓ca_296, ↓cs_296, ↓cl_296, ↓ca_473, ↓cs_473, ↓cl_473, ↓ca_474, ↓cs_474, ↓cl_474, ↓ca_86, ↓cs_86, ↓cl_86, ↓ca_87, ↓cs_87, ↓cl_87, ↓ca_88, ↓cs_88, ↓cl_88, ↓ca_89, ↓cs_89, ↓cl_89, ↓ca_91, ↓cs_91, ↓cl_91, ↓ca_92, ↓cs_92, ↓cl_92, ↓ca_93, ↓cs_93, ↓cl_93, ↓ca_94, ↓cs_94, ↓cl_94, ↓ca_96, ↓cs_96, ↓cl_96, ↓ca_97, ↓cs_97, ↓cl_97, ↓ca_98, ↓cs_98, ↓cl_98, ↓ca_99, ↓cs_99, ↓cl_99, ↓ca_41, ↓cs_41, ↓cl_41, ↓ca_113, ↓cs_113, ↓cl_113, ↓ca_114, ↓cs_114, ↓cl_114, ↓ca_115, ↓cs_115, ↓cl_115, ↓ca_125, ↓cs_125, ↓cl_125, ↓ca_126, ↓cs_126, ↓cl_126, ↓ca_127, ↓cs_127, ↓cl_127, ↓ca_303, ↓cs_303, ↓cl_303, ↓ca_304, ↓cs_304, ↓cl_304, ↓ca_305, ↓cs_305, ↓cl_305, cU_s, cU_n, cU_U, nI_add, nI_cl, vpi, i01, i02, i10, i11, ↓reduceIte, not_true_eq_false, not_false_eq_true, and_true, true_and, ne_eq, Nat.reduceAdd, Nat.reduceMul, Nat.reduceSub, Nat.reduceEqDiff, reduceCtorEq, Nat.add_zero, Nat.zero_add, n0p, ite_true, ite_false, if_true, if_false, nlT, nlF, nleT, nleF, neT, neF, n0F, n0T, pk_sub, pk_mul, nIm1, nIm2, nlZ, nleZ, upd_s, upd_n, pk_uLs, pk_uLn, nar_0, nar_1, nar_n0, nar_n1]
  by_cases e : tkT b n i = 409
  · rw [if_pos e] at hE hO
    rw [if_neg (not_not_intro (tc.mpr e))]
    by_cases e8 : 8 ≤ o
    · rw [if_pos e8] at hE
      rw [if_neg (nI_nlt e8 (by omega))]
      refine c_Ta_wrong hs h34 (fun τ' f1 f2 f3 f4 => ?_)
      rw [xrI_mk]
      exact hE 3 i τ' rfl f1 f2 f3 f4
    · rw [if_neg e8] at hE hO
      rw [if_pos (nI_lt (by omega) (by omega))]
      refine rS_next (d := d + 1) hS hs h34 (by omega) (fun τ1 r1 k1 f1 => ?_)
      simp (disch := omega) only [↓i01, ↓i02, ↓xrI_mk, ↓xrV_mk, ↓xrL_mk, ↓xrR_mk, ↓gCo_0_0, ↓pCo_0_0, ↓gCo_1_0, ↓gCo_2_0, ↓gCo_3_0, ↓gCo_4_0, ↓gCo_5_0, ↓gCo_6_0, ↓gCo_7_0, ↓gCo_8_0, ↓gCo_9_0, ↓gCo_10_0, ↓pCo_10_0, ↓gCo_11_0, ↓pCo_11_0, ↓co_0', ↓gTa_0_34, ↓gTa_1_34, ↓pTa_1_34, ↓gTa_2_34, ↓pTa_2_34, ↓gTa_3_34, ↓pTa_3_34, ↓gTa_5_34, ↓pTa_5_34, ↓gTa_6_34, ↓pTa_6_34, ↓gTa_7_34, ↓pTa_7_34, ↓gTa_8_34, ↓pTa_8_34, ↓co_34', ↓gHa_0_36, ↓pHa_0_36, ↓gHa_1_36, ↓gHa_2_36, ↓gHa_3_36, ↓gHa_4_36, ↓gHa_5_36, ↓gHa_6_36, ↓co_36', ↓gTr_0_42, ↓pTr_0_42, ↓gTr_1_42, ↓gTr_2_42, ↓gTr_3_42, ↓gTr_4_42, ↓co_42', ↓gRu_0_62, ↓gRu_1_62, ↓gRu_2_62, ↓gRu_3_62, ↓gRu_4_62, ↓gRu_5_62, ↓gRu_6_62, ↓gRu_7_62, ↓gRu_8_62, ↓gRu_9_62, ↓gRu_10_62, ↓pRu_10_62, ↓gRu_11_62, ↓pRu_11_62, ↓gRu_12_62, ↓pRu_12_62, ↓co_62', ↓gFo_0_85, ↓pFo_0_85, ↓gFo_1_85, ↓gFo_2_85, ↓gFo_3_85, ↓gFo_4_85, ↓gFo_5_85, ↓pFo_5_85, ↓co_85', ↓gFo_0_90, ↓pFo_0_90, ↓gFo_1_90, ↓gFo_2_90, ↓gFo_3_90, ↓gFo_4_90, ↓gFo_5_90, ↓pFo_5_90, ↓co_90', ↓gFo_0_95, ↓pFo_0_95, ↓gFo_1_95, ↓gFo_2_95, ↓gFo_3_95, ↓gFo_4_95, ↓gFo_5_95, ↓pFo_5_95, ↓co_95', ↓gMo_0_54, ↓gMo_1_54, ↓gMo_2_54, ↓gMo_3_54, ↓pMo_3_54, ↓gMo_4_54, ↓pMo_4_54, ↓co_54', ↓gMo_0_58, ↓gMo_1_58, ↓gMo_2_58, ↓gMo_3_58, ↓pMo_3_58, ↓gMo_4_58, ↓pMo_4_58, ↓co_58', ↓gMo_0_100, ↓gMo_1_100, ↓gMo_2_100, ↓gMo_3_100, ↓pMo_3_100, ↓gMo_4_100, ↓pMo_4_100, ↓co_100', ↓gMo_0_104, ↓gMo_1_104, ↓gMo_2_104, ↓gMo_3_104, ↓pMo_3_104, ↓gMo_4_104, ↓pMo_4_104, ↓co_104', ↓gMo_0_128, ↓gMo_1_128, ↓gMo_2_128, ↓gMo_3_128, ↓pMo_3_128, ↓gMo_4_128, ↓pMo_4_128, ↓co_128', ↓gMo_0_306, ↓gMo_1_306, ↓gMo_2_306, ↓gMo_3_306, ↓pMo_3_306, ↓gMo_4_306, ↓pMo_4_306, ↓co_306', ↓gEl_0_108, ↓gEl_1_108, ↓gEl_2_108, ↓gEl_3_108, ↓gEl_4_108, ↓gEl_5_108, ↓gEl_6_108, ↓gEl_7_108, ↓pEl_7_108, ↓co_108', ↓gEl_0_120, ↓gEl_1_120, ↓gEl_2_120, ↓gEl_3_120, ↓gEl_4_120, ↓gEl_5_120, ↓gEl_6_120, ↓gEl_7_120, ↓pEl_7_120, ↓co_120', ↓gEl_0_298, ↓gEl_1_298, ↓gEl_2_298, ↓gEl_3_298, ↓gEl_4_298, ↓gEl_5_298, ↓gEl_6_298, ↓gEl_7_298, ↓pEl_7_298, ↓co_298', ↓gHe_0_116, ↓gHe_1_116, ↓gHe_2_116, ↓pHe_2_116, ↓gHe_3_116, ↓pHe_3_116, ↓co_116', ↓gHe_0_294, ↓gHe_1_294, ↓gHe_2_294, ↓pHe_2_294, ↓gHe_3_294, ↓pHe_3_294, ↓co_294', ↓gHe_0_472, ↓gHe_1_472, ↓gHe_2_472, ↓pHe_2_472, ↓gHe_3_472, ↓pHe_3_472, ↓co_472', ↓gWh_0_119, ↓gWh_1_119, ↓gWh_2_119, ↓gWh_3_119, ↓gWh_4_119, ↓pWh_4_119, ↓co_119', ↓gWh_0_297, ↓gWh_1_297, ↓gWh_2_297, ↓gWh_3_297, ↓gWh_4_297, ↓pWh_4_297, ↓co_297', ↓gPa_0_132, ↓gPa_1_132, ↓pPa_1_132, ↓gPa_2_132, ↓pPa_2_132, ↓co_132', ↓gPa_0_310, ↓gPa_1_310, ↓pPa_1_310, ↓gPa_2_310, ↓pPa_2_310, ↓co_310', ↓ca_35, ↓cs_35, ↓cl_35, ↓ca_37, ↓cs_37, ↓cl_37, ↓ca_38, ↓cs_38, ↓cl_38, ↓ca_39, ↓cs_39, ↓cl_39, ↓ca_40, ↓cs_40, ↓cl_40, ↓ca_83, ↓cs_83, ↓cl_83, ↓ca_84, ↓cs_84, ↓cl_84, ↓ca_55, ↓cs_55, ↓cl_55, ↓ca_56, ↓cs_56, ↓cl_56, ↓ca_57, ↓cs_57, ↓cl_57, ↓ca_59, ↓cs_59, ↓cl_59, ↓ca_60, ↓cs_60, ↓cl_60, ↓ca_61, ↓cs_61, ↓cl_61, ↓ca_101, ↓cs_101, ↓cl_101, ↓ca_102, ↓cs_102, ↓cl_102, ↓ca_103, ↓cs_103, ↓cl_103, ↓ca_105, ↓cs_105, ↓cl_105, ↓ca_106, ↓cs_106, ↓cl_106, ↓ca_107, ↓cs_107, ↓cl_107, ↓ca_129, ↓cs_129, ↓cl_129, ↓ca_130, ↓cs_130, ↓cl_130, ↓ca_131, ↓cs_131, ↓cl_131, ↓ca_307, ↓cs_307, ↓cl_307, ↓ca_308, ↓cs_308, ↓cl_308, ↓ca_309, ↓cs_309, ↓cl_309, ↓ca_109, ↓cs_109, ↓cl_109, ↓ca_110, ↓cs_110, ↓cl_110, ↓ca_111, ↓cs_111, ↓cl_111, ↓ca_112, ↓cs_112, ↓cl_112, ↓ca_121, ↓cs_121, ↓cl_121, ↓ca_122, ↓cs_122, ↓cl_122, ↓ca_123, ↓cs_123, ↓cl_123, ↓ca_124, ↓cs_124, ↓cl_124, ↓ca_299, ↓cs_299, ↓cl_299, ↓ca_300, ↓cs_300, ↓cl_300, ↓ca_301, ↓cs_301, ↓cl_301, ↓ca_302, ↓cs_302, ↓cl_302, ↓ca_117, ↓cs_117, ↓cl_117, ↓ca_118, ↓cs_118, ↓cl_118, ↓ca_295, ↓cs_295, ↓cl_295, ↓ca_296, ↓cs_296, ↓cl_296, ↓ca_473, ↓cs_473, ↓cl_473, ↓ca_474, ↓cs_474, ↓cl_474, ↓ca_86, ↓cs_86, ↓cl_86, ↓ca_87, ↓cs_87, ↓cl_87, ↓ca_88, ↓cs_88, ↓cl_88, ↓ca_89, ↓cs_89, ↓cl_89, ↓ca_91, ↓cs_91, ↓cl_91, ↓ca_92, ↓cs_92, ↓cl_92, ↓ca_93, ↓cs_93, ↓cl_93, ↓ca_94, ↓cs_94, ↓cl_94, ↓ca_96, ↓cs_96, ↓cl_96, ↓ca_97, ↓cs_97, ↓cl_97, ↓ca_98, ↓cs_98, ↓cl_98, ↓ca_99, ↓cs_99, ↓cl_99, ↓ca_41, ↓cs_41, ↓cl_41, ↓ca_113, ↓cs_113, ↓cl_113, ↓ca_114, ↓cs_114, ↓cl_114, ↓ca_115, ↓cs_115, ↓cl_115, ↓ca_125, ↓cs_125, ↓cl_125, ↓ca_126, ↓cs_126, ↓cl_126, ↓ca_127, ↓cs_127, ↓cl_127, ↓ca_303, ↓cs_303, ↓cl_303, ↓ca_304, ↓cs_304, ↓cl_304, ↓ca_305, ↓cs_305, ↓cl_305, cU_s, cU_n, cU_U, nI_add, nI_cl, vpi, i01, i02, i10, i11, ↓reduceIte, not_true_eq_false, not_false_eq_true, and_true, true_and, ne_eq, Nat.reduceAdd, Nat.reduceMul, Nat.reduceSub, Nat.reduceEqDiff, reduceCtorEq, Nat.add_zero, Nat.zero_add, n0p, ite_true, ite_false, if_true, if_false, nlT, nlF, nleT, nleF, neT, neF, n0F, n0T, pk_sub, pk_mul, nIm1, nIm2, nlZ, nleZ, upd_s, upd_n, pk_uLs, pk_uLn, nar_0, nar_1, nar_n0, nar_n1]
      refine h4 (o + 1) (i + 1) sz (d + 5) t τ1 _ (by omega) (by omega) (by omega) r1 (fun e j τ' q1 q2 q3 q4 q5 => ?_) (fun t' j τ' q1 q2 q3 q4 => ?_)
      · rw [q1] at hE
        rw [xrI_mk, if_neg (not_not_intro rfl)]
        exact hE e j τ' rfl q2 q3 q4 q5
      · have G := ps_G (tk := tkT b n) (tv := tkV b n) (tp := tkP b n) (n := n) (fun i h ht => tk_i h ht) (fun i h => tk_n h) f 4 (o + 1) (i + 1) t (by omega) r1.2.2.2.2.2.2.2.2.2 (by omega) (fun q => nomatch q)
        rw [q1] at G hO
        obtain ⟨G1, G2, G3, G4, G5⟩ := G
        have G2 := G2 rfl
        have G5 : cs t' + (i + 1) ≤ 0 + j := G5
        have hjn := tk_n G3
        rw [xrI_mk, if_pos (nI_m1 (by omega)), g_made q2.2.2.2.2.1 h34]
        refine ⟨(co_T hb.1 (by omega)) ▸ trivial, rS_add hb h34 h300 q2 (by omega) (fun τ2 r2 k2 a1 a2 a3 a4 f2 => ?_)⟩
        rw [xrI_mk]
        have e1 : sz + cs (tU 20 t') = sz + cs t' + 1 := by rw [cs_U]; omega
        have := hO (tU 20 t') j τ2 rfl (by rw [e1]; exact r2) (kpL_t (kpL_w k1 (by omega)) (kpL_t q3 (kpL_w k2 (by omega)))) ⟨ccT_k t' sz (fun q u1 u2 y hy => k2 q u1 u2 y hy) q4, a1, a2⟩
        rw [show sz + cs (tU 20 t') - 1 = sz + cs t' by omega] at this
        exact this
  · rw [if_neg e] at hE hO
    rw [if_pos (fun q => e (tc.mp q))]
    refine h5 o i sz (d + 5) t τ _ ho (by omega) (by omega) hs (fun e j τ' q1 q2 q3 q4 q5 => ?_) (fun t' j τ' q1 q2 q3 q4 => ?_)
    · rw [q1] at hE
      rw [xrI_mk, if_neg (not_not_intro rfl)]
      exact hE e j τ' rfl q2 q3 q4 q5
    · have G := ps_G (tk := tkT b n) (tv := tkV b n) (tp := tkP b n) (n := n) (fun i h ht => tk_i h ht) (fun i h => tk_n h) f 5 o i t (by omega) hs.2.2.2.2.2.2.2.2.2 (by omega) (fun q => nomatch q)
      rw [q1] at G hO hE
      obtain ⟨G1, G2, G3, G4, G5⟩ := G
      have G2 := G2 rfl
      have hjn := tk_n G3
      have hsz2 := q2.2.2.2.2.2.2.2.1
      rw [show ∀ (k : Term → Nat → pR), pB (.inr (t', j)) k = k t' j from fun _ => rfl] at hE hO
      rw [xrI_mk, if_pos (nI_m1 (by omega))]
      simp (disch := omega) only [↓i01, ↓i02, ↓xrI_mk, ↓xrV_mk, ↓xrL_mk, ↓xrR_mk, ↓gCo_0_0, ↓pCo_0_0, ↓gCo_1_0, ↓gCo_2_0, ↓gCo_3_0, ↓gCo_4_0, ↓gCo_5_0, ↓gCo_6_0, ↓gCo_7_0, ↓gCo_8_0, ↓gCo_9_0, ↓gCo_10_0, ↓pCo_10_0, ↓gCo_11_0, ↓pCo_11_0, ↓co_0', ↓gTa_0_34, ↓gTa_1_34, ↓pTa_1_34, ↓gTa_2_34, ↓pTa_2_34, ↓gTa_3_34, ↓pTa_3_34, ↓gTa_5_34, ↓pTa_5_34, ↓gTa_6_34, ↓pTa_6_34, ↓gTa_7_34, ↓pTa_7_34, ↓gTa_8_34, ↓pTa_8_34, ↓co_34', ↓gHa_0_36, ↓pHa_0_36, ↓gHa_1_36, ↓gHa_2_36, ↓gHa_3_36, ↓gHa_4_36, ↓gHa_5_36, ↓gHa_6_36, ↓co_36', ↓gTr_0_42, ↓pTr_0_42, ↓gTr_1_42, ↓gTr_2_42, ↓gTr_3_42, ↓gTr_4_42, ↓co_42', ↓gRu_0_62, ↓gRu_1_62, ↓gRu_2_62, ↓gRu_3_62, ↓gRu_4_62, ↓gRu_5_62, ↓gRu_6_62, ↓gRu_7_62, ↓gRu_8_62, ↓gRu_9_62, ↓gRu_10_62, ↓pRu_10_62, ↓gRu_11_62, ↓pRu_11_62, ↓gRu_12_62, ↓pRu_12_62, ↓co_62', ↓gFo_0_85, ↓pFo_0_85, ↓gFo_1_85, ↓gFo_2_85, ↓gFo_3_85, ↓gFo_4_85, ↓gFo_5_85, ↓pFo_5_85, ↓co_85', ↓gFo_0_90, ↓pFo_0_90, ↓gFo_1_90, ↓gFo_2_90, ↓gFo_3_90, ↓gFo_4_90, ↓gFo_5_90, ↓pFo_5_90, ↓co_90', ↓gFo_0_95, ↓pFo_0_95, ↓gFo_1_95, ↓gFo_2_95, ↓gFo_3_95, ↓gFo_4_95, ↓gFo_5_95, ↓pFo_5_95, ↓co_95', ↓gMo_0_54, ↓gMo_1_54, ↓gMo_2_54, ↓gMo_3_54, ↓pMo_3_54, ↓gMo_4_54, ↓pMo_4_54, ↓co_54', ↓gMo_0_58, ↓gMo_1_58, ↓gMo_2_58, ↓gMo_3_58, ↓pMo_3_58, ↓gMo_4_58, ↓pMo_4_58, ↓co_58', ↓gMo_0_100, ↓gMo_1_100, ↓gMo_2_100, ↓gMo_3_100, ↓pMo_3_100, ↓gMo_4_100, ↓pMo_4_100, ↓co_100', ↓gMo_0_104, ↓gMo_1_104, ↓gMo_2_104, ↓gMo_3_104, ↓pMo_3_104, ↓gMo_4_104, ↓pMo_4_104, ↓co_104', ↓gMo_0_128, ↓gMo_1_128, ↓gMo_2_128, ↓gMo_3_128, ↓pMo_3_128, ↓gMo_4_128, ↓pMo_4_128, ↓co_128', ↓gMo_0_306, ↓gMo_1_306, ↓gMo_2_306, ↓gMo_3_306, ↓pMo_3_306, ↓gMo_4_306, ↓pMo_4_306, ↓co_306', ↓gEl_0_108, ↓gEl_1_108, ↓gEl_2_108, ↓gEl_3_108, ↓gEl_4_108, ↓gEl_5_108, ↓gEl_6_108, ↓gEl_7_108, ↓pEl_7_108, ↓co_108', ↓gEl_0_120, ↓gEl_1_120, ↓gEl_2_120, ↓gEl_3_120, ↓gEl_4_120, ↓gEl_5_120, ↓gEl_6_120, ↓gEl_7_120, ↓pEl_7_120, ↓co_120', ↓gEl_0_298, ↓gEl_1_298, ↓gEl_2_298, ↓gEl_3_298, ↓gEl_4_298, ↓gEl_5_298, ↓gEl_6_298, ↓gEl_7_298, ↓pEl_7_298, ↓co_298', ↓gHe_0_116, ↓gHe_1_116, ↓gHe_2_116, ↓pHe_2_116, ↓gHe_3_116, ↓pHe_3_116, ↓co_116', ↓gHe_0_294, ↓gHe_1_294, ↓gHe_2_294, ↓pHe_2_294, ↓gHe_3_294, ↓pHe_3_294, ↓co_294', ↓gHe_0_472, ↓gHe_1_472, ↓gHe_2_472, ↓pHe_2_472, ↓gHe_3_472, ↓pHe_3_472, ↓co_472', ↓gWh_0_119, ↓gWh_1_119, ↓gWh_2_119, ↓gWh_3_119, ↓gWh_4_119, ↓pWh_4_119, ↓co_119', ↓gWh_0_297, ↓gWh_1_297, ↓gWh_2_297, ↓gWh_3_297, ↓gWh_4_297, ↓pWh_4_297, ↓co_297', ↓gPa_0_132, ↓gPa_1_132, ↓pPa_1_132, ↓gPa_2_132, ↓pPa_2_132, ↓co_132', ↓gPa_0_310, ↓gPa_1_310, ↓pPa_1_310, ↓gPa_2_310, ↓pPa_2_310, ↓co_310', ↓ca_35, ↓cs_35, ↓cl_35, ↓ca_37, ↓cs_37, ↓cl_37, ↓ca_38, ↓cs_38, ↓cl_38, ↓ca_39, ↓cs_39, ↓cl_39, ↓ca_40, ↓cs_40, ↓cl_40, ↓ca_83, ↓cs_83, ↓cl_83, ↓ca_84, ↓cs_84, ↓cl_84, ↓ca_55, ↓cs_55, ↓cl_55, ↓ca_56, ↓cs_56, ↓cl_56, ↓ca_57, ↓cs_57, ↓cl_57, ↓ca_59, ↓cs_59, ↓cl_59, ↓ca_60, ↓cs_60, ↓cl_60, ↓ca_61, ↓cs_61, ↓cl_61, ↓ca_101, ↓cs_101, ↓cl_101, ↓ca_102, ↓cs_102, ↓cl_102, ↓ca_103, ↓cs_103, ↓cl_103, ↓ca_105, ↓cs_105, ↓cl_105, ↓ca_106, ↓cs_106, ↓cl_106, ↓ca_107, ↓cs_107, ↓cl_107, ↓ca_129, ↓cs_129, ↓cl_129, ↓ca_130, ↓cs_130, ↓cl_130, ↓ca_131, ↓cs_131, ↓cl_131, ↓ca_307, ↓cs_307, ↓cl_307, ↓ca_308, ↓cs_308, ↓cl_308, ↓ca_309, ↓cs_309, ↓cl_309, ↓ca_109, ↓cs_109, ↓cl_109, ↓ca_110, ↓cs_110, ↓cl_110, ↓ca_111, ↓cs_111, ↓cl_111, ↓ca_112, ↓cs_112, ↓cl_112, ↓ca_121, ↓cs_121, ↓cl_121, ↓ca_122, ↓cs_122, ↓cl_122, ↓ca_123, ↓cs_123, ↓cl_123, ↓ca_124, ↓cs_124, ↓cl_124, ↓ca_299, ↓cs_299, ↓cl_299, ↓ca_300, ↓cs_300, ↓cl_300, ↓ca_301, ↓cs_301, ↓cl_301, ↓ca_302, ↓cs_302, ↓cl_302, ↓ca_117, ↓cs_117, ↓cl_117, ↓ca_118, ↓cs_118, ↓cl_118, ↓ca_295, ↓cs_295, ↓cl_295, ↓ca_296, ↓cs_296, ↓cl_296, ↓ca_473, ↓cs_473, ↓cl_473, ↓ca_474, ↓cs_474, ↓cl_474, ↓ca_86, ↓cs_86, ↓cl_86, ↓ca_87, ↓cs_87, ↓cl_87, ↓ca_88, ↓cs_88, ↓cl_88, ↓ca_89, ↓cs_89, ↓cl_89, ↓ca_91, ↓cs_91, ↓cl_91, ↓ca_92, ↓cs_92, ↓cl_92, ↓ca_93, ↓cs_93, ↓cl_93, ↓ca_94, ↓cs_94, ↓cl_94, ↓ca_96, ↓cs_96, ↓cl_96, ↓ca_97, ↓cs_97, ↓cl_97, ↓ca_98, ↓cs_98, ↓cl_98, ↓ca_99, ↓cs_99, ↓cl_99, ↓ca_41, ↓cs_41, ↓cl_41, ↓ca_113, ↓cs_113, ↓cl_113, ↓ca_114, ↓cs_114, ↓cl_114, ↓ca_115, ↓cs_115, ↓cl_115, ↓ca_125, ↓cs_125, ↓cl_125, ↓ca_126, ↓cs_126, ↓cl_126, ↓ca_127, ↓cs_127, ↓cl_127, ↓ca_303, ↓cs_303, ↓cl_303, ↓ca_304, ↓cs_304, ↓cl_304, ↓ca_305, ↓cs_305, ↓cl_305, cU_s, cU_n, cU_U, nI_add, nI_cl, vpi, i01, i02, i10, i11, ↓reduceIte, not_true_eq_false, not_false_eq_true, and_true, true_and, ne_eq, Nat.reduceAdd, Nat.reduceMul, Nat.reduceSub, Nat.reduceEqDiff, reduceCtorEq, Nat.add_zero, Nat.zero_add, n0p, ite_true, ite_false, if_true, if_false, nlT, nlF, nleT, nleF, neT, neF, n0F, n0T, pk_sub, pk_mul, nIm1, nIm2, nlZ, nleZ, upd_s, upd_n, pk_uLs, pk_uLn, nar_0, nar_1, nar_n0, nar_n1]
      have go : ∀ k, cmpK (tkT b n j) = k → k ≠ 0 → τ' 34 5 = nI (opC k) → K_Tape_readAsk sa (d + 5) Q 16 [some (.ref (c + 34)), some (.int (nI o)), some (.int (nI (sz + cs t' - 1))), some (.int (τ' 34 5))] [] (cM c R M0 τ') (0, 0) := by
        intro k ek hk ev
        rw [ek, if_neg hk] at hE hO
        have hk3 := cmpK_r (c := tkT b n j) (by omega)
        rw [ev]
        refine t_Tape_readAsk_16 ⟨co_34, ?_⟩
        refine lp_step (k := k) (f := f) (m' := 5) (rk := 2) (t0 := t) hS hb h34 h300 (by omega) rfl h5 ho (by omega) (by omega) q4 q2 hk3.2.2 (fun e' j2 τ2 p1 p2 p3 p4 p5 => ?_) (fun t2 j2 τ2 p1 p2 p3 p4 p5 p6 => ?_)
        · rw [p1] at hE
          exact hE e' j2 τ2 rfl p2 p3 p4 p5
        · rw [p1] at hO
          exact hO _ j2 τ2 rfl p4 (kpL_t q3 p5) p6
      have ctx := q2.2.2.2.2.2.1.1
      have c1 := tc_is (v := 60) ctx (by decide)
      have c2 := tc_is (v := 62) ctx (by decide)
      have c3 := tc_is (v := 61) ctx (by decide)
      have c4 := tc_is (v := 35) ctx (by decide)
      have c5 := tc_is (v := 4) ctx (by decide)
      have c6 := tc_is (v := 5) ctx (by decide)
      rw [show tcN 60 = 60 from rfl] at c1
      rw [show tcN 62 = 62 from rfl] at c2
      rw [show tcN 61 = 61 from rfl] at c3
      rw [show tcN 35 = 35 from rfl] at c4
      rw [show tcN 4 = 301 from rfl] at c5
      rw [show tcN 5 = 302 from rfl] at c6
      have c1 : τ' 34 5 = nI 60 ↔ tkT b n j = 60 := c1
      have c2 : τ' 34 5 = nI 62 ↔ tkT b n j = 62 := c2
      have c3 : τ' 34 5 = nI 61 ↔ tkT b n j = 61 := c3
      have c4 : τ' 34 5 = nI 35 ↔ tkT b n j = 35 := c4
      have c5 : τ' 34 5 = nI 301 ↔ tkT b n j = 4 := c5
      have c6 : τ' 34 5 = nI 302 ↔ tkT b n j = 5 := c6
      by_cases d1 : τ' 34 5 = nI 60
      · rw [if_pos d1]; exact go 10 (by rw [c1.mp d1]; rfl) (by decide) d1
      rw [if_neg d1]
      by_cases d2 : τ' 34 5 = nI 62
      · rw [if_pos d2]; exact go 12 (by rw [c2.mp d2]; rfl) (by decide) d2
      rw [if_neg d2]
      by_cases d3 : τ' 34 5 = nI 61
      · rw [if_pos d3]; exact go 14 (by rw [c3.mp d3]; rfl) (by decide) d3
      rw [if_neg d3]
      by_cases d4 : τ' 34 5 = nI 35
      · rw [if_pos d4]; exact go 15 (by rw [c4.mp d4]; rfl) (by decide) d4
      rw [if_neg d4]
      by_cases d5 : τ' 34 5 = nI 301
      · rw [if_pos d5]; exact go 11 (by rw [c5.mp d5]; rfl) (by decide) d5
      rw [if_neg d5]
      by_cases d6 : τ' 34 5 = nI 302
      · rw [if_pos d6]; exact go 13 (by rw [c6.mp d6]; rfl) (by decide) d6
      rw [if_neg d6]
      have k0 : cmpK (tkT b n j) = 0 := by
        unfold cmpK
        rw [if_neg (fun q => d1 (c1.mpr q)), if_neg (fun q => d5 (c5.mpr q)), if_neg (fun q => d2 (c2.mpr q)), if_neg (fun q => d6 (c6.mpr q)), if_neg (fun q => d3 (c3.mpr q)), if_neg (fun q => d4 (c4.mpr q))]
      rw [k0, if_pos rfl] at hE
      refine c_Ta_wrong q2 h34 (fun τ2 f1 f2 f3 f4 => ?_)
      rw [xrI_mk]
      exact hE 1 j τ2 rfl f1 f2 f3 f4
end TM
