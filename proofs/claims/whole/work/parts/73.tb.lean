/-! the class reads: steps of a text, the state of the reading -/
theorem ccT_k {τ τ' : cS} {b : Nat} : ∀ (t : Term) (x : Nat), (∀ q, 1 ≤ q → q ≤ 4 → ∀ y, y < x + cs t → τ' (b + q) y = τ (b + q) y) → ccT τ b t x → ccT τ' b t x
  | .int v, x, h, hc => by
    unfold ccT at hc ⊢
    rw [h 1 (by omega) (by omega) x (by show x < x + 1; omega), h 2 (by omega) (by omega) x (by show x < x + 1; omega)]
    exact hc
  | .arg i, x, h, hc => by
    unfold ccT at hc ⊢
    rw [h 1 (by omega) (by omega) x (by show x < x + 1; omega)]
    exact hc
  | .sub (.index k) a, x, h, hc => by
    unfold ccT at hc ⊢
    have e : cs (.sub (.index k) a) = cs a + 1 := rfl
    rw [h 1 (by omega) (by omega) (x + cs a) (by omega), h 2 (by omega) (by omega) (x + cs a) (by omega)]
    exact ⟨ccT_k a x (fun q q1 q2 y hy => h q q1 q2 y (by omega)) hc.1, hc.2⟩
  | .add (.index k) (.elem a y), x, h, hc => by
    unfold ccT at hc ⊢
    have e : cs (.add (.index k) (.elem a y)) = cs a + cs y + 1 := rfl
    rw [h 1 (by omega) (by omega) (x + cs a + cs y) (by omega), h 2 (by omega) (by omega) (x + cs a + cs y) (by omega), h 3 (by omega) (by omega) (x + cs a + cs y) (by omega)]
    exact ⟨ccT_k a x (fun q q1 q2 z hz => h q q1 q2 z (by omega)) hc.1, ccT_k y (x + cs a) (fun q q1 q2 z hz => h q q1 q2 z (by omega)) hc.2.1, hc.2.2⟩
  | .mul u (.elem a y), x, h, hc => by
    unfold ccT at hc ⊢
    have e : cs (.mul u (.elem a y)) = cs u + cs a + cs y + 3 := rfl
    rw [h 1 (by omega) (by omega) (x + cs u) (by omega), h 2 (by omega) (by omega) (x + cs u) (by omega), h 3 (by omega) (by omega) (x + cs u) (by omega), h 1 (by omega) (by omega) (x + cs u + 1 + cs a) (by omega), h 3 (by omega) (by omega) (x + cs u + 1 + cs a) (by omega), h 1 (by omega) (by omega) (x + cs u + 1 + cs a + 1 + cs y) (by omega), h 2 (by omega) (by omega) (x + cs u + 1 + cs a + 1 + cs y) (by omega), h 3 (by omega) (by omega) (x + cs u + 1 + cs a + 1 + cs y) (by omega), h 4 (by omega) (by omega) (x + cs u + 1 + cs a + 1 + cs y) (by omega)]
    exact ⟨ccT_k u x (fun q q1 q2 z hz => h q q1 q2 z (by omega)) hc.1, hc.2.1, ccT_k a (x + cs u + 1) (fun q q1 q2 z hz => h q q1 q2 z (by omega)) hc.2.2.1, hc.2.2.2.1, ccT_k y (x + cs u + 1 + cs a + 1) (fun q q1 q2 z hz => h q q1 q2 z (by omega)) hc.2.2.2.2.1, hc.2.2.2.2.2⟩
  | .sub (.int _) _, _, _, hc => hc.elim
/-- the reading at token i, with sz steps made in the text at tb -/
def rS (τ0 τ : cS) (b : Nat → Nat) (n tb i sz : Nat) : Prop := (∀ k, k ≠ 34 → (k < tb ∨ tb + 7 < k) → τ k = τ0 k) ∧ (∀ k, tb + 5 ≤ k → k ≤ tb + 7 → τ k = τ0 k) ∧ (τ tb 8 = τ0 tb 8 ∧ τ 34 2 = τ0 34 2 ∧ τ 34 3 = τ0 34 3) ∧ tpC τ b n ∧ τ 34 4 = nI tb ∧ tcX τ (lxI b n i) ∧ τ tb 7 = nI sz ∧ sz ≤ i ∧ 1 ≤ i ∧ i ≤ tkP b n i
/-- the first sz steps are the same -/
def kpL (tb sz : Nat) (τ τ' : cS) : Prop := ∀ q, 1 ≤ q → q ≤ 4 → ∀ y, y < sz → τ' (tb + q) y = τ (tb + q) y
/-- after a fault -/
def fF (tb : Nat) (τ0 τ : cS) : Prop := ∀ k, k ≠ 34 → (k < tb ∨ tb + 7 < k) → τ k = τ0 k
section TB
variable {sa : Nat → Nat} {d : Nat} {Q : xQ} {c R : Nat} {M0 M : xM} {τ τ0 : cS} {b : Nat → Nat} {n tb i sz : Nat}
theorem kpL_r : kpL tb sz τ τ := fun _ _ _ _ _ => rfl
theorem kpL_t {τ' τ'' : cS} (h : kpL tb sz τ τ') (h' : kpL tb sz τ' τ'') : kpL tb sz τ τ'' := fun q q1 q2 y hy => (h' q q1 q2 y hy).trans (h q q1 q2 y hy)
theorem kpL_w {τ' : cS} {sz' : Nat} (h : kpL tb sz' τ τ') (hs : sz ≤ sz') : kpL tb sz τ τ' := fun q q1 q2 y hy => h q q1 q2 y (by omega)
theorem c_Ta_wrong {k : Nat} (hs : rS τ0 τ b n tb i sz) (h34 : tb + 7 < 34) (h : ∀ τ', fF tb τ0 τ' → τ' 34 1 = nI n → τ' 34 2 = nI k → τ' 34 3 = nI (tkP b n i) → Q (some (.int (-1))) (cM c R M0 τ')) : xEv xP (xprim sa) (d + 1) m_Tape_wrong [.ref (c + 34), .int (nI k)] (cM c R M0 τ) Q := by
  refine t_Tape_wrong ?_
  have a6 : τ 34 6 = nI (tkP b n i) := hs.2.2.2.2.2.1.2.1
  simp (disch := omega) only [↓i01, ↓i02, ↓xrI_mk, ↓xrV_mk, ↓xrL_mk, ↓xrR_mk, ↓gCo_0_0, ↓pCo_0_0, ↓gCo_1_0, ↓gCo_2_0, ↓gCo_3_0, ↓gCo_4_0, ↓gCo_5_0, ↓gCo_6_0, ↓gCo_7_0, ↓gCo_8_0, ↓gCo_9_0, ↓gCo_10_0, ↓pCo_10_0, ↓gCo_11_0, ↓pCo_11_0, ↓co_0', ↓gTa_0_34, ↓gTa_1_34, ↓pTa_1_34, ↓gTa_2_34, ↓pTa_2_34, ↓gTa_3_34, ↓pTa_3_34, ↓gTa_5_34, ↓pTa_5_34, ↓gTa_6_34, ↓pTa_6_34, ↓gTa_7_34, ↓pTa_7_34, ↓gTa_8_34, ↓pTa_8_34, ↓co_34', ↓gHa_0_36, ↓pHa_0_36, ↓gHa_1_36, ↓gHa_2_36, ↓gHa_3_36, ↓gHa_4_36, ↓gHa_5_36, ↓gHa_6_36, ↓co_36', ↓gTr_0_42, ↓pTr_0_42, ↓gTr_1_42, ↓gTr_2_42, ↓gTr_3_42, ↓gTr_4_42, ↓co_42', ↓gRu_0_62, ↓gRu_1_62, ↓gRu_2_62, ↓gRu_3_62, ↓gRu_4_62, ↓gRu_5_62, ↓gRu_6_62, ↓gRu_7_62, ↓gRu_8_62, ↓gRu_9_62, ↓gRu_10_62, ↓pRu_10_62, ↓gRu_11_62, ↓pRu_11_62, ↓gRu_12_62, ↓pRu_12_62, ↓co_62', ↓gFo_0_85, ↓pFo_0_85, ↓gFo_1_85, ↓gFo_2_85, ↓gFo_3_85, ↓gFo_4_85, ↓gFo_5_85, ↓pFo_5_85, ↓co_85', ↓gFo_0_90, ↓pFo_0_90, ↓gFo_1_90, ↓gFo_2_90, ↓gFo_3_90, ↓gFo_4_90, ↓gFo_5_90, ↓pFo_5_90, ↓co_90', ↓gFo_0_95, ↓pFo_0_95, ↓gFo_1_95, ↓gFo_2_95, ↓gFo_3_95, ↓gFo_4_95, ↓gFo_5_95, ↓pFo_5_95, ↓co_95', ↓gMo_0_54, ↓gMo_1_54, ↓gMo_2_54, ↓gMo_3_54, ↓pMo_3_54, ↓gMo_4_54, ↓pMo_4_54, ↓co_54', ↓gMo_0_58, ↓gMo_1_58, ↓gMo_2_58, ↓gMo_3_58, ↓pMo_3_58, ↓gMo_4_58, ↓pMo_4_58, ↓co_58', ↓gMo_0_100, ↓gMo_1_100, ↓gMo_2_100, ↓gMo_3_100, ↓pMo_3_100, ↓gMo_4_100, ↓pMo_4_100, ↓co_100', ↓gMo_0_104, ↓gMo_1_104, ↓gMo_2_104, ↓gMo_3_104, ↓pMo_3_104, ↓gMo_4_104, ↓pMo_4_104, ↓co_104', ↓gMo_0_128, ↓gMo_1_128, ↓gMo_2_128, ↓gMo_3_128, ↓pMo_3_128, ↓gMo_4_128, ↓pMo_4_128, ↓co_128', ↓gMo_0_306, ↓gMo_1_306, ↓gMo_2_306, ↓gMo_3_306, ↓pMo_3_306, ↓gMo_4_306, ↓pMo_4_306, ↓co_306', ↓gEl_0_108, ↓gEl_1_108, ↓gEl_2_108, ↓gEl_3_108, ↓gEl_4_108, ↓gEl_5_108, ↓gEl_6_108, ↓gEl_7_108, ↓pEl_7_108, ↓co_108', ↓gEl_0_120, ↓gEl_1_120, ↓gEl_2_120, ↓gEl_3_120, ↓gEl_4_120, ↓gEl_5_120, ↓gEl_6_120, ↓gEl_7_120, ↓pEl_7_120, ↓co_120', ↓gEl_0_298, ↓gEl_1_298, ↓gEl_2_298, ↓gEl_3_298, ↓gEl_4_298, ↓gEl_5_298, ↓gEl_6_298, ↓gEl_7_298, ↓pEl_7_298, ↓co_298', ↓gHe_0_116, ↓gHe_1_116, ↓gHe_2_116, ↓pHe_2_116, ↓gHe_3_116, ↓pHe_3_116, ↓co_116', ↓gHe_0_294, ↓gHe_1_294, ↓gHe_2_294, ↓pHe_2_294, ↓gHe_3_294, ↓pHe_3_294, ↓co_294', ↓gHe_0_472, ↓gHe_1_472, ↓gHe_2_472, ↓pHe_2_472, ↓gHe_3_472, ↓pHe_3_472, ↓co_472', ↓gWh_0_119, ↓gWh_1_119, ↓gWh_2_119, ↓gWh_3_119, ↓gWh_4_119, ↓pWh_4_119, ↓co_119', ↓gWh_0_297, ↓gWh_1_297, ↓gWh_2_297, ↓gWh_3_297, ↓gWh_4_297, ↓pWh_4_297, ↓co_297', ↓gPa_0_132, ↓gPa_1_132, ↓pPa_1_132, ↓gPa_2_132, ↓pPa_2_132, ↓co_132', ↓gPa_0_310, ↓gPa_1_310, ↓pPa_1_310, ↓gPa_2_310, ↓pPa_2_310, ↓co_310', ↓ca_35, ↓cs_35, ↓cl_35, ↓ca_37, ↓cs_37, ↓cl_37, ↓ca_38, ↓cs_38, ↓cl_38, ↓ca_39, ↓cs_39, ↓cl_39, ↓ca_40, ↓cs_40, ↓cl_40, ↓ca_83, ↓cs_83, ↓cl_83, ↓ca_84, ↓cs_84, ↓cl_84, ↓ca_55, ↓cs_55, ↓cl_55, ↓ca_56, ↓cs_56, ↓cl_56, ↓ca_57, ↓cs_57, ↓cl_57, ↓ca_59, ↓cs_59, ↓cl_59, ↓ca_60, ↓cs_60, ↓cl_60, ↓ca_61, ↓cs_61, ↓cl_61, ↓ca_101, ↓cs_101, ↓cl_101, ↓ca_102, ↓cs_102, ↓cl_102, ↓ca_103, ↓cs_103, ↓cl_103, ↓ca_105, ↓cs_105, ↓cl_105, ↓ca_106, ↓cs_106, ↓cl_106, ↓ca_107, ↓cs_107, ↓cl_107, ↓ca_129, ↓cs_129, ↓cl_129, ↓ca_130, ↓cs_130, ↓cl_130, ↓ca_131, ↓cs_131, ↓cl_131, ↓ca_307, ↓cs_307, ↓cl_307, ↓ca_308, ↓cs_308, ↓cl_308, ↓ca_309, ↓cs_309, ↓cl_309, ↓ca_109, ↓cs_109, ↓cl_109, ↓ca_110, ↓cs_110, ↓cl_110, ↓ca_111, ↓cs_111, ↓cl_111, ↓ca_112, ↓cs_112, ↓cl_112, ↓ca_121, ↓cs_121, ↓cl_121, ↓ca_122, ↓cs_122, ↓cl_122, ↓ca_123, ↓cs_123, ↓cl_123, ↓ca_124, ↓cs_124, ↓cl_124, ↓ca_299, ↓cs_299, ↓cl_299, ↓ca_300, ↓cs_300, ↓cl_300, ↓ca_301, ↓cs_301, ↓cl_301, ↓ca_302, ↓cs_302, ↓cl_302, ↓ca_117, ↓cs_117, ↓cl_117, ↓ca_118, ↓cs_118, ↓cl_118, ↓ca_295, ↓cs_295, ↓cl_295, ↓ca_296, ↓cs_296, ↓cl_296, ↓ca_473, ↓cs_473, ↓cl_473, ↓ca_474, ↓cs_474, ↓cl_474, ↓ca_86, ↓cs_86, ↓cl_86, ↓ca_87, ↓cs_87, ↓cl_87, ↓ca_88, ↓cs_88, ↓cl_88, ↓ca_89, ↓cs_89, ↓cl_89, ↓ca_91, ↓cs_91, ↓cl_91, ↓ca_92, ↓cs_92, ↓cl_92, ↓ca_93, ↓cs_93, ↓cl_93, ↓ca_94, ↓cs_94, ↓cl_94, ↓ca_96, ↓cs_96, ↓cl_96, ↓ca_97, ↓cs_97, ↓cl_97, ↓ca_98, ↓cs_98, ↓cl_98, ↓ca_99, ↓cs_99, ↓cl_99, ↓ca_41, ↓cs_41, ↓cl_41, ↓ca_113, ↓cs_113, ↓cl_113, ↓ca_114, ↓cs_114, ↓cl_114, ↓ca_115, ↓cs_115, ↓cl_115, ↓ca_125, ↓cs_125, ↓cl_125, ↓ca_126, ↓cs_126, ↓cl_126, ↓ca_127, ↓cs_127, ↓cl_127, ↓ca_303, ↓cs_303, ↓cl_303, ↓ca_304, ↓cs_304, ↓cl_304, ↓ca_305, ↓cs_305, ↓cl_305, cU_s, cU_n, cU_U, nI_add, nI_cl, vpi, i01, i02, i10, i11, ↓reduceIte, not_true_eq_false, not_false_eq_true, and_true, true_and, ne_eq, Nat.reduceAdd, Nat.reduceMul, Nat.reduceSub, Nat.reduceEqDiff, reduceCtorEq, Nat.add_zero, Nat.zero_add, n0p, ite_true, ite_false, if_true, if_false, nlT, nlF, nleT, nleF, neT, neF, n0F, n0T, pk_sub, pk_mul, nIm1, nIm2, nlZ, nleZ, upd_s, upd_n, pk_uLs, pk_uLn, nar_0, nar_1, nar_n0, nar_n1, a6]
  refine h _ (fun k k1 k2 => ?_) ?_ ?_ ?_
  · rw [cU_n k1]; exact hs.1 k k1 k2
  · rw [cU_s, upd_n (by omega), upd_n (by omega)]; exact hs.2.2.2.1.1
  · rw [cU_s, upd_n (by omega), upd_s]
  · rw [cU_s, upd_s]
theorem rS_next (hS : stR sa c M0) (hs : rS τ0 τ b n tb i sz) (h34 : tb + 7 < 34) (ht : tkT b n i ≠ 0) (h : ∀ τ', rS τ0 τ' b n tb (i + 1) sz → kpL tb sz τ τ' → (∀ k, k ≠ 34 → τ' k = τ k) → Q none (cM c R M0 τ')) : xEv xP (xprim sa) (d + 4) m_Tape_next [.ref (c + 34)] (cM c R M0 τ) Q := by
  obtain ⟨h1, h2, h3, h4, h5, h6, h7, h8, h9, h10⟩ := hs
  refine c_Ta_next hS h4 (x := tkE b n i) (tk_e i).2.1 h6.2.2.1 (fun τ' f' x' => ?_)
  refine h τ' ⟨fun k k1 k2 => (f'.1 k k1).trans (h1 k k1 k2), fun k k1 k2 => (f'.1 k (by omega)).trans (h2 k k1 k2), ⟨by rw [f'.1 tb (by omega)]; exact h3.1, (f'.2 2 (by omega)).trans h3.2.1, (f'.2 3 (by omega)).trans h3.2.2⟩, tpC_F f' h4, by rw [f'.2 4 (by omega)]; exact h5, x', by rw [f'.1 tb (by omega)]; exact h7, by omega, by omega, tk_i h10 ht⟩ (fun q q1 q2 y hy => by rw [f'.1 (tb + q) (by omega)]) f'.1
theorem rS_add (hb : teK R tb) (h34 : tb + 7 < 34) (h300 : n ≤ 300) (hs : rS τ0 τ b n tb i sz) (hz : sz + 1 ≤ i) {s1 s2 s3 s4 : Int32} (h : ∀ τ', rS τ0 τ' b n tb i (sz + 1) → kpL tb sz τ τ' → τ' (tb + 1) sz = s1 → τ' (tb + 2) sz = s2 → τ' (tb + 3) sz = s3 → τ' (tb + 4) sz = s4 → (∀ k, k < tb ∨ tb + 7 < k → τ' k = τ k) → Q (some (.int (nI sz))) (cM c R M0 τ')) : xEv xP (xprim sa) (d + 1) m_Text_add [.ref (c + tb), .int s1, .int s2, .int s3, .int s4] (cM c R M0 τ) Q := by
  obtain ⟨h1, h2, h3, h4, h5, h6, h7, h8, h9, h10⟩ := hs
  have hin := tk_n h10
  refine t_Text_add ?_
  simp (disch := omega) only [↓i01, ↓i02, ↓xrI_mk, ↓xrV_mk, ↓xrL_mk, ↓xrR_mk, ↓gCo_0_0, ↓pCo_0_0, ↓gCo_1_0, ↓gCo_2_0, ↓gCo_3_0, ↓gCo_4_0, ↓gCo_5_0, ↓gCo_6_0, ↓gCo_7_0, ↓gCo_8_0, ↓gCo_9_0, ↓gCo_10_0, ↓pCo_10_0, ↓gCo_11_0, ↓pCo_11_0, ↓co_0', ↓gTa_0_34, ↓gTa_1_34, ↓pTa_1_34, ↓gTa_2_34, ↓pTa_2_34, ↓gTa_3_34, ↓pTa_3_34, ↓gTa_5_34, ↓pTa_5_34, ↓gTa_6_34, ↓pTa_6_34, ↓gTa_7_34, ↓pTa_7_34, ↓gTa_8_34, ↓pTa_8_34, ↓co_34', ↓gHa_0_36, ↓pHa_0_36, ↓gHa_1_36, ↓gHa_2_36, ↓gHa_3_36, ↓gHa_4_36, ↓gHa_5_36, ↓gHa_6_36, ↓co_36', ↓gTr_0_42, ↓pTr_0_42, ↓gTr_1_42, ↓gTr_2_42, ↓gTr_3_42, ↓gTr_4_42, ↓co_42', ↓gRu_0_62, ↓gRu_1_62, ↓gRu_2_62, ↓gRu_3_62, ↓gRu_4_62, ↓gRu_5_62, ↓gRu_6_62, ↓gRu_7_62, ↓gRu_8_62, ↓gRu_9_62, ↓gRu_10_62, ↓pRu_10_62, ↓gRu_11_62, ↓pRu_11_62, ↓gRu_12_62, ↓pRu_12_62, ↓co_62', ↓gFo_0_85, ↓pFo_0_85, ↓gFo_1_85, ↓gFo_2_85, ↓gFo_3_85, ↓gFo_4_85, ↓gFo_5_85, ↓pFo_5_85, ↓co_85', ↓gFo_0_90, ↓pFo_0_90, ↓gFo_1_90, ↓gFo_2_90, ↓gFo_3_90, ↓gFo_4_90, ↓gFo_5_90, ↓pFo_5_90, ↓co_90', ↓gFo_0_95, ↓pFo_0_95, ↓gFo_1_95, ↓gFo_2_95, ↓gFo_3_95, ↓gFo_4_95, ↓gFo_5_95, ↓pFo_5_95, ↓co_95', ↓gMo_0_54, ↓gMo_1_54, ↓gMo_2_54, ↓gMo_3_54, ↓pMo_3_54, ↓gMo_4_54, ↓pMo_4_54, ↓co_54', ↓gMo_0_58, ↓gMo_1_58, ↓gMo_2_58, ↓gMo_3_58, ↓pMo_3_58, ↓gMo_4_58, ↓pMo_4_58, ↓co_58', ↓gMo_0_100, ↓gMo_1_100, ↓gMo_2_100, ↓gMo_3_100, ↓pMo_3_100, ↓gMo_4_100, ↓pMo_4_100, ↓co_100', ↓gMo_0_104, ↓gMo_1_104, ↓gMo_2_104, ↓gMo_3_104, ↓pMo_3_104, ↓gMo_4_104, ↓pMo_4_104, ↓co_104', ↓gMo_0_128, ↓gMo_1_128, ↓gMo_2_128, ↓gMo_3_128, ↓pMo_3_128, ↓gMo_4_128, ↓pMo_4_128, ↓co_128', ↓gMo_0_306, ↓gMo_1_306, ↓gMo_2_306, ↓gMo_3_306, ↓pMo_3_306, ↓gMo_4_306, ↓pMo_4_306, ↓co_306', ↓gEl_0_108, ↓gEl_1_108, ↓gEl_2_108, ↓gEl_3_108, ↓gEl_4_108, ↓gEl_5_108, ↓gEl_6_108, ↓gEl_7_108, ↓pEl_7_108, ↓co_108', ↓gEl_0_120, ↓gEl_1_120, ↓gEl_2_120, ↓gEl_3_120, ↓gEl_4_120, ↓gEl_5_120, ↓gEl_6_120, ↓gEl_7_120, ↓pEl_7_120, ↓co_120', ↓gEl_0_298, ↓gEl_1_298, ↓gEl_2_298, ↓gEl_3_298, ↓gEl_4_298, ↓gEl_5_298, ↓gEl_6_298, ↓gEl_7_298, ↓pEl_7_298, ↓co_298', ↓gHe_0_116, ↓gHe_1_116, ↓gHe_2_116, ↓pHe_2_116, ↓gHe_3_116, ↓pHe_3_116, ↓co_116', ↓gHe_0_294, ↓gHe_1_294, ↓gHe_2_294, ↓pHe_2_294, ↓gHe_3_294, ↓pHe_3_294, ↓co_294', ↓gHe_0_472, ↓gHe_1_472, ↓gHe_2_472, ↓pHe_2_472, ↓gHe_3_472, ↓pHe_3_472, ↓co_472', ↓gWh_0_119, ↓gWh_1_119, ↓gWh_2_119, ↓gWh_3_119, ↓gWh_4_119, ↓pWh_4_119, ↓co_119', ↓gWh_0_297, ↓gWh_1_297, ↓gWh_2_297, ↓gWh_3_297, ↓gWh_4_297, ↓pWh_4_297, ↓co_297', ↓gPa_0_132, ↓gPa_1_132, ↓pPa_1_132, ↓gPa_2_132, ↓pPa_2_132, ↓co_132', ↓gPa_0_310, ↓gPa_1_310, ↓pPa_1_310, ↓gPa_2_310, ↓pPa_2_310, ↓co_310', ↓ca_35, ↓cs_35, ↓cl_35, ↓ca_37, ↓cs_37, ↓cl_37, ↓ca_38, ↓cs_38, ↓cl_38, ↓ca_39, ↓cs_39, ↓cl_39, ↓ca_40, ↓cs_40, ↓cl_40, ↓ca_83, ↓cs_83, ↓cl_83, ↓ca_84, ↓cs_84, ↓cl_84, ↓ca_55, ↓cs_55, ↓cl_55, ↓ca_56, ↓cs_56, ↓cl_56, ↓ca_57, ↓cs_57, ↓cl_57, ↓ca_59, ↓cs_59, ↓cl_59, ↓ca_60, ↓cs_60, ↓cl_60, ↓ca_61, ↓cs_61, ↓cl_61, ↓ca_101, ↓cs_101, ↓cl_101, ↓ca_102, ↓cs_102, ↓cl_102, ↓ca_103, ↓cs_103, ↓cl_103, ↓ca_105, ↓cs_105, ↓cl_105, ↓ca_106, ↓cs_106, ↓cl_106, ↓ca_107, ↓cs_107, ↓cl_107, ↓ca_129, ↓cs_129, ↓cl_129, ↓ca_130, ↓cs_130, ↓cl_130, ↓ca_131, ↓cs_131, ↓cl_131, ↓ca_307, ↓cs_307, ↓cl_307, ↓ca_308, ↓cs_308, ↓cl_308, ↓ca_309, ↓cs_309, ↓cl_309, ↓ca_109, ↓cs_109, ↓cl_109, ↓ca_110, ↓cs_110, ↓cl_110, ↓ca_111, ↓cs_111, ↓cl_111, ↓ca_112, ↓cs_112, ↓cl_112, ↓ca_121, ↓cs_121, ↓cl_121, ↓ca_122, ↓cs_122, ↓cl_122, ↓ca_123, ↓cs_123, ↓cl_123, ↓ca_124, ↓cs_124, ↓cl_124, ↓ca_299, ↓cs_299, ↓cl_299, ↓ca_300, ↓cs_300, ↓cl_300, ↓ca_301, ↓cs_301, ↓cl_301, ↓ca_302, ↓cs_302, ↓cl_302, ↓ca_117, ↓cs_117, ↓cl_117, ↓ca_118, ↓cs_118, ↓cl_118, ↓ca_295, ↓cs_295, ↓cl_295, ↓ca_296, ↓cs_296, ↓cl_296, ↓ca_473, ↓cs_473, ↓cl_473, ↓ca_474, ↓cs_474, ↓cl_474, ↓ca_86, ↓cs_86, ↓cl_86, ↓ca_87, ↓cs_87, ↓cl_87, ↓ca_88, ↓cs_88, ↓cl_88, ↓ca_89, ↓cs_89, ↓cl_89, ↓ca_91, ↓cs_91, ↓cl_91, ↓ca_92, ↓cs_92, ↓cl_92, ↓ca_93, ↓cs_93, ↓cl_93, ↓ca_94, ↓cs_94, ↓cl_94, ↓ca_96, ↓cs_96, ↓cl_96, ↓ca_97, ↓cs_97, ↓cl_97, ↓ca_98, ↓cs_98, ↓cl_98, ↓ca_99, ↓cs_99, ↓cl_99, ↓ca_41, ↓cs_41, ↓cl_41, ↓ca_113, ↓cs_113, ↓cl_113, ↓ca_114, ↓cs_114, ↓cl_114, ↓ca_115, ↓cs_115, ↓cl_115, ↓ca_125, ↓cs_125, ↓cl_125, ↓ca_126, ↓cs_126, ↓cl_126, ↓ca_127, ↓cs_127, ↓cl_127, ↓ca_303, ↓cs_303, ↓cl_303, ↓ca_304, ↓cs_304, ↓cl_304, ↓ca_305, ↓cs_305, ↓cl_305, cU_s, cU_n, cU_U, nI_add, nI_cl, vpi, i01, i02, i10, i11, ↓reduceIte, not_true_eq_false, not_false_eq_true, and_true, true_and, ne_eq, Nat.reduceAdd, Nat.reduceMul, Nat.reduceSub, Nat.reduceEqDiff, reduceCtorEq, Nat.add_zero, Nat.zero_add, n0p, ite_true, ite_false, if_true, if_false, nlT, nlF, nleT, nleF, neT, neF, n0F, n0T, pk_sub, pk_mul, nIm1, nIm2, nlZ, nleZ, upd_s, upd_n, pk_uLs, pk_uLn, nar_0, nar_1, nar_n0, nar_n1, ↓gTe_0 hb.1, ↓gTe_1 hb.1, ↓gTe_2 hb.1, ↓gTe_3 hb.1, ↓gTe_4 hb.1, ↓gTe_5 hb.1, ↓gTe_6 hb.1, ↓gTe_7 hb.1, ↓gTe_8 hb.1, ↓pTe_7 hb.1, ↓pTe_8 hb.1, ↓co_T hb.1 (by omega), ↓ca_I hb.2.1, ↓cs_I hb.2.1, ↓cl_I hb.2.1, ↓ca_I hb.2.2.1, ↓cs_I hb.2.2.1, ↓cl_I hb.2.2.1, ↓ca_I hb.2.2.2.1, ↓cs_I hb.2.2.2.1, ↓cl_I hb.2.2.2.1, ↓ca_I hb.2.2.2.2.1, ↓cs_I hb.2.2.2.2.1, ↓cl_I hb.2.2.2.2.1, ↓ca_I hb.2.2.2.2.2.1, ↓cs_I hb.2.2.2.2.2.1, ↓cl_I hb.2.2.2.2.2.1, ↓ca_I hb.2.2.2.2.2.2.1, ↓cs_I hb.2.2.2.2.2.2.1, ↓cl_I hb.2.2.2.2.2.2.1, ↓ca_I hb.2.2.2.2.2.2.2, ↓cs_I hb.2.2.2.2.2.2.2, ↓cl_I hb.2.2.2.2.2.2.2, h7]
  refine h _ ⟨fun k k1 k2 => ?_, fun k k1 k2 => ?_, ?_, ?_, ?_, ?_, ?_, hz, h9, h10⟩ (fun q q1 q2 y hy => ?_) ?_ ?_ ?_ ?_ (fun k hk => ?_)
  · rw [cU_n (by omega), cU_n (by omega), cU_n (by omega), cU_n (by omega), cU_n (by omega)]; exact h1 k k1 k2
  · rw [cU_n (by omega), cU_n (by omega), cU_n (by omega), cU_n (by omega), cU_n (by omega)]; exact h2 k k1 k2
  · refine ⟨by rw [cU_s, upd_n (by omega)]; exact h3.1, ?_, ?_⟩
    · rw [cU_n (by omega), cU_n (by omega), cU_n (by omega), cU_n (by omega), cU_n (by omega)]; exact h3.2.1
    · rw [cU_n (by omega), cU_n (by omega), cU_n (by omega), cU_n (by omega), cU_n (by omega)]; exact h3.2.2
  · unfold tpC
    rw [cU_n (by omega), cU_n (by omega), cU_n (by omega), cU_n (by omega), cU_n (by omega), cU_n (by omega), cU_n (by omega), cU_n (by omega), cU_n (by omega), cU_n (by omega)]
    exact h4
  · rw [cU_n (by omega), cU_n (by omega), cU_n (by omega), cU_n (by omega), cU_n (by omega)]; exact h5
  · unfold tcX
    rw [cU_n (by omega), cU_n (by omega), cU_n (by omega), cU_n (by omega), cU_n (by omega)]
    exact h6
  · rw [cU_s, upd_s]
  · rw [cU_n (by omega)]
    rcases (show q = 1 ∨ q = 2 ∨ q = 3 ∨ q = 4 by omega) with rfl | rfl | rfl | rfl
    · rw [cU_n (by omega), cU_n (by omega), cU_n (by omega), cU_s, upd_n (by omega)]
    · rw [cU_n (by omega), cU_n (by omega), cU_s, upd_n (by omega)]
    · rw [cU_n (by omega), cU_s, upd_n (by omega)]
    · rw [cU_s, upd_n (by omega)]
  · rw [cU_n (by omega), cU_n (by omega), cU_n (by omega), cU_n (by omega), cU_s, upd_s]
  · rw [cU_n (by omega), cU_n (by omega), cU_n (by omega), cU_s, upd_s]
  · rw [cU_n (by omega), cU_n (by omega), cU_s, upd_s]
  · rw [cU_n (by omega), cU_s, upd_s]
  · rw [cU_n (by omega), cU_n (by omega), cU_n (by omega), cU_n (by omega), cU_n (by omega)]
/-- the class's number of a token that a reading asks for -/
def tcN (t : Nat) : Nat := if t = 0 then 303 else if t = 1 then 300 else if t = 4 then 301 else if t = 5 then 302 else t
theorem tc_is {ct : Int32} {t v : Nat} (h : tcT ct t) (hv : v = 0 ∨ v = 1 ∨ v = 4 ∨ v = 5 ∨ knS v = true ∨ (400 ≤ v ∧ v < 418)) : (ct = nI (tcN v)) ↔ t = v := by
  obtain ⟨x, e, hx⟩ := h
  have kv : knS v = true → v < 256 ∧ v ≠ 0 ∧ v ≠ 1 ∧ v ≠ 4 ∧ v ≠ 5 ∧ v ≠ 3 := fun q => by have := knS_i.mp q; omega
  have kt : knS t = true → t < 256 ∧ t ≠ 0 ∧ t ≠ 1 ∧ t ≠ 4 ∧ t ≠ 5 ∧ t ≠ 3 := fun q => by have := knS_i.mp q; omega
  have hxs : x < 1000 := by
    rcases hx with q | q | q | q | q | q | q
    · omega
    · omega
    · omega
    · omega
    · omega
    · have := kt q.1; omega
    · omega
  have hvs : v < 1000 := by
    rcases hv with q | q | q | q | q | q
    · omega
    · omega
    · omega
    · omega
    · have := kv q; omega
    · omega
  have hN : (v = 0 ∧ tcN v = 303) ∨ (v = 1 ∧ tcN v = 300) ∨ (v = 4 ∧ tcN v = 301) ∨ (v = 5 ∧ tcN v = 302) ∨ (tcN v = v ∧ 400 ≤ v ∧ v < 418) ∨ (tcN v = v ∧ knS v = true) := by
    rcases hv with q | q | q | q | q | q
    · subst q; exact Or.inl ⟨rfl, rfl⟩
    · subst q; exact Or.inr (Or.inl ⟨rfl, rfl⟩)
    · subst q; exact Or.inr (Or.inr (Or.inl ⟨rfl, rfl⟩))
    · subst q; exact Or.inr (Or.inr (Or.inr (Or.inl ⟨rfl, rfl⟩)))
    · have := kv q
      refine Or.inr (Or.inr (Or.inr (Or.inr (Or.inr ⟨?_, q⟩))))
      unfold tcN
      rw [if_neg (by omega), if_neg (by omega), if_neg (by omega), if_neg (by omega)]
    · refine Or.inr (Or.inr (Or.inr (Or.inr (Or.inl ⟨?_, q⟩))))
      unfold tcN
      rw [if_neg (by omega), if_neg (by omega), if_neg (by omega), if_neg (by omega)]
  generalize tcN v = N at hN ⊢
  have hv2 : N < 1000 := by
    rcases hN with q | q | q | q | q | q
    · omega
    · omega
    · omega
    · omega
    · omega
    · have := kv q.2; omega
  rw [e, nI_eq (by omega) (by omega)]
  have kx : x = v → knS v = true → ¬ (knS x = false) := fun q q2 q3 => by rw [q, q2] at q3; exact nomatch q3
  by_cases k1 : knS v = true
  · have r1 := kv k1
    by_cases k2 : knS t = true
    · have r2 := kt k2
      omega
    · have kx' : x = v → ¬ (knS x = false) := fun q => kx q k1
      by_cases k3 : x = v
      · have := kx' k3
        rcases hx with q | q | q | q | q | q | q
        · omega
        · omega
        · omega
        · omega
        · omega
        · exact absurd q.1 k2
        · rcases q.2 with q2 | q2
          · omega
          · exact absurd q2.2 this
      · have k4 : t ≠ v := fun q => k2 (by rw [q]; exact k1)
        constructor
        · intro q; omega
        · intro q; exact absurd q k4
  · have k5 : ¬ (N = v ∧ knS v = true) := fun q => k1 q.2
    by_cases k2 : knS t = true
    · have r2 := kt k2
      have k4 : t ≠ v := fun q => k1 (by rw [← q]; exact k2)
      omega
    · have k6 : (t = 0 ∧ x = 303) ∨ (t = 1 ∧ x = 300) ∨ (t = 4 ∧ x = 301) ∨ (t = 5 ∧ x = 302) ∨ (400 ≤ t ∧ t < 418 ∧ x = t) ∨ (t = 3 ∧ (x = 304 ∨ x < 256)) := by
        rcases hx with q | q | q | q | q | q | q
        · exact Or.inl q
        · exact Or.inr (Or.inl q)
        · exact Or.inr (Or.inr (Or.inl q))
        · exact Or.inr (Or.inr (Or.inr (Or.inl q)))
        · exact Or.inr (Or.inr (Or.inr (Or.inr (Or.inl q))))
        · exact absurd q.1 k2
        · refine Or.inr (Or.inr (Or.inr (Or.inr (Or.inr ⟨q.1, ?_⟩))))
          rcases q.2 with q2 | q2
          · exact Or.inl q2
          · exact Or.inr q2.1
      clear hx kx
      rcases hN with q | q | q | q | q | q
      · omega
      · omega
      · omega
      · omega
      · omega
      · exact absurd q.2 k1
end TB
