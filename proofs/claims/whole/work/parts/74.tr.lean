/-! the class reads trees -/
/-- a method of the class that reads as mode m does -/
def RM (sa : Nat → Nat) (c R : Nat) (M0 : xM) (τ0 : cS) (b : Nat → Nat) (n tb f m mm rk : Nat) : Prop := ∀ (o i sz D : Nat) (t : Term) (τ : cS) (Q : xQ), o ≤ 8 → 6 + 8 * (8 - o) + rk ≤ D → 10 * (n + 1 - i) + (9 - m) < f → rS τ0 τ b n tb i sz →
  (∀ e j τ', ps (tkT b n) (tkV b n) f m o i t = .inl (e, j) → fF tb τ0 τ' → τ' 34 1 = nI n → τ' 34 2 = nI e → τ' 34 3 = nI (tkP b n j) → Q (some (.int (-1))) (cM c R M0 τ')) →
  (∀ t' j τ', ps (tkT b n) (tkV b n) f m o i t = .inr (t', j) → rS τ0 τ' b n tb j (sz + cs t') → kpL tb sz τ τ' → ccT τ' tb t' sz → Q (some (.int (nI (sz + cs t' - 1)))) (cM c R M0 τ')) → xEv xP (xprim sa) D mm [.ref (c + 34), .int (nI o)] (cM c R M0 τ) Q
section TR
variable {sa : Nat → Nat} {d : Nat} {Q : xQ} {c R : Nat} {M0 M : xM} {τ τ0 : cS} {b : Nat → Nat} {n tb i sz : Nat}
theorem rS_pass (hS : stR sa c M0) (h34 : tb + 7 < 34) {v : Nat} (hv : knS v = true ∨ (400 ≤ v ∧ v < 418)) (hs : rS τ0 τ b n tb i sz) (h0 : tkT b n i ≠ v → ∀ τ', fF tb τ0 τ' → τ' 34 1 = nI n → τ' 34 2 = nI 1 → τ' 34 3 = nI (tkP b n i) → Q (some (.int 0)) (cM c R M0 τ')) (h1 : tkT b n i = v → ∀ τ', rS τ0 τ' b n tb (i + 1) sz → (∀ k, k ≠ 34 → τ' k = τ k) → Q (some (.int 1)) (cM c R M0 τ')) : xEv xP (xprim sa) (d + 5) m_Tape_isPassed [.ref (c + 34), .int (nI v)] (cM c R M0 τ) Q := by
  have hv0 : v ≠ 0 ∧ tcN v = v := by
    rcases hv with q | q
    · have := knS_i.mp q
      refine ⟨by omega, ?_⟩
      unfold tcN
      rw [if_neg (by omega), if_neg (by omega), if_neg (by omega), if_neg (by omega)]
    · refine ⟨by omega, ?_⟩
      unfold tcN
      rw [if_neg (by omega), if_neg (by omega), if_neg (by omega), if_neg (by omega)]
  have hi := tc_is (v := v) hs.2.2.2.2.2.1.1 (by rcases hv with q | q; exact Or.inr (Or.inr (Or.inr (Or.inr (Or.inl q)))); exact Or.inr (Or.inr (Or.inr (Or.inr (Or.inr q)))))
  rw [hv0.2] at hi
  refine t_Tape_isPassed ?_
  simp (disch := omega) only [↓i01, ↓i02, ↓xrI_mk, ↓xrV_mk, ↓xrL_mk, ↓xrR_mk, ↓gCo_0_0, ↓pCo_0_0, ↓gCo_1_0, ↓gCo_2_0, ↓gCo_3_0, ↓gCo_4_0, ↓gCo_5_0, ↓gCo_6_0, ↓gCo_7_0, ↓gCo_8_0, ↓gCo_9_0, ↓gCo_10_0, ↓pCo_10_0, ↓gCo_11_0, ↓pCo_11_0, ↓co_0', ↓gTa_0_34, ↓gTa_1_34, ↓pTa_1_34, ↓gTa_2_34, ↓pTa_2_34, ↓gTa_3_34, ↓pTa_3_34, ↓gTa_5_34, ↓pTa_5_34, ↓gTa_6_34, ↓pTa_6_34, ↓gTa_7_34, ↓pTa_7_34, ↓gTa_8_34, ↓pTa_8_34, ↓co_34', ↓gHa_0_36, ↓pHa_0_36, ↓gHa_1_36, ↓gHa_2_36, ↓gHa_3_36, ↓gHa_4_36, ↓gHa_5_36, ↓gHa_6_36, ↓co_36', ↓gTr_0_42, ↓pTr_0_42, ↓gTr_1_42, ↓gTr_2_42, ↓gTr_3_42, ↓gTr_4_42, ↓co_42', ↓gRu_0_62, ↓gRu_1_62, ↓gRu_2_62, ↓gRu_3_62, ↓gRu_4_62, ↓gRu_5_62, ↓gRu_6_62, ↓gRu_7_62, ↓gRu_8_62, ↓gRu_9_62, ↓gRu_10_62, ↓pRu_10_62, ↓gRu_11_62, ↓pRu_11_62, ↓gRu_12_62, ↓pRu_12_62, ↓co_62', ↓gFo_0_85, ↓pFo_0_85, ↓gFo_1_85, ↓gFo_2_85, ↓gFo_3_85, ↓gFo_4_85, ↓gFo_5_85, ↓pFo_5_85, ↓co_85', ↓gFo_0_90, ↓pFo_0_90, ↓gFo_1_90, ↓gFo_2_90, ↓gFo_3_90, ↓gFo_4_90, ↓gFo_5_90, ↓pFo_5_90, ↓co_90', ↓gFo_0_95, ↓pFo_0_95, ↓gFo_1_95, ↓gFo_2_95, ↓gFo_3_95, ↓gFo_4_95, ↓gFo_5_95, ↓pFo_5_95, ↓co_95', ↓gMo_0_54, ↓gMo_1_54, ↓gMo_2_54, ↓gMo_3_54, ↓pMo_3_54, ↓gMo_4_54, ↓pMo_4_54, ↓co_54', ↓gMo_0_58, ↓gMo_1_58, ↓gMo_2_58, ↓gMo_3_58, ↓pMo_3_58, ↓gMo_4_58, ↓pMo_4_58, ↓co_58', ↓gMo_0_100, ↓gMo_1_100, ↓gMo_2_100, ↓gMo_3_100, ↓pMo_3_100, ↓gMo_4_100, ↓pMo_4_100, ↓co_100', ↓gMo_0_104, ↓gMo_1_104, ↓gMo_2_104, ↓gMo_3_104, ↓pMo_3_104, ↓gMo_4_104, ↓pMo_4_104, ↓co_104', ↓gMo_0_128, ↓gMo_1_128, ↓gMo_2_128, ↓gMo_3_128, ↓pMo_3_128, ↓gMo_4_128, ↓pMo_4_128, ↓co_128', ↓gMo_0_306, ↓gMo_1_306, ↓gMo_2_306, ↓gMo_3_306, ↓pMo_3_306, ↓gMo_4_306, ↓pMo_4_306, ↓co_306', ↓gEl_0_108, ↓gEl_1_108, ↓gEl_2_108, ↓gEl_3_108, ↓gEl_4_108, ↓gEl_5_108, ↓gEl_6_108, ↓gEl_7_108, ↓pEl_7_108, ↓co_108', ↓gEl_0_120, ↓gEl_1_120, ↓gEl_2_120, ↓gEl_3_120, ↓gEl_4_120, ↓gEl_5_120, ↓gEl_6_120, ↓gEl_7_120, ↓pEl_7_120, ↓co_120', ↓gEl_0_298, ↓gEl_1_298, ↓gEl_2_298, ↓gEl_3_298, ↓gEl_4_298, ↓gEl_5_298, ↓gEl_6_298, ↓gEl_7_298, ↓pEl_7_298, ↓co_298', ↓gHe_0_116, ↓gHe_1_116, ↓gHe_2_116, ↓pHe_2_116, ↓gHe_3_116, ↓pHe_3_116, ↓co_116', ↓gHe_0_294, ↓gHe_1_294, ↓gHe_2_294, ↓pHe_2_294, ↓gHe_3_294, ↓pHe_3_294, ↓co_294', ↓gHe_0_472, ↓gHe_1_472, ↓gHe_2_472, ↓pHe_2_472, ↓gHe_3_472, ↓pHe_3_472, ↓co_472', ↓gWh_0_119, ↓gWh_1_119, ↓gWh_2_119, ↓gWh_3_119, ↓gWh_4_119, ↓pWh_4_119, ↓co_119', ↓gWh_0_297, ↓gWh_1_297, ↓gWh_2_297, ↓gWh_3_297, ↓gWh_4_297, ↓pWh_4_297, ↓co_297', ↓gPa_0_132, ↓gPa_1_132, ↓pPa_1_132, ↓gPa_2_132, ↓pPa_2_132, ↓co_132', ↓gPa_0_310, ↓gPa_1_310, ↓pPa_1_310, ↓gPa_2_310, ↓pPa_2_310, ↓co_310', ↓ca_35, ↓cs_35, ↓cl_35, ↓ca_37, ↓cs_37, ↓cl_37, ↓ca_38, ↓cs_38, ↓cl_38, ↓ca_39, ↓cs_39, ↓cl_39, ↓ca_40, ↓cs_40, ↓cl_40, ↓ca_83, ↓cs_83, ↓cl_83, ↓ca_84, ↓cs_84, ↓cl_84, ↓ca_55, ↓cs_55, ↓cl_55, ↓ca_56, ↓cs_56, ↓cl_56, ↓ca_57, ↓cs_57, ↓cl_57, ↓ca_59, ↓cs_59, ↓cl_59, ↓ca_60, ↓cs_60, ↓cl_60, ↓ca_61, ↓cs_61, ↓cl_61, ↓ca_101, ↓cs_101, ↓cl_101, ↓ca_102, ↓cs_102, ↓cl_102, ↓ca_103, ↓cs_103, ↓cl_103, ↓ca_105, ↓cs_105, ↓cl_105, ↓ca_106, ↓cs_106, ↓cl_106, ↓ca_107, ↓cs_107, ↓cl_107, ↓ca_129, ↓cs_129, ↓cl_129, ↓ca_130, ↓cs_130, ↓cl_130, ↓ca_131, ↓cs_131, ↓cl_131, ↓ca_307, ↓cs_307, ↓cl_307, ↓ca_308, ↓cs_308, ↓cl_308, ↓ca_309, ↓cs_309, ↓cl_309, ↓ca_109, ↓cs_109, ↓cl_109, ↓ca_110, ↓cs_110, ↓cl_110, ↓ca_111, ↓cs_111, ↓cl_111, ↓ca_112, ↓cs_112, ↓cl_112, ↓ca_121, ↓cs_121, ↓cl_121, ↓ca_122, ↓cs_122, ↓cl_122, ↓ca_123, ↓cs_123, ↓cl_123, ↓ca_124, ↓cs_124, ↓cl_124, ↓ca_299, ↓cs_299, ↓cl_299, ↓ca_300, ↓cs_300, ↓cl_300, ↓ca_301, ↓cs_301, ↓cl_301, ↓ca_302, ↓cs_302, ↓cl_302, ↓ca_117, ↓cs_117, ↓cl_117, ↓ca_118, ↓cs_118, ↓cl_118, ↓ca_295, ↓cs_295, ↓cl_295, ↓ca_296, ↓cs_296, ↓cl_296, ↓ca_473, ↓cs_473, ↓cl_473, ↓ca_474, ↓cs_474, ↓cl_474, ↓ca_86, ↓cs_86, ↓cl_86, ↓ca_87, ↓cs_87, ↓cl_87, ↓ca_88, ↓cs_88, ↓cl_88, ↓ca_89, ↓cs_89, ↓cl_89, ↓ca_91, ↓cs_91, ↓cl_91, ↓ca_92, ↓cs_92, ↓cl_92, ↓ca_93, ↓cs_93, ↓cl_93, ↓ca_94, ↓cs_94, ↓cl_94, ↓ca_96, ↓cs_96, ↓cl_96, ↓ca_97, ↓cs_97, ↓cl_97, ↓ca_98, ↓cs_98, ↓cl_98, ↓ca_99, ↓cs_99, ↓cl_99, ↓ca_41, ↓cs_41, ↓cl_41, ↓ca_113, ↓cs_113, ↓cl_113, ↓ca_114, ↓cs_114, ↓cl_114, ↓ca_115, ↓cs_115, ↓cl_115, ↓ca_125, ↓cs_125, ↓cl_125, ↓ca_126, ↓cs_126, ↓cl_126, ↓ca_127, ↓cs_127, ↓cl_127, ↓ca_303, ↓cs_303, ↓cl_303, ↓ca_304, ↓cs_304, ↓cl_304, ↓ca_305, ↓cs_305, ↓cl_305, cU_s, cU_n, cU_U, nI_add, nI_cl, vpi, i01, i02, i10, i11, ↓reduceIte, not_true_eq_false, not_false_eq_true, and_true, true_and, ne_eq, Nat.reduceAdd, Nat.reduceMul, Nat.reduceSub, Nat.reduceEqDiff, reduceCtorEq, Nat.add_zero, Nat.zero_add, n0p, ite_true, ite_false, if_true, if_false, nlT, nlF, nleT, nleF, neT, neF, n0F, n0T, pk_sub, pk_mul, nIm1, nIm2, nlZ, nleZ, upd_s, upd_n, pk_uLs, pk_uLn, nar_0, nar_1, nar_n0, nar_n1]
  by_cases e : tkT b n i = v
  · rw [if_pos (hi.mpr e)]
    refine rS_next hS hs h34 (by omega) (fun τ' r' _ f' => ?_)
    rw [xrV_mk]
    exact h1 e τ' r' f'
  · rw [if_neg (fun q => e (hi.mp q))]
    refine c_Ta_wrong hs h34 (fun τ' f1 f2 f3 f4 => ?_)
    rw [xrI_mk]
    exact h0 e τ' f1 f2 f3 f4
theorem g_made {τ : cS} (h : τ 34 4 = nI tb) (h34 : tb + 7 < 34) {K : Nat → Prop} : xgfR (cM c R M0 τ) (c + 34) 7 4 K = K (c + tb) := gTa_4 o_34 h (by omega)
theorem c_Ta_pairE {k : Int32} {l : Int32} (h : Q (some (.int (-1))) M) : xEv xP (xprim sa) (d + 1) m_Tape_pair [.ref (c + 34), .int k, .int l, .int (-1)] M Q := by
  refine t_Tape_pair ?_
  rw [if_neg (not_not_intro rfl)]
  exact h
/-- an operation behind its left side: the sign is passed, the right side read, the step made -/
theorem lp_step (hS : stR sa c M0) (hb : teK R tb) (h34 : tb + 7 < 34) (h300 : n ≤ 300) {f m' mm rk o D : Nat} {t t0 : Term} {k : Nat} {C : Int32 → xM → Prop} (hm9 : m' ≤ 9) (hlm : lmB m' = false) (hR : RM sa c R M0 τ0 b n tb f m' mm rk) (ho : o ≤ 8) (hD : 6 + 8 * (8 - o) + rk ≤ D) (hf : 10 * (n + 1 - (i + 1)) + (9 - m') < f) (hcc : ccT τ tb t sz) (hs : rS τ0 τ b n tb i (sz + cs t)) (ht : tkT b n i ≠ 0)
    (hE : ∀ e j τ', ps (tkT b n) (tkV b n) f m' o (i + 1) t0 = .inl (e, j) → fF tb τ0 τ' → τ' 34 1 = nI n → τ' 34 2 = nI e → τ' 34 3 = nI (tkP b n j) → C (-1) (cM c R M0 τ'))
    (hO : ∀ t' j τ', ps (tkT b n) (tkV b n) f m' o (i + 1) t0 = .inr (t', j) → i + 1 < j → wf t' (decide (m' < 5)) → rS τ0 τ' b n tb j (sz + cs (tB k t t')) → kpL tb sz τ τ' → ccT τ' tb (tB k t t') sz → C (nI (sz + cs (tB k t t') - 1)) (cM c R M0 τ')) :
    xEv xP (xprim sa) D m_Tape_next [.ref (c + 34)] (cM c R M0 τ) (xrV fun M1 => xobj M1 (c + 34) 7 ∧ xEv xP (xprim sa) D mm [.ref (c + 34), .int (nI o)] M1 (xrI fun r1 M2 => xobj M2 (c + 34) 7 ∧ xEv xP (xprim sa) D m_Tape_pair [.ref (c + 34), .int (nI (opC k)), .int (nI (sz + cs t - 1)), .int r1] M2 (xrI fun r2 M3 => C r2 M3))) := by
  obtain ⟨e, rfl⟩ : ∃ e, D = e + 4 := ⟨D - 4, by omega⟩
  refine rS_next hS hs h34 ht (fun τ1 r1 k1 f1 => ?_)
  rw [xrV_mk]
  refine ⟨co_34, hR o (i + 1) (sz + cs t) (e + 4) t0 τ1 _ ho hD hf r1 (fun e' j τ' q1 q2 q3 q4 q5 => ?_) (fun t' j τ' q1 q2 q3 q4 => ?_)⟩
  · rw [xrI_mk]
    exact ⟨co_34, c_Ta_pairE (by rw [xrI_mk]; exact hE e' j τ' q1 q2 q3 q4 q5)⟩
  · rw [xrI_mk]
    have G := ps_G (tk := tkT b n) (tv := tkV b n) (tp := tkP b n) (n := n) (fun i h ht => tk_i h ht) (fun i h => tk_n h) f m' o (i + 1) t0 hm9 r1.2.2.2.2.2.2.2.2.2 hf (fun q => by rw [hlm] at q; exact nomatch q)
    rw [q1] at G
    obtain ⟨G1, G2, G3, G4, G5⟩ := G
    rw [hlm] at G5
    have hj := G2 hlm
    have hsz := hs.2.2.2.2.2.2.2.1
    have hjn := tk_n G3
    have G5 : cs t' + (i + 1) ≤ 0 + j := G5
    refine ⟨co_34, t_Tape_pair ?_⟩
    rw [if_pos (nI_m1 (by omega))]
    rw [g_made q2.2.2.2.2.1 h34]
    have hob : obK tb 8 := hb.1
    refine ⟨(co_T hob (by omega)) ▸ trivial, rS_add hb h34 h300 q2 (by omega) (fun τ2 r2 k2 a1 a2 a3 a4 f2 => ?_)⟩
    rw [xrI_mk, xrI_mk]
    have e1 : sz + cs (tB k t t') = sz + cs t + cs t' + 1 := by rw [cs_B]; omega
    have e2 : sz + cs (tB k t t') - 1 = sz + cs t + cs t' := by omega
    have := hO t' j τ2 q1 hj G4 (by rw [e1]; exact r2) (kpL_t (kpL_w k1 (by omega)) (kpL_t (kpL_w q3 (by omega)) (kpL_w k2 (by omega)))) ?_
    · rw [e2] at this
      exact this
    · refine ⟨ccT_k t sz (fun q u1 u2 y hy => ?_) hcc, ccT_k t' (sz + cs t) (fun q u1 u2 y hy => k2 q u1 u2 y hy) q4, a1, a2, a3⟩
      rw [k2 q u1 u2 y (by omega), q3 q u1 u2 y hy]
      exact k1 q u1 u2 y hy
end TR
