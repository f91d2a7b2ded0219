/-! the class reads one: numbers, names, brackets, opposites, choices -/
theorem ccT_k2 {τ τ' : cS} {b : Nat} : ∀ (t : Term) (x : Nat), (∀ q, 1 ≤ q → q ≤ 4 → ∀ y, x ≤ y → y < x + cs t → τ' (b + q) y = τ (b + q) y) → ccT τ b t x → ccT τ' b t x
  | .int v, x, h, hc => by
    unfold ccT at hc ⊢
    rw [h 1 (by omega) (by omega) x (Nat.le_refl x) (by show x < x + 1; omega), h 2 (by omega) (by omega) x (Nat.le_refl x) (by show x < x + 1; omega)]
    exact hc
  | .arg i, x, h, hc => by
    unfold ccT at hc ⊢
    rw [h 1 (by omega) (by omega) x (Nat.le_refl x) (by show x < x + 1; omega)]
    exact hc
  | .sub (.index k) a, x, h, hc => by
    unfold ccT at hc ⊢
    have e : cs (.sub (.index k) a) = cs a + 1 := rfl
    rw [h 1 (by omega) (by omega) (x + cs a) (by omega) (by omega), h 2 (by omega) (by omega) (x + cs a) (by omega) (by omega)]
    exact ⟨ccT_k2 a x (fun q q1 q2 y hl hy => h q q1 q2 y (by omega) (by omega)) hc.1, hc.2⟩
  | .add (.index k) (.elem a y), x, h, hc => by
    unfold ccT at hc ⊢
    have e : cs (.add (.index k) (.elem a y)) = cs a + cs y + 1 := rfl
    rw [h 1 (by omega) (by omega) (x + cs a + cs y) (by omega) (by omega), h 2 (by omega) (by omega) (x + cs a + cs y) (by omega) (by omega), h 3 (by omega) (by omega) (x + cs a + cs y) (by omega) (by omega)]
    exact ⟨ccT_k2 a x (fun q q1 q2 z hl hz => h q q1 q2 z (by omega) (by omega)) hc.1, ccT_k2 y (x + cs a) (fun q q1 q2 z hl hz => h q q1 q2 z (by omega) (by omega)) hc.2.1, hc.2.2⟩
  | .mul u (.elem a y), x, h, hc => by
    unfold ccT at hc ⊢
    have e : cs (.mul u (.elem a y)) = cs u + cs a + cs y + 3 := rfl
    rw [h 1 (by omega) (by omega) (x + cs u) (by omega) (by omega), h 2 (by omega) (by omega) (x + cs u) (by omega) (by omega), h 3 (by omega) (by omega) (x + cs u) (by omega) (by omega), h 1 (by omega) (by omega) (x + cs u + 1 + cs a) (by omega) (by omega), h 3 (by omega) (by omega) (x + cs u + 1 + cs a) (by omega) (by omega), h 1 (by omega) (by omega) (x + cs u + 1 + cs a + 1 + cs y) (by omega) (by omega), h 2 (by omega) (by omega) (x + cs u + 1 + cs a + 1 + cs y) (by omega) (by omega), h 3 (by omega) (by omega) (x + cs u + 1 + cs a + 1 + cs y) (by omega) (by omega), h 4 (by omega) (by omega) (x + cs u + 1 + cs a + 1 + cs y) (by omega) (by omega)]
    exact ⟨ccT_k2 u x (fun q q1 q2 z hl hz => h q q1 q2 z (by omega) (by omega)) hc.1, hc.2.1, ccT_k2 a (x + cs u + 1) (fun q q1 q2 z hl hz => h q q1 q2 z (by omega) (by omega)) hc.2.2.1, hc.2.2.2.1, ccT_k2 y (x + cs u + 1 + cs a + 1) (fun q q1 q2 z hl hz => h q q1 q2 z (by omega) (by omega)) hc.2.2.2.2.1, hc.2.2.2.2.2⟩
  | .sub (.int _) _, _, _, hc => hc.elim
theorem nvS_le {b : Nat → Nat} : ∀ (m x v : Nat), v ≤ 99999 → nvS b m x v ≤ 99999
  | 0, _, _, h => h
  | m + 1, x, v, h => by
    show (if isDg (b x) = true then nvS b m (x + 1) (if 9999 < v then v else v * 10 + (b x - 48)) else v) ≤ 99999
    by_cases e : isDg (b x) = true
    · rw [if_pos e]
      have := isDg_i.mp e
      refine nvS_le m (x + 1) _ ?_
      split <;> omega
    · rw [if_neg e]; exact h
theorem lxT_v {b : Nat → Nat} {n p : Nat} : (lxT b n p).2.2.2 ≤ 99999 := by
  unfold lxT
  repeat' split
  all_goals first | exact nvS_le _ _ _ (Nat.zero_le _) | exact Nat.zero_le _
theorem tkV_le {b : Nat → Nat} {n : Nat} : ∀ i, tkV b n i ≤ 99999
  | 0 => lxT_v
  | i + 1 => lxT_v
section TO
variable {sa : Nat → Nat} {d : Nat} {Q : xQ} {c R : Nat} {M0 M : xM} {τ τ0 : cS} {b : Nat → Nat} {n tb i sz : Nat}
theorem rS_skip (hb : teK R tb) (h34 : tb + 7 < 34) (h300 : n ≤ 300) (hs : rS τ0 τ b n tb i sz) {st : Nat} (hst : st < sz) {v : Int32} (h : ∀ τ', rS τ0 τ' b n tb i sz → τ' (tb + 3) st = v → (∀ y, y ≠ st → τ' (tb + 3) y = τ (tb + 3) y) → (∀ k, k ≠ tb + 3 → τ' k = τ k) → Q none (cM c R M0 τ')) : xEv xP (xprim sa) (d + 1) m_Text_skipFrom [.ref (c + tb), .int (nI st), .int v] (cM c R M0 τ) Q := by
  obtain ⟨h1, h2, h3, h4, h5, h6, h7, h8, h9, h10⟩ := hs
  have hin := tk_n h10
  refine t_Text_skipFrom ?_
  rw [if_neg (nI_lt_0 (by omega))]
  simp (disch := omega) only [↓i01, ↓i02, ↓xrI_mk, ↓xrV_mk, ↓xrL_mk, ↓xrR_mk, ↓gCo_0_0, ↓pCo_0_0, ↓gCo_1_0, ↓gCo_2_0, ↓gCo_3_0, ↓gCo_4_0, ↓gCo_5_0, ↓gCo_6_0, ↓gCo_7_0, ↓gCo_8_0, ↓gCo_9_0, ↓gCo_10_0, ↓pCo_10_0, ↓gCo_11_0, ↓pCo_11_0, ↓co_0', ↓gTa_0_34, ↓gTa_1_34, ↓pTa_1_34, ↓gTa_2_34, ↓pTa_2_34, ↓gTa_3_34, ↓pTa_3_34, ↓gTa_5_34, ↓pTa_5_34, ↓gTa_6_34, ↓pTa_6_34, ↓gTa_7_34, ↓pTa_7_34, ↓gTa_8_34, ↓pTa_8_34, ↓co_34', ↓gHa_0_36, ↓pHa_0_36, ↓gHa_1_36, ↓gHa_2_36, ↓gHa_3_36, ↓gHa_4_36, ↓gHa_5_36, ↓gHa_6_36, ↓co_36', ↓gTr_0_42, ↓pTr_0_42, ↓gTr_1_42, ↓gTr_2_42, ↓gTr_3_42, ↓gTr_4_42, ↓co_42', ↓gRu_0_62, ↓gRu_1_62, ↓gRu_2_62, ↓gRu_3_62, ↓gRu_4_62, ↓gRu_5_62, ↓gRu_6_62, ↓gRu_7_62, ↓gRu_8_62, ↓gRu_9_62, ↓gRu_10_62, ↓pRu_10_62, ↓gRu_11_62, ↓pRu_11_62, ↓gRu_12_62, ↓pRu_12_62, ↓co_62', ↓gFo_0_85, ↓pFo_0_85, ↓gFo_1_85, ↓gFo_2_85, ↓gFo_3_85, ↓gFo_4_85, ↓gFo_5_85, ↓pFo_5_85, ↓co_85', ↓gFo_0_90, ↓pFo_0_90, ↓gFo_1_90, ↓gFo_2_90, ↓gFo_3_90, ↓gFo_4_90, ↓gFo_5_90, ↓pFo_5_90, ↓co_90', ↓gFo_0_95, ↓pFo_0_95, ↓gFo_1_95, ↓gFo_2_95, ↓gFo_3_95, ↓gFo_4_95, ↓gFo_5_95, ↓pFo_5_95, ↓co_95', ↓gMo_0_54, ↓gMo_1_54, ↓gMo_2_54, ↓gMo_3_54, ↓pMo_3_54, ↓gMo_4_54, ↓pMo_4_54, ↓co_54', ↓gMo_0_58, ↓gMo_1_58, ↓gMo_2_58, ↓gMo_3_58, ↓pMo_3_58, ↓gMo_4_58, ↓pMo_4_58, ↓co_58', ↓gMo_0_100, ↓gMo_1_100, ↓gMo_2_100, ↓gMo_3_100, ↓pMo_3_100, ↓gMo_4_100, ↓pMo_4_100, ↓co_100', ↓gMo_0_104, ↓gMo_1_104, ↓gMo_2_104, ↓gMo_3_104, ↓pMo_3_104, ↓gMo_4_104, ↓pMo_4_104, ↓co_104', ↓gMo_0_128, ↓gMo_1_128, ↓gMo_2_128, ↓gMo_3_128, ↓pMo_3_128, ↓gMo_4_128, ↓pMo_4_128, ↓co_128', ↓gMo_0_306, ↓gMo_1_306, ↓gMo_2_306, ↓gMo_3_306, ↓pMo_3_306, ↓gMo_4_306, ↓pMo_4_306, ↓co_306', ↓gEl_0_108, ↓gEl_1_108, ↓gEl_2_108, ↓gEl_3_108, ↓gEl_4_108, ↓gEl_5_108, ↓gEl_6_108, ↓gEl_7_108, ↓pEl_7_108, ↓co_108', ↓gEl_0_120, ↓gEl_1_120, ↓gEl_2_120, ↓gEl_3_120, ↓gEl_4_120, ↓gEl_5_120, ↓gEl_6_120, ↓gEl_7_120, ↓pEl_7_120, ↓co_120', ↓gEl_0_298, ↓gEl_1_298, ↓gEl_2_298, ↓gEl_3_298, ↓gEl_4_298, ↓gEl_5_298, ↓gEl_6_298, ↓gEl_7_298, ↓pEl_7_298, ↓co_298', ↓gHe_0_116, ↓gHe_1_116, ↓gHe_2_116, ↓pHe_2_116, ↓gHe_3_116, ↓pHe_3_116, ↓co_116', ↓gHe_0_294, ↓gHe_1_294, ↓gHe_2_294, ↓pHe_2_294, ↓gHe_3_294, ↓pHe_3_294, ↓co_294', ↓gHe_0_472, ↓gHe_1_472, ↓gHe_2_472, ↓pHe_2_472, ↓gHe_3_472, ↓pHe_3_472, ↓co_472', ↓gWh_0_119, ↓gWh_1_119, ↓gWh_2_119, ↓gWh_3_119, ↓gWh_4_119, ↓pWh_4_119, ↓co_119', ↓gWh_0_297, ↓gWh_1_297, ↓gWh_2_297, ↓gWh_3_297, ↓gWh_4_297, ↓pWh_4_297, ↓co_297', ↓gPa_0_132, ↓gPa_1_132, ↓pPa_1_132, ↓gPa_2_132, ↓pPa_2_132, ↓co_132', ↓gPa_0_310, ↓gPa_1_310, ↓pPa_1_310, ↓gPa_2_310, ↓pPa_2_310, ↓co_310', ↓ca_35, ↓cs_35, ↓cl_35, ↓ca_37, ↓cs_37, ↓cl_37, ↓ca_38, ↓cs_38, ↓cl_38, ↓ca_39, ↓cs_39, ↓cl_39, ↓ca_40, ↓cs_40, ↓cl_40, ↓ca_83, ↓cs_83, ↓cl_83, ↓ca_84, ↓cs_84, ↓cl_84, ↓ca_55, ↓cs_55, ↓cl_55, ↓ca_56, ↓cs_56, ↓cl_56, ↓ca_57, ↓cs_57, ↓cl_57, ↓ca_59, ↓cs_59, ↓cl_59, ↓ca_60, ↓cs_60, ↓cl_60, ↓ca_61, ↓cs_61, ↓cl_61, ↓ca_101, ↓cs_101, ↓cl_101, ↓ca_102, ↓cs_102, ↓cl_102, ↓ca_103, ↓cs_103, ↓cl_103, ↓ca_105, ↓cs_105, ↓cl_105, ↓ca_106, ↓cs_106, ↓cl_106, ↓ca_107, ↓cs_107, ↓cl_107, ↓ca_129, ↓cs_129, ↓cl_129, ↓ca_130, ↓cs_130, ↓cl_130, ↓ca_131, ↓cs_131, ↓cl_131, ↓ca_307, ↓cs_307, ↓cl_307, ↓ca_308, ↓cs_308, ↓cl_308, ↓ca_309, ↓cs_309, ↓cl_309, ↓ca_109, ↓cs_109, ↓cl_109, ↓ca_110, ↓cs_110, ↓cl_110, ↓ca_111, ↓cs_111, ↓cl_111, ↓ca_112, ↓cs_112, ↓cl_112, ↓ca_121, ↓cs_121, ↓cl_121, ↓ca_122, ↓cs_122, ↓cl_122, ↓ca_123, ↓cs_123, ↓cl_123, ↓ca_124, ↓cs_124, ↓cl_124, ↓ca_299, ↓cs_299, ↓cl_299, ↓ca_300, ↓cs_300, ↓cl_300, ↓ca_301, ↓cs_301, ↓cl_301, ↓ca_302, ↓cs_302, ↓cl_302, ↓ca_117, ↓cs_117, ↓cl_117, ↓ca_118, ↓cs_118, ↓cl_118, ↓ca_295, ↓cs_295, ↓cl_295, ↓ca_296, ↓cs_296, ↓cl_296, ↓ca_473, ↓cs_473, ↓cl_473, ↓ca_474, ↓cs_474, ↓cl_474, ↓ca_86, ↓cs_86, ↓cl_86, ↓ca_87, ↓cs_87, ↓cl_87, ↓ca_88, ↓cs_88, ↓cl_88, ↓ca_89, ↓cs_89, ↓cl_89, ↓ca_91, ↓cs_91, ↓cl_91, ↓ca_92, ↓cs_92, ↓cl_92, ↓ca_93, ↓cs_93, ↓cl_93, ↓ca_94, ↓cs_94, ↓cl_94, ↓ca_96, ↓cs_96, ↓cl_96, ↓ca_97, ↓cs_97, ↓cl_97, ↓ca_98, ↓cs_98, ↓cl_98, ↓ca_99, ↓cs_99, ↓cl_99, ↓ca_41, ↓cs_41, ↓cl_41, ↓ca_113, ↓cs_113, ↓cl_113, ↓ca_114, ↓cs_114, ↓cl_114, ↓ca_115, ↓cs_115, ↓cl_115, ↓ca_125, ↓cs_125, ↓cl_125, ↓ca_126, ↓cs_126, ↓cl_126, ↓ca_127, ↓cs_127, ↓cl_127, ↓ca_303, ↓cs_303, ↓cl_303, ↓ca_304, ↓cs_304, ↓cl_304, ↓ca_305, ↓cs_305, ↓cl_305, cU_s, cU_n, cU_U, nI_add, nI_cl, vpi, i01, i02, i10, i11, ↓reduceIte, not_true_eq_false, not_false_eq_true, and_true, true_and, ne_eq, Nat.reduceAdd, Nat.reduceMul, Nat.reduceSub, Nat.reduceEqDiff, reduceCtorEq, Nat.add_zero, Nat.zero_add, n0p, ite_true, ite_false, if_true, if_false, nlT, nlF, nleT, nleF, neT, neF, n0F, n0T, pk_sub, pk_mul, nIm1, nIm2, nlZ, nleZ, upd_s, upd_n, pk_uLs, pk_uLn, nar_0, nar_1, nar_n0, nar_n1, ↓gTe_0 hb.1, ↓gTe_1 hb.1, ↓gTe_2 hb.1, ↓gTe_3 hb.1, ↓gTe_4 hb.1, ↓gTe_5 hb.1, ↓gTe_6 hb.1, ↓gTe_7 hb.1, ↓gTe_8 hb.1, ↓pTe_7 hb.1, ↓pTe_8 hb.1, ↓co_T hb.1 (by omega), ↓ca_I hb.2.1, ↓cs_I hb.2.1, ↓cl_I hb.2.1, ↓ca_I hb.2.2.1, ↓cs_I hb.2.2.1, ↓cl_I hb.2.2.1, ↓ca_I hb.2.2.2.1, ↓cs_I hb.2.2.2.1, ↓cl_I hb.2.2.2.1, ↓ca_I hb.2.2.2.2.1, ↓cs_I hb.2.2.2.2.1, ↓cl_I hb.2.2.2.2.1, ↓ca_I hb.2.2.2.2.2.1, ↓cs_I hb.2.2.2.2.2.1, ↓cl_I hb.2.2.2.2.2.1, ↓ca_I hb.2.2.2.2.2.2.1, ↓cs_I hb.2.2.2.2.2.2.1, ↓cl_I hb.2.2.2.2.2.2.1, ↓ca_I hb.2.2.2.2.2.2.2, ↓cs_I hb.2.2.2.2.2.2.2, ↓cl_I hb.2.2.2.2.2.2.2, h7]
  refine h _ ⟨fun k k1 k2 => ?_, fun k k1 k2 => ?_, ?_, ?_, ?_, ?_, ?_, h8, h9, h10⟩ ?_ (fun y hy => ?_) (fun k hk => cU_n hk)
  · rw [cU_n (by omega)]; exact h1 k k1 k2
  · rw [cU_n (by omega)]; exact h2 k k1 k2
  · exact ⟨by rw [cU_n (by omega)]; exact h3.1, by rw [cU_n (by omega)]; exact h3.2.1, by rw [cU_n (by omega)]; exact h3.2.2⟩
  · unfold tpC
    rw [cU_n (by omega), cU_n (by omega)]
    exact h4
  · rw [cU_n (by omega)]; exact h5
  · unfold tcX
    rw [cU_n (by omega)]
    exact h6
  · rw [cU_n (by omega)]; exact h7
  · rw [cU_s, upd_s]
  · rw [cU_s, upd_n hy]
def psC (tk tv : Nat → Nat) (f o i : Nat) (t : Term) : pR := pB (ps tk tv f 0 o i t) (fun c j => if tk j = 63 then pB (ps tk tv f 5 o (j + 1) t) (fun a m => if tk m = 58 then pB (ps tk tv f 5 o (m + 1) t) (fun b u => if tk u = 406 then .inr (tC c a b, u + 1) else .inl (1, u)) else .inl (1, m)) else .inl (1, j))
theorem c_Ta_choice (hS : stR sa c M0) (hb : teK R tb) (h34 : tb + 7 < 34) (h300 : n ≤ 300) {f : Nat} (h0 : RM sa c R M0 τ0 b n tb f 0 m_Tape_readEither 5) (h5 : RM sa c R M0 τ0 b n tb f 5 m_Tape_readSum 2) {o D : Nat} {t : Term} (ho : o ≤ 8) (hD : 6 + 8 * (8 - o) + 6 ≤ D) (hf : 10 * (n + 1 - i) + 9 < f) (hs : rS τ0 τ b n tb i sz) (hsz : sz + 1 ≤ i)
    (hE : ∀ e j τ', psC (tkT b n) (tkV b n) f o i t = .inl (e, j) → fF tb τ0 τ' → τ' 34 1 = nI n → τ' 34 2 = nI e → τ' 34 3 = nI (tkP b n j) → Q (some (.int (-1))) (cM c R M0 τ'))
    (hO : ∀ t' j τ', psC (tkT b n) (tkV b n) f o i t = .inr (t', j) → rS τ0 τ' b n tb j (sz + cs t') → kpL tb sz τ τ' → ccT τ' tb t' sz → Q (some (.int (nI (sz + cs t' - 1)))) (cM c R M0 τ')) : xEv xP (xprim sa) D m_Tape_readChoice [.ref (c + 34), .int (nI o)] (cM c R M0 τ) Q := by
  obtain ⟨d, rfl⟩ : ∃ d, D = d + 6 := ⟨D - 6, by omega⟩
  have Gs := fun f m o i t h1 h2 h3 h4 => ps_G (tk := tkT b n) (tv := tkV b n) (tp := tkP b n) (n := n) (fun i h ht => tk_i h ht) (fun i h => tk_n h) f m o i t h1 h2 h3 h4
  unfold psC at hE hO
  refine t_Tape_readChoice ⟨co_34, h0 o i sz (d + 5) t τ _ ho (by omega) (by omega) hs (fun e j τ' q1 q2 q3 q4 q5 => ?_) (fun u j τ1 q1 r1 k1 c1 => ?_)⟩
  · rw [q1] at hE
    rw [xrI_mk, if_pos rfl]
    exact hE e j τ' rfl q2 q3 q4 q5
  have G := Gs f 0 o i t (by omega) hs.2.2.2.2.2.2.2.2.2 (by omega) (fun q => nomatch q)
  rw [q1] at G hE hO
  obtain ⟨G1, G2, G3, G4, G5⟩ := G
  have G2 := G2 rfl
  have G5 : cs u + i ≤ 0 + j := G5
  have hjn := tk_n G3
  rw [show ∀ (k : Term → Nat → pR), pB (.inr (u, j)) k = k u j from fun _ => rfl] at hE hO
  rw [xrI_mk, if_neg (nI_m1 (by omega))]
  refine ⟨co_34, rS_pass (d := d) (v := 63) hS h34 (Or.inl rfl) r1 (fun e τ' f1 f2 f3 f4 => ?_) (fun e τ2 r2 f2 => ?_)⟩
  · rw [if_neg e] at hE
    rw [xrI_mk, if_neg (by decide)]
    exact hE 1 j τ' rfl f1 f2 f3 f4
  rw [if_pos e] at hE hO
  rw [xrI_mk, if_pos (by decide), g_made r2.2.2.2.2.1 h34]
  refine ⟨(co_T hb.1 (by omega)) ▸ trivial, rS_add hb h34 h300 r2 (by omega) (fun τ3 r3 k3 a1 a2 a3 a4 f3 => ?_)⟩
  rw [xrI_mk]
  refine ⟨co_34, h5 o (j + 1) (sz + cs u + 1) (d + 5) t τ3 _ ho (by omega) (by omega) r3 (fun e j τ' q1 q2 q3 q4 q5 => ?_) (fun a m τ4 q2 r4 k4 c4 => ?_)⟩
  · rw [q1] at hE
    rw [xrI_mk, if_pos rfl]
    exact hE e j τ' rfl q2 q3 q4 q5
  have G := Gs f 5 o (j + 1) t (by omega) r3.2.2.2.2.2.2.2.2.2 (by omega) (fun q => nomatch q)
  rw [q2] at G hE hO
  obtain ⟨H1, H2, H3, H4, H5⟩ := G
  have H2 := H2 rfl
  have H5 : cs a + (j + 1) ≤ 0 + m := H5
  have hmn := tk_n H3
  rw [show ∀ (k : Term → Nat → pR), pB (.inr (a, m)) k = k a m from fun _ => rfl] at hE hO
  rw [xrI_mk, if_neg (nI_m1 (by omega))]
  refine ⟨co_34, rS_pass (d := d) (v := 58) hS h34 (Or.inl rfl) r4 (fun e τ' f1 f2 f3 f4 => ?_) (fun e τ5 r5 f5 => ?_)⟩
  · rw [if_neg e] at hE
    rw [xrI_mk, if_neg (by decide)]
    exact hE 1 m τ' rfl f1 f2 f3 f4
  rw [if_pos e] at hE hO
  rw [xrI_mk, if_pos (by decide), g_made r5.2.2.2.2.1 h34]
  refine ⟨(co_T hb.1 (by omega)) ▸ trivial, rS_add hb h34 h300 r5 (by omega) (fun τ6 r6 k6 b1 b2 b3 b4 f6 => ?_)⟩
  rw [xrI_mk, g_made r6.2.2.2.2.1 h34, pk_sub (by omega), show sz + cs u + 1 + cs a - (sz + cs u) = cs a + 1 by omega]
  refine ⟨(co_T hb.1 (by omega)) ▸ trivial, rS_skip hb h34 h300 r6 (by omega) (fun τ7 r7 s7 n7 f7 => ?_)⟩
  rw [xrV_mk]
  refine ⟨co_34, h5 o (m + 1) (sz + cs u + 1 + cs a + 1) (d + 5) t τ7 _ ho (by omega) (by omega) r7 (fun e j τ' q1 q2 q3 q4 q5 => ?_) (fun y v τ8 q3 r8 k8 c8 => ?_)⟩
  · rw [q1] at hE
    rw [xrI_mk, if_pos rfl]
    exact hE e j τ' rfl q2 q3 q4 q5
  have G := Gs f 5 o (m + 1) t (by omega) r7.2.2.2.2.2.2.2.2.2 (by omega) (fun q => nomatch q)
  rw [q3] at G hE hO
  obtain ⟨I1, I2, I3, I4, I5⟩ := G
  have I2 := I2 rfl
  have I5 : cs y + (m + 1) ≤ 0 + v := I5
  have hvn := tk_n I3
  rw [show ∀ (k : Term → Nat → pR), pB (.inr (y, v)) k = k y v from fun _ => rfl] at hE hO
  rw [xrI_mk, if_neg (nI_m1 (by omega))]
  refine ⟨co_34, rS_pass (d := d) (v := 406) hS h34 (Or.inr (by omega)) r8 (fun e τ' f1 f2 f3 f4 => ?_) (fun e τ9 r9 f9 => ?_)⟩
  · rw [if_neg e] at hE
    rw [xrI_mk, if_neg (by decide)]
    exact hE 1 v τ' rfl f1 f2 f3 f4
  rw [if_pos e] at hO
  rw [xrI_mk, if_pos (by decide), g_made r9.2.2.2.2.1 h34, pk_sub (by omega), show sz + cs u + 1 + cs a + 1 + cs y - 1 - (sz + cs u + 1 + cs a) = cs y by omega]
  refine ⟨(co_T hb.1 (by omega)) ▸ trivial, rS_skip hb h34 h300 r9 (by omega) (fun τa ra sa' na fa => ?_)⟩
  rw [xrV_mk, g_made ra.2.2.2.2.1 h34]
  refine ⟨(co_T hb.1 (by omega)) ▸ trivial, rS_add hb h34 h300 ra (by omega) (fun τb rb kb d1 d2 d3 d4 fb => ?_)⟩
  rw [xrI_mk]
  have e1 : sz + cs (tC u a y) = sz + cs u + 1 + cs a + 1 + cs y + 1 := by rw [cs_C]; omega
  -- what stays of each step
  have st : ∀ q, 1 ≤ q → q ≤ 4 → ∀ z, z < sz + cs u + 1 + cs a + 1 + cs y → (q = 3 → z ≠ sz + cs u + 1 + cs a) → τb (tb + q) z = τ8 (tb + q) z := by
    intro q u1 u2 z hz hq
    rw [kb q u1 u2 z hz]
    by_cases e3 : q = 3
    · rw [e3, na z (hq e3), f9 (tb + 3) (by omega)]
    · rw [fa (tb + q) (by omega), f9 (tb + q) (by omega)]
  have st2 : ∀ q, 1 ≤ q → q ≤ 4 → ∀ z, z < sz + cs u + 1 + cs a + 1 → (q = 3 → z ≠ sz + cs u) → τ8 (tb + q) z = τ6 (tb + q) z := by
    intro q u1 u2 z hz hq
    rw [k8 q u1 u2 z hz]
    by_cases e3 : q = 3
    · rw [e3, n7 z (hq e3)]
    · rw [f7 (tb + q) (by omega)]
  have st3 : ∀ q, 1 ≤ q → q ≤ 4 → ∀ z, z < sz + cs u + 1 + cs a → τ6 (tb + q) z = τ4 (tb + q) z := by
    intro q u1 u2 z hz
    rw [k6 q u1 u2 z hz, f5 (tb + q) (by omega)]
  have st4 : ∀ q, 1 ≤ q → q ≤ 4 → ∀ z, z < sz + cs u → τ3 (tb + q) z = τ1 (tb + q) z := by
    intro q u1 u2 z hz
    rw [k3 q u1 u2 z hz, f2 (tb + q) (by omega)]
  have all : ∀ q, 1 ≤ q → q ≤ 4 → ∀ z, z < sz + cs u → τb (tb + q) z = τ1 (tb + q) z := by
    intro q u1 u2 z hz
    rw [st q u1 u2 z (by omega) (by omega), st2 q u1 u2 z (by omega) (by omega), st3 q u1 u2 z (by omega), k4 q u1 u2 z (by omega), st4 q u1 u2 z hz]
  have := hO (tC u a y) (v + 1) τb rfl (by rw [e1]; exact rb) (fun q u1 u2 z hz => by rw [all q u1 u2 z (by omega)]; exact k1 q u1 u2 z hz) ?_
  · rw [show sz + cs (tC u a y) - 1 = sz + cs u + 1 + cs a + 1 + cs y by omega] at this
    exact this
  · refine ⟨ccT_k u sz all c1, ⟨?_, ?_, ?_⟩, ccT_k2 a (sz + cs u + 1) (fun q u1 u2 z hl hz => ?_) c4, ⟨?_, ?_⟩, ccT_k2 y (sz + cs u + 1 + cs a + 1) (fun q u1 u2 z hl hz => st q u1 u2 z hz (by omega)) c8, d1, d2, d3, d4⟩
    · rw [st 1 (by omega) (by omega) _ (by omega) (by omega), st2 1 (by omega) (by omega) _ (by omega) (by omega), st3 1 (by omega) (by omega) _ (by omega), k4 1 (by omega) (by omega) _ (by omega)]; exact a1
    · rw [st 2 (by omega) (by omega) _ (by omega) (by omega), st2 2 (by omega) (by omega) _ (by omega) (by omega), st3 2 (by omega) (by omega) _ (by omega), k4 2 (by omega) (by omega) _ (by omega)]; exact a2
    · rw [st 3 (by omega) (by omega) _ (by omega) (by omega), k8 3 (by omega) (by omega) _ (by omega)]; exact s7
    · rw [st q u1 u2 z (by omega) (by omega), st2 q u1 u2 z (by omega) (by omega), st3 q u1 u2 z (by omega)]
    · rw [st 1 (by omega) (by omega) _ (by omega) (by omega), st2 1 (by omega) (by omega) _ (by omega) (by omega)]; exact b1
    · rw [kb 3 (by omega) (by omega) _ (by omega)]; exact sa'
theorem rm_9 (hS : stR sa c M0) (hb : teK R tb) (h34 : tb + 7 < 34) (h300 : n ≤ 300) {f : Nat} (h0 : RM sa c R M0 τ0 b n tb f 0 m_Tape_readEither 5) (h5 : RM sa c R M0 τ0 b n tb f 5 m_Tape_readSum 2) (h9 : RM sa c R M0 τ0 b n tb f 9 m_Tape_readOne 0) : RM sa c R M0 τ0 b n tb (f + 1) 9 m_Tape_readOne 0 := by
  intro o i sz D t τ Q ho hD hf hs hE hO
  obtain ⟨d, rfl⟩ : ∃ d, D = d + 6 := ⟨D - 6, by omega⟩
  have Gs := fun f m o i t h1 h2 h3 h4 => ps_G (tk := tkT b n) (tv := tkV b n) (tp := tkP b n) (n := n) (fun i h ht => tk_i h ht) (fun i h => tk_n h) f m o i t h1 h2 h3 h4
  rw [ps_9] at hE hO
  have hi1 := hs.2.2.2.2.2.2.2.2.1
  have hsz := hs.2.2.2.2.2.2.2.1
  have hin := tk_n hs.2.2.2.2.2.2.2.2.2
  have ctx := hs.2.2.2.2.2.1.1
  have c40 : τ 34 5 = nI 40 ↔ tkT b n i = 40 := tc_is (v := 40) ctx (by decide)
  have c45 : τ 34 5 = nI 45 ↔ tkT b n i = 45 := tc_is (v := 45) ctx (by decide)
  have cIf : τ 34 5 = nI 405 ↔ tkT b n i = 405 := tc_is (v := 405) ctx (by decide)
  have cNu : τ 34 5 = nI 300 ↔ tkT b n i = 1 := tc_is (v := 1) ctx (by decide)
  refine t_Tape_readOne ?_
  simp (disch := omega) only [↓i01, ↓i02, ↓xrI_mk, ↓xrV_mk, ↓xrL_mk, ↓xrR_mk, ↓gCo_0_0, ↓pCo_0_0, ↓gCo_1_0, ↓gCo_2_0, ↓gCo_3_0, ↓gCo_4_0, ↓gCo_5_0, ↓gCo_6_0, ↓gCo_7_0, ↓gCo_8_0, ↓gCo_9_0, ↓gCo_10_0, ↓pCo_10_0, ↓gCo_11_0, ↓pCo_11_0, ↓co_0', ↓gTa_0_34, ↓gTa_1_34, ↓pTa_1_34, ↓gTa_2_34, ↓pTa_2_34, ↓gTa_3_34, ↓pTa_3_34, ↓gTa_5_34, ↓pTa_5_34, ↓gTa_6_34, ↓pTa_6_34, ↓gTa_7_34, ↓pTa_7_34, ↓gTa_8_34, ↓pTa_8_34, ↓co_34', ↓gHa_0_36, ↓pHa_0_36, ↓gHa_1_36, ↓gHa_2_36, ↓gHa_3_36, ↓gHa_4_36, ↓gHa_5_36, ↓gHa_6_36, ↓co_36', ↓gTr_0_42, ↓pTr_0_42, ↓gTr_1_42, ↓gTr_2_42, ↓gTr_3_42, ↓gTr_4_42, ↓co_42', ↓gRu_0_62, ↓gRu_1_62, ↓gRu_2_62, ↓gRu_3_62, ↓gRu_4_62, ↓gRu_5_62, ↓gRu_6_62, ↓gRu_7_62, ↓gRu_8_62, ↓gRu_9_62, ↓gRu_10_62, ↓pRu_10_62, ↓gRu_11_62, ↓pRu_11_62, ↓gRu_12_62, ↓pRu_12_62, ↓co_62', ↓gFo_0_85, ↓pFo_0_85, ↓gFo_1_85, ↓gFo_2_85, ↓gFo_3_85, ↓gFo_4_85, ↓gFo_5_85, ↓pFo_5_85, ↓co_85', ↓gFo_0_90, ↓pFo_0_90, ↓gFo_1_90, ↓gFo_2_90, ↓gFo_3_90, ↓gFo_4_90, ↓gFo_5_90, ↓pFo_5_90, ↓co_90', ↓gFo_0_95, ↓pFo_0_95, ↓gFo_1_95, ↓gFo_2_95, ↓gFo_3_95, ↓gFo_4_95, ↓gFo_5_95, ↓pFo_5_95, ↓co_95', ↓gMo_0_54, ↓gMo_1_54, ↓gMo_2_54, ↓gMo_3_54, ↓pMo_3_54, ↓gMo_4_54, ↓pMo_4_54, ↓co_54', ↓gMo_0_58, ↓gMo_1_58, ↓gMo_2_58, ↓gMo_3_58, ↓pMo_3_58, ↓gMo_4_58, ↓pMo_4_58, ↓co_58', ↓gMo_0_100, ↓gMo_1_100, ↓gMo_2_100, ↓gMo_3_100, ↓pMo_3_100, ↓gMo_4_100, ↓pMo_4_100, ↓co_100', ↓gMo_0_104, ↓gMo_1_104, ↓gMo_2_104, ↓gMo_3_104, ↓pMo_3_104, ↓gMo_4_104, ↓pMo_4_104, ↓co_104', ↓gMo_0_128, ↓gMo_1_128, ↓gMo_2_128, ↓gMo_3_128, ↓pMo_3_128, ↓gMo_4_128, ↓pMo_4_128, ↓co_128', ↓gMo_0_306, ↓gMo_1_306, ↓gMo_2_306, ↓gMo_3_306, ↓pMo_3_306, ↓gMo_4_306, ↓pMo_4_306, ↓co_306', ↓gEl_0_108, ↓gEl_1_108, ↓gEl_2_108, ↓gEl_3_108, ↓gEl_4_108, ↓gEl_5_108, ↓gEl_6_108, ↓gEl_7_108, ↓pEl_7_108, ↓co_108', ↓gEl_0_120, ↓gEl_1_120, ↓gEl_2_120, ↓gEl_3_120, ↓gEl_4_120, ↓gEl_5_120, ↓gEl_6_120, ↓gEl_7_120, ↓pEl_7_120, ↓co_120', ↓gEl_0_298, ↓gEl_1_298, ↓gEl_2_298, ↓gEl_3_298, ↓gEl_4_298, ↓gEl_5_298, ↓gEl_6_298, ↓gEl_7_298, ↓pEl_7_298, ↓co_298', ↓gHe_0_116, ↓gHe_1_116, ↓gHe_2_116, ↓pHe_2_116, ↓gHe_3_116, ↓pHe_3_116, ↓co_116', ↓gHe_0_294, ↓gHe_1_294, ↓gHe_2_294, ↓pHe_2_294, ↓gHe_3_294, ↓pHe_3_294, ↓co_294', ↓gHe_0_472, ↓gHe_1_472, ↓gHe_2_472, ↓pHe_2_472, ↓gHe_3_472, ↓pHe_3_472, ↓co_472', ↓gWh_0_119, ↓gWh_1_119, ↓gWh_2_119, ↓gWh_3_119, ↓gWh_4_119, ↓pWh_4_119, ↓co_119', ↓gWh_0_297, ↓gWh_1_297, ↓gWh_2_297, ↓gWh_3_297, ↓gWh_4_297, ↓pWh_4_297, ↓co_297', ↓gPa_0_132, ↓gPa_1_132, ↓pPa_1_132, ↓gPa_2_132, ↓pPa_2_132, ↓co_132', ↓gPa_0_310, ↓gPa_1_310, ↓pPa_1_310, ↓gPa_2_310, ↓pPa_2_310, ↓co_310', ↓ca_35, ↓cs_35, ↓cl_35, ↓ca_37, ↓cs_37, ↓cl_37, ↓ca_38, ↓cs_38, ↓cl_38, ↓ca_39, ↓cs_39, ↓cl_39, ↓ca_40, ↓cs_40, ↓cl_40, ↓ca_83, ↓cs_83, ↓cl_83, ↓ca_84, ↓cs_84, ↓cl_84, ↓ca_55, ↓cs_55, ↓cl_55, ↓ca_56, ↓cs_56, ↓cl_56, ↓ca_57, ↓cs_57, ↓cl_57, ↓ca_59, ↓cs_59, ↓cl_59, ↓ca_60, ↓cs_60, ↓cl_60, ↓ca_61, ↓cs_61, ↓cl_61, ↓ca_101, ↓cs_101, ↓cl_101, ↓ca_102, ↓cs_102, ↓cl_102, ↓ca_103, ↓cs_103, ↓cl_103, ↓ca_105, ↓cs_105, ↓cl_105, ↓ca_106, ↓cs_106, ↓cl_106, ↓ca_107, ↓cs_107, ↓cl_107, ↓ca_129, ↓cs_129, ↓cl_129, ↓ca_130, ↓cs_130, ↓cl_130, ↓ca_131, ↓cs_131, ↓cl_131, ↓ca_307, ↓cs_307, ↓cl_307, ↓ca_308, ↓cs_308, ↓cl_308, ↓ca_309, ↓cs_309, ↓cl_309, ↓ca_109, ↓cs_109, ↓cl_109, ↓ca_110, ↓cs_110, ↓cl_110, ↓ca_111, ↓cs_111, ↓cl_111, ↓ca_112, ↓cs_112, ↓cl_112, ↓ca_121, ↓cs_121, ↓cl_121, ↓ca_122, ↓cs_122, ↓cl_122, ↓ca_123, ↓cs_123, ↓cl_123, ↓ca_124, ↓cs_124, ↓cl_124, ↓ca_299, ↓cs_299, ↓cl_299, ↓ca_300, ↓cs_300, ↓cl_300, ↓ca_301, ↓cs_301, ↓cl_301, ↓ca_302, ↓cs_302, ↓cl_302, ↓ca_117, ↓cs_117, ↓cl_117, ↓ca_118, ↓cs_118, ↓cl_118, ↓ca_295, ↓cs_295, ↓cl_295, ↓ca_296, ↓cs_296, ↓cl_296, ↓ca_473, ↓cs_473, ↓cl_473, ↓ca_474, ↓cs_474, ↓cl_474, ↓ca_86, ↓cs_86, ↓cl_86, ↓ca_87, ↓cs_87, ↓cl_87, ↓ca_88, ↓cs_88, ↓cl_88, ↓ca_89, ↓cs_89, ↓cl_89, ↓ca_91, ↓cs_91, ↓cl_91, ↓ca_92, ↓cs_92, ↓cl_92, ↓ca_93, ↓cs_93, ↓cl_93, ↓ca_94, ↓cs_94, ↓cl_94, ↓ca_96, ↓cs_96, ↓cl_96, ↓ca_97, ↓cs_97, ↓cl_97, ↓ca_98, ↓cs_98, ↓cl_98, ↓ca_99, ↓cs_99, ↓cl_99, ↓ca_41, ↓cs_41, ↓cl_41, ↓ca_113, ↓cs_113, ↓cl_113, ↓ca_114, ↓cs_114, ↓cl_114, ↓ca_115, ↓cs_115, ↓cl_115, ↓ca_125, ↓cs_125, ↓cl_125, ↓ca_126, ↓cs_126, ↓cl_126, ↓ca_127, ↓cs_127, ↓cl_127, ↓ca_303, ↓cs_303, ↓cl_303, ↓ca_304, ↓cs_304, ↓cl_304, ↓ca_305, ↓cs_305, ↓cl_305, cU_s, cU_n, cU_U, nI_add, nI_cl, vpi, i01, i02, i10, i11, ↓reduceIte, not_true_eq_false, not_false_eq_true, and_true, true_and, ne_eq, Nat.reduceAdd, Nat.reduceMul, Nat.reduceSub, Nat.reduceEqDiff, reduceCtorEq, Nat.add_zero, Nat.zero_add, n0p, ite_true, ite_false, if_true, if_false, nlT, nlF, nleT, nleF, neT, neF, n0F, n0T, pk_sub, pk_mul, nIm1, nIm2, nlZ, nleZ, upd_s, upd_n, pk_uLs, pk_uLn, nar_0, nar_1, nar_n0, nar_n1]
  -- passed, and what follows
  by_cases eo : tkT b n i = 40 ∨ tkT b n i = 45 ∨ tkT b n i = 405
  · rw [if_neg (by omega), if_neg (by omega), if_pos eo] at hE hO
    have opn : K_Tape_readOne sa (d + 5) Q 3 [some (.ref (c + 34)), some (.int (nI o)), some (.int (τ 34 5)), some (.int (τ 34 8)), none, none] [] (cM c R M0 τ) (0, 0) := by
      refine t_Tape_readOne_3 (t_Tape_readOne_5 ?_)
      rw [if_pos (fun q => by have := cNu.mp q; omega)]
      refine t_Tape_readOne_8 ?_
      rw [if_neg (by decide)]
      by_cases e8 : 8 ≤ o
      · rw [if_pos e8] at hE
        rw [if_neg (nI_nlt e8 (by omega))]
        refine ⟨co_34, c_Ta_wrong hs h34 (fun τ' f1 f2 f3 f4 => ?_)⟩
        rw [xrI_mk]
        exact hE 3 i τ' rfl f1 f2 f3 f4
      · rw [if_neg e8] at hE hO
        rw [if_pos (nI_lt (by omega) (by omega))]
        refine t_Tape_readOne_11 ?_
        rw [if_pos (by decide)]
        refine t_Tape_readOne_16 ⟨co_34, rS_next (d := d + 1) hS hs h34 (by omega) (fun τ1 r1 k1 f1 => ?_)⟩
        rw [xrV_mk, if_pos (by decide)]
        by_cases e40 : tkT b n i = 40
        · rw [if_pos e40] at hE hO
          rw [if_pos (fun q => by have := cIf.mp q; omega), if_pos (fun q => by have := c45.mp q; omega), nI_add]
          refine ⟨co_34, h5 (o + 1) (i + 1) sz (d + 5) t τ1 _ (by omega) (by omega) (by omega) r1 (fun e j τ' q1 q2 q3 q4 q5 => ?_) (fun a j τ2 q1 r2 k2 c2 => ?_)⟩
          · rw [q1] at hE
            rw [xrI_mk, if_pos rfl]
            exact hE e j τ' rfl q2 q3 q4 q5
          · have G := Gs f 5 (o + 1) (i + 1) t (by omega) r1.2.2.2.2.2.2.2.2.2 (by omega) (fun q => nomatch q)
            rw [q1] at G hE hO
            obtain ⟨G1, G2, G3, G4, G5⟩ := G
            have hjn := tk_n G3
            have hs2 := r2.2.2.2.2.2.2.2.1
            rw [show ∀ (k : Term → Nat → pR), pB (.inr (a, j)) k = k a j from fun _ => rfl] at hE hO
            rw [xrI_mk, if_neg (nI_m1 (by omega))]
            refine ⟨co_34, rS_pass (d := d) (v := 41) hS h34 (Or.inl rfl) r2 (fun e τ' f1 f2 f3 f4 => ?_) (fun e τ3 r3 f3 => ?_)⟩
            · rw [if_neg e] at hE
              rw [xrI_mk, if_pos rfl]
              exact hE 1 j τ' rfl f1 f2 f3 f4
            · rw [if_pos e] at hO
              rw [xrI_mk, if_neg (by decide)]
              exact hO a (j + 1) τ3 rfl r3 (kpL_t k1 (kpL_t k2 (fun q u1 u2 z hz => by rw [f3 (tb + q) (by omega)]))) (ccT_k a sz (fun q u1 u2 z hz => by rw [f3 (tb + q) (by omega)]) c2)
        · rw [if_neg e40] at hE hO
          by_cases e45 : tkT b n i = 45
          · rw [if_pos e45] at hE hO
            rw [if_pos (fun q => by have := cIf.mp q; omega), if_neg (not_not_intro (c45.mpr e45)), nI_add]
            refine ⟨co_34, h9 (o + 1) (i + 1) sz (d + 5) t τ1 _ (by omega) (by omega) (by omega) r1 (fun e j τ' q1 q2 q3 q4 q5 => ?_) (fun a j τ2 q1 r2 k2 c2 => ?_)⟩
            · rw [q1] at hE
              rw [xrI_mk, if_neg (not_not_intro rfl)]
              exact hE e j τ' rfl q2 q3 q4 q5
            · have G := Gs f 9 (o + 1) (i + 1) t (by omega) r1.2.2.2.2.2.2.2.2.2 (by omega) (fun q => nomatch q)
              rw [q1] at G hO
              obtain ⟨G1, G2, G3, G4, G5⟩ := G
              have G5 : cs a + (i + 1) ≤ 0 + j := G5
              have hjn := tk_n G3
              rw [xrI_mk, if_pos (nI_m1 (by omega)), g_made r2.2.2.2.2.1 h34]
              refine ⟨(co_T hb.1 (by omega)) ▸ trivial, rS_add hb h34 h300 r2 (by omega) (fun τ3 r3 k3 a1 a2 a3 a4 f3 => ?_)⟩
              rw [xrI_mk]
              have e1 : sz + cs (tU 2 a) = sz + cs a + 1 := by rw [cs_U]; omega
              have := hO (tU 2 a) j τ3 rfl (by rw [e1]; exact r3) (kpL_t k1 (kpL_t k2 (kpL_w k3 (by omega)))) ⟨ccT_k a sz (fun q u1 u2 y hy => k3 q u1 u2 y hy) c2, a1, a2⟩
              rw [show sz + cs (tU 2 a) - 1 = sz + cs a by omega] at this
              exact this
          · rw [if_neg e45] at hE hO
            rw [if_neg (not_not_intro (cIf.mpr (by omega))), nI_add]
            refine ⟨co_34, c_Ta_choice (t := t) hS hb h34 h300 h0 h5 (by omega) (by omega) (by omega) r1 (by omega) (fun e j τ' q1 q2 q3 q4 q5 => ?_) (fun a j τ2 q1 r2 k2 c2 => ?_)⟩
            · rw [xrI_mk]
              exact hE e j τ' q1 q2 q3 q4 q5
            · rw [xrI_mk]
              exact hO a j τ2 q1 r2 (kpL_t k1 k2) c2
    by_cases d1 : τ 34 5 = nI 40
    · rw [if_pos d1]; exact opn
    rw [if_neg d1]
    by_cases d2 : τ 34 5 = nI 45
    · rw [if_pos d2]; exact opn
    rw [if_neg d2, if_neg (not_not_intro (cIf.mpr (by
      rcases eo with q | q | q
      · exact absurd (c40.mpr q) d1
      · exact absurd (c45.mpr q) d2
      · exact q)))]
    exact opn
  · rw [if_neg (fun q => eo (Or.inl (c40.mp q))), if_neg (fun q => eo (Or.inr (Or.inl (c45.mp q)))), if_pos (fun q => eo (Or.inr (Or.inr (cIf.mp q))))]
    -- a leaf
    have leaf : tkT b n i ≠ 0 → ∀ u : Term, cs u = 1 → (∀ τ', τ' (tb + 1) sz = τ 34 5 → τ' (tb + 2) sz = τ 34 8 → ccT τ' tb u sz) → (∀ τ', rS τ0 τ' b n tb (i + 1) (sz + cs u) → kpL tb sz τ τ' → ccT τ' tb u sz → Q (some (.int (nI (sz + cs u - 1)))) (cM c R M0 τ')) → K_Tape_readOne sa (d + 5) Q 16 [some (.ref (c + 34)), some (.int (nI o)), some (.int (τ 34 5)), some (.int (τ 34 8)), some (.int (nI 0)), none] [] (cM c R M0 τ) (0, 0) := by
      intro ht u hu hcc hq
      refine t_Tape_readOne_16 ⟨co_34, rS_next (d := d + 1) hS hs h34 ht (fun τ1 r1 k1 f1 => ?_)⟩
      rw [xrV_mk, if_neg (by decide), g_made r1.2.2.2.2.1 h34]
      refine ⟨(co_T hb.1 (by omega)) ▸ trivial, rS_add hb h34 h300 r1 (by omega) (fun τ2 r2 k2 a1 a2 a3 a4 f2 => ?_)⟩
      rw [xrI_mk]
      have := hq τ2 (by rw [hu]; exact r2) (kpL_t k1 k2) (hcc τ2 a1 a2)
      rw [hu, Nat.add_sub_cancel] at this
      exact this
    refine t_Tape_readOne_5 ?_
    by_cases e1 : tkT b n i = 1
    · rw [if_pos e1] at hE hO
      rw [if_neg (not_not_intro (cNu.mpr e1))]
      have ev : τ 34 8 = nI (tkV b n i) := hs.2.2.2.2.2.1.2.2.2 e1
      have hv := tkV_le (b := b) (n := n) i
      rw [ev]
      by_cases e9 : 9999 < tkV b n i
      · rw [if_pos e9] at hE
        rw [if_neg (nI_ge e9 (by omega))]
        refine ⟨co_34, c_Ta_wrong hs h34 (fun τ' f1 f2 f3 f4 => ?_)⟩
        rw [xrI_mk]
        exact hE 2 i τ' rfl f1 f2 f3 f4
      · rw [if_neg e9] at hO
        rw [if_pos (nI_le (by omega) (by omega)), ← ev]
        refine t_Tape_readOne_8 ?_
        rw [if_pos (show nI 0 = 0 from rfl)]
        refine t_Tape_readOne_11 ?_
        rw [if_neg (by decide), if_pos (cNu.mpr e1)]
        exact leaf (by omega) (.int (nI (tkV b n i))) rfl (fun τ' a1 a2 => ⟨a1.trans (cNu.mpr e1), a2.trans ev⟩) (fun τ' r' k' c' => hO _ _ τ' rfl r' k' c')
    · rw [if_neg e1] at hE hO
      rw [if_pos (fun q => e1 (cNu.mp q))]
      refine t_Tape_readOne_8 ?_
      rw [if_pos (show nI 0 = 0 from rfl)]
      refine t_Tape_readOne_11 ?_
      rw [if_neg (by decide), if_neg (fun q => e1 (cNu.mp q))]
      obtain ⟨x, ex, hx⟩ := ctx
      by_cases ea : 410 ≤ tkT b n i ∧ tkT b n i ≤ 417
      · rw [if_pos ea] at hO
        have hxt : x = tkT b n i := by
          have et : (lxI b n i).2.1 = tkT b n i := rfl
          rw [et] at hx
          rcases hx with q | q | q | q | q | q | q
          · omega
          · omega
          · omega
          · omega
          · exact q.2.2
          · exact q.2
          · omega
        have ev : τ 34 5 = nI (tkT b n i) := by rw [← hxt]; exact ex
        rw [if_neg (by rw [ev]; exact nI_nlt ea.1 (by omega)), if_pos (by rw [ev]; exact nI_le ea.2 (by omega))]
        refine leaf (by omega) (.arg (tkT b n i - 410)) rfl (fun τ' a1 a2 => ?_) (fun τ' r' k' c' => hO _ _ τ' rfl r' k' c')
        show τ' (tb + 1) sz = nI (410 + (tkT b n i - 410))
        rw [a1, ev, show 410 + (tkT b n i - 410) = tkT b n i by omega]
      · rw [if_neg ea, if_neg eo] at hE
        have hxt : x < 410 := by
          have et : (lxI b n i).2.1 = tkT b n i := rfl
          rw [et] at hx
          rcases hx with q | q | q | q | q | q | q
          · omega
          · omega
          · omega
          · omega
          · omega
          · have := knS_i.mp q.1; omega
          · rcases q.2 with q2 | q2
            · omega
            · omega
        rw [if_pos (by rw [show τ 34 5 = nI x from ex]; exact nI_lt hxt (by omega))]
        refine ⟨co_34, c_Ta_wrong hs h34 (fun τ' f1 f2 f3 f4 => ?_)⟩
        rw [xrI_mk]
        exact hE 1 i τ' rfl f1 f2 f3 f4
end TO
