/-! the reference: what begins a part, what comes behind one -/
def tkA (σ : mS) (b : Nat → Nat) (n i : Nat) : Prop := tkM σ b n (tkP b n i) (tkT b n i) (tkE b n i) (tkV b n i)
/-- the reading's state: pile, what was written, opens, the token, whether a part is whole -/
def stM (σ0 σ : mS) (b : Nat → Nat) (n t0 : Nat) (P : List Nat) (cd : cD) (o i w : Nat) : Prop := frP t0 σ0 σ ∧ tpR σ b n ∧ pileR σ P ∧ outR σ t0 cd ∧ σ.1 19 = nI o ∧ tkA σ b n i ∧ σ.1 20 = nI w
theorem tkM_c {σ σ' : mS} {b : Nat → Nat} {n p T e v : Nat} (h : tkM σ b n p T e v) (hf : ∀ j, j = 8 ∨ j = 9 ∨ j = 10 ∨ j = 11 → σ'.1 j = σ.1 j) (hw : σ'.2.1 = σ.2.1) : tkM σ' b n p T e v := by
  unfold tkM
  rw [hf 8 (by simp), hf 9 (by simp), hf 10 (by simp), hf 11 (by simp), hw]
  exact h
theorem mk_cases {σ : mS} {e : Bool} : ∀ (P : List Nat), pileR σ P → (mkP P = -1 ∧ koN e P = (if e then 41 else 40) ∧ ∀ p, p ∈ P → p < 40) ∨ ∃ (S : List Nat) (mk : Nat) (P1 : List Nat), P = S ++ mk :: P1 ∧ (∀ p, p ∈ S → p < 40) ∧ 40 ≤ mk ∧ mk < 64 ∧ mkP P = nI P1.length ∧ koN e P = mk ∧ σ.2.2.1 5 P1.length = nI mk ∧ P1.length < 160
  | [], _ => Or.inl ⟨rfl, rfl, fun p hp => absurd hp List.not_mem_nil⟩
  | p :: P, h => by
    have tl := pile_tl h
    have hl := h.2.1
    rw [List.length_cons] at hl
    by_cases e4 : 40 ≤ p
    · exact Or.inr ⟨[], p, P, rfl, fun p hp => absurd hp List.not_mem_nil, e4, tl.2, if_pos e4, if_pos e4, tl.1, by omega⟩
    · have h' : pileR (mF σ 18 (nI P.length)) P := pile_pop h
      have em : mkP (p :: P) = mkP P := if_neg e4
      have ek : koN e (p :: P) = koN e P := if_neg e4
      rcases mk_cases (e := e) P h' with ⟨g1, g2, g3⟩ | ⟨S, mk, P1, g1, g2, g3, g4, g5, g6, g7, g8⟩
      · refine Or.inl ⟨em.trans g1, ek.trans g2, fun x hx => ?_⟩
        rcases List.mem_cons.mp hx with hx | hx
        · rw [hx]; omega
        · exact g3 x hx
      · refine Or.inr ⟨p :: S, mk, P1, by rw [g1]; rfl, fun x hx => ?_, g3, g4, em.trans g5, ek.trans g6, g7, g8⟩
        rcases List.mem_cons.mp hx with hx | hx
        · rw [hx]; omega
        · exact g2 x hx
def betN (e : Bool) (P : List Nat) (T : Nat) : Option Nat := if T = 43 then some 3 else if T = 45 then some 4 else if T = 42 then some 5 else if T = 47 then some 6
  else if koN e P = 41 then (if cpB P = true then (if T = 408 then some 21 else if T = 407 then some 22 else none) else (if cmpK T = 0 then none else some (cmpK T))) else none
def oI (o : Option Nat) : Int32 := match o with
  | none => -1
  | some k => nI k
def rep2 (k : Nat) : List Nat := List.replicate k 2
theorem cnt_rep : ∀ k, cntO (rep2 k) = k
  | 0 => rfl
  | k + 1 => by
    show (if 2 = 2 ∨ 2 = 20 then 1 else 0) + cntO (rep2 k) = k + 1
    rw [cnt_rep k, if_pos (Or.inl rfl)]; omega
section MB
variable {sa : Nat → Nat} {d : Nat} {Q : xQ} {q : Nat} {M0 M : xM} {σ0 σ : mS} {b : Nat → Nat} {n t0 : Nat} {P : List Nat} {cd : cD} {o i w : Nat} {e : Bool}
theorem q_next (hp : tpR σ b n) (ht : tkA σ b n i) (h : ∀ σ', smF [8, 9, 10, 11] σ σ' → tkA σ' b n (i + 1) → Q none (mM q M0 σ')) : xEv xP (xprim sa) (d + 3) m_M_nextToken [.ref q] (mM q M0 σ) Q := c_M_nextToken (x := tkE b n i) hp ht.1 (tk_e i).2.1 h
theorem st_next (hs : stM σ0 σ b n t0 P cd o i w) (h : ∀ σ', stM σ0 σ' b n t0 P cd o (i + 1) w → Q none (mM q M0 σ')) : xEv xP (xprim sa) (d + 3) m_M_nextToken [.ref q] (mM q M0 σ) Q := by
  obtain ⟨h1, h2, h3, h4, h5, h6, h7⟩ := hs
  refine q_next h2 h6 (fun σ' s' t' => h σ' ⟨frP_t h1 (frP_sm s' (by decide)), tpR_F s' (by decide) h2, pile_sm s' (by decide) h3, out_sm s' (by decide) (by decide) h4, ?_, t', ?_⟩)
  · rw [s'.1 19 (by decide)]; exact h5
  · rw [s'.1 20 (by decide)]; exact h7
theorem st_settle {S : List Nat} {r : Nat} (hr : r < 10) (hs : stM σ0 σ b n t0 (S ++ P) cd (o + cntO S) i w) (hl : cd.length + S.length ≤ 301) (ho : o + cntO S ≤ 100) (hS : ∀ p, p ∈ S → r ≤ rkN p) (ht : topB r P) (h : ∀ σ', stM σ0 σ' b n t0 P (cd ++ ops S) o i w → Q none (mM q M0 σ')) : xEv xP (xprim sa) (d + 2) m_M_settle [.ref q, .int (nI r)] (mM q M0 σ) Q := by
  obtain ⟨h1, h2, h3, h4, h5, h6, h7⟩ := hs
  refine e_M_settle (c_M_settle hr S σ cd o h3 h4 hl h5 ho hS ht (fun σ' f1 f2 f3 f4 f5 f6 => h σ' ⟨frP_t h1 f1, tpR_P f1 h2, f4, f5, f6, tkM_c h6 (fun j hj => f2 j (by omega) (by omega) (by omega)) f3, ?_⟩))
  rw [f2 20 (by decide) (by decide) (by decide)]; exact h7
theorem st_F20 {v : Nat} (hs : stM σ0 σ b n t0 P cd o i w) : stM σ0 (mF σ 20 (nI v)) b n t0 P cd o i v := by
  obtain ⟨h1, h2, h3, h4, h5, h6, h7⟩ := hs
  exact ⟨frP_t h1 (frP_F (by decide)), h2, h3, h4, h5, h6, rfl⟩
theorem st_whole {k : Nat} (hs : stM σ0 σ b n t0 (rep2 k ++ P) cd (o + k) i w) (hl : cd.length + k ≤ 301) (ho : o + k ≤ 100) (ht : topB 7 P) (h : ∀ σ', stM σ0 σ' b n t0 P (cd ++ ops (rep2 k)) o i 1 → Q none (mM q M0 σ')) : xEv xP (xprim sa) (d + 3) m_M_whole [.ref q] (mM q M0 σ) Q := by
  refine t_M_whole ⟨Or.inr rfl, ?_⟩
  rw [mp_20]
  have hs2 := st_F20 (v := 1) hs
  rw [show o + k = o + cntO (rep2 k) by rw [cnt_rep]] at hs2
  refine ⟨mo_q, st_settle (S := rep2 k) (r := 7) (by omega) hs2 (by rw [show (rep2 k).length = k from List.length_replicate]; exact hl) (by rw [cnt_rep]; exact ho) (fun p hp => ?_) ht ?_⟩
  · rw [show p = 2 from List.eq_of_mem_replicate hp]; decide
  · exact h
theorem st_emit {p : Nat} {v : Int32} (hs : stM σ0 σ b n t0 P cd o i w) (hl : cd.length ≤ 301) (h : ∀ σ', stM σ0 σ' b n t0 P (cd ++ [(p, v)]) o i w → Q none (mM q M0 σ')) : xEv xP (xprim sa) (d + 1) m_M_emit [.ref q, .int (nI p), .int v] (mM q M0 σ) Q := by
  obtain ⟨h1, h2, h3, h4, h5, h6, h7⟩ := hs
  refine c_M_emit h4 hl (h _ ⟨frP_t h1 (fr_em (by omega)), h2, h3, out_em h4, h5, h6, h7⟩)
theorem st_push {p : Nat} (hs : stM σ0 σ b n t0 P cd o i w) (hl : P.length < 160) (hp : p < 64) (h : ∀ σ', stM σ0 σ' b n t0 (p :: P) cd o i w → Q none (mM q M0 σ')) : xEv xP (xprim sa) (d + 1) m_M_push [.ref q, .int (nI p)] (mM q M0 σ) Q := by
  obtain ⟨h1, h2, h3, h4, h5, h6, h7⟩ := hs
  refine c_M_push h3 hl (h _ ⟨frP_t h1 (frP_t frP_5 (frP_F (by decide))), h2, pile_push h3 hl hp, h4, h5, h6, h7⟩)
theorem c_M_opensBy {p : Nat} (hs : stM σ0 σ b n t0 P cd o i w) (ho : o ≤ 8) (hl : P.length < 160) (hp : p < 64) (h8 : 8 ≤ o → Q (some (.int (nI 3))) (mM q M0 σ)) (h : o < 8 → ∀ σ', stM σ0 σ' b n t0 (p :: P) cd (o + 1) (i + 1) w → Q (some (.int (nI 0))) (mM q M0 σ')) : xEv xP (xprim sa) (d + 4) m_M_opensBy [.ref q, .int (nI p)] (mM q M0 σ) Q := by
  have h19 := hs.2.2.2.2.1
  refine t_M_opensBy ?_
  by_cases e8 : o = 8
  · simp (disch := omega) only [↓i01, ↓i02, ↓xrI_mk, ↓xrV_mk, ↓xrL_mk, ↓xrR_mk, ↓mg_0, ↓mg_1, ↓mp_2, ↓mg_2, ↓mg_3, ↓mg_4, ↓mp_5, ↓mg_5, ↓mp_6, ↓mg_6, ↓mp_7, ↓mg_7, ↓mp_8, ↓mg_8, ↓mp_9, ↓mg_9, ↓mp_10, ↓mg_10, ↓mp_11, ↓mg_11, ↓mp_12, ↓mg_12, ↓mp_13, ↓mg_13, ↓mp_14, ↓mg_14, ↓mp_15, ↓mg_15, ↓mp_16, ↓mg_16, ↓mg_17, ↓mp_18, ↓mg_18, ↓mp_19, ↓mg_19, ↓mp_20, ↓mg_20, ↓mp_21, ↓mg_21, ↓mg_22, ↓mg_23, ↓mg_24, ↓mg_25, ↓mg_26, ↓mg_27, ↓mg_28, ↓mg_29, ↓mg_30, ↓mg_31, ↓mg_32, ↓mg_33, ↓mg_34, ↓mp_35, ↓mg_35, ↓mp_36, ↓mg_36, ↓mg_37, ↓mg_38, ↓mg_39, ↓ma_1, ↓ms_1, ↓ma_2, ↓ms_2, ↓ma_3, ↓ms_3, ↓ma_4, ↓ms_4, ↓ma_5, ↓ms_5, ↓ma_6, ↓ms_6, ↓ma_9, ↓ms_9, ↓ma_10, ↓ms_10, ↓ma_11, ↓ms_11, ↓ma_12, ↓ms_12, ↓ma_13, ↓ms_13, ↓ma_14, ↓ms_14, ↓ma_15, ↓ms_15, ↓ma_16, ↓ms_16, ↓ma_17, ↓ms_17, ↓ma_18, ↓ms_18, ↓ma_19, ↓ms_19, ↓ma_20, ↓ms_20, ↓ma_21, ↓ms_21, ↓mo_q', ↓ma_L, ↓ms_L, ↓ma_Z, ↓ms_Z, mF_1, mF_2, mWd_1, mWd_w, mWd_2, mA_1, mA_w, mA_a, mA_v, mV_1, mV_w, mV_a, mV_v, mA_mA, mV_mV, mF_mF, nI_add, nI_cl, vpi, i01, i02, i10, i11, ↓reduceIte, not_true_eq_false, not_false_eq_true, and_true, true_and, ne_eq, Nat.reduceAdd, Nat.reduceMul, Nat.reduceSub, Nat.reduceEqDiff, reduceCtorEq, Nat.add_zero, Nat.zero_add, n0p, ite_true, ite_false, if_true, if_false, nlT, nlF, nleT, nleF, neT, neF, n0F, n0T, pk_sub, pk_mul, nIm1, nIm2, nlZ, nleZ, upd_s, upd_n, pk_uLs, pk_uLn, nar_0, nar_1, nar_n0, nar_n1, h19]
    exact h8 (by omega)
  · rw [mg_19, h19, if_pos (fun a => e8 ((nI_eq (by omega) (by omega)).mp a)), mg_19, h19, mp_19, nI_add]
    have hs2 : stM σ0 (mF σ 19 (nI (o + 1))) b n t0 P cd (o + 1) i w := by
      obtain ⟨h1, h2, h3, h4, h5, h6, h7⟩ := hs
      exact ⟨frP_t h1 (frP_F (by decide)), h2, h3, h4, rfl, h6, h7⟩
    refine ⟨mo_q, st_push hs2 hl hp (fun τ hτ => ?_)⟩
    rw [xrV_mk]
    refine ⟨mo_q, st_next hτ (fun τ2 hτ2 => ?_)⟩
    rw [xrV_mk]
    exact h (by omega) τ2 hτ2
theorem c_M_beginOne (hs : stM σ0 σ b n t0 P cd o i 0) (ho : o ≤ 8) (hl : P.length < 160)
    (hone : ∀ (op : Nat) (v : Int32) (k o' : Nat) (P' : List Nat), (tkT b n i = 1 ∧ tkV b n i ≤ 9999 ∧ op = 0 ∧ v = nI (tkV b n i)) ∨ (410 ≤ tkT b n i ∧ tkT b n i ≤ 417 ∧ op = 1 ∧ v = nI (tkT b n i - 410)) → P = rep2 k ++ P' → o = o' + k → topB 7 P' → ∀ σ', stM σ0 σ' b n t0 P' (cd ++ [(op, v)] ++ ops (rep2 k)) o' (i + 1) 1 → Q (some (.int (nI 0))) (mM q M0 σ'))
    (hdec : ∃ (k o' : Nat) (P' : List Nat), P = rep2 k ++ P' ∧ o = o' + k ∧ topB 7 P' ∧ cd.length + k ≤ 300)
    (hbig : tkT b n i = 1 → 9999 < tkV b n i → Q (some (.int (nI 2))) (mM q M0 σ))
    (hful : 8 ≤ o → (tkT b n i = 40 ∨ tkT b n i = 45 ∨ tkT b n i = 405 ∨ (tkT b n i = 409 ∧ askB e P = true)) → Q (some (.int (nI 3))) (mM q M0 σ))
    (hopn : o < 8 → ∀ op, (tkT b n i = 40 ∧ op = 40) ∨ (tkT b n i = 45 ∧ op = 2) ∨ (tkT b n i = 405 ∧ op = 41) ∨ (tkT b n i = 409 ∧ askB e P = true ∧ op = 20) → ∀ σ', stM σ0 σ' b n t0 (op :: P) cd (o + 1) (i + 1) 0 → Q (some (.int (nI 0))) (mM q M0 σ'))
    (hno : ¬ (tkT b n i = 1 ∨ (410 ≤ tkT b n i ∧ tkT b n i ≤ 417) ∨ tkT b n i = 40 ∨ tkT b n i = 45 ∨ tkT b n i = 405 ∨ (tkT b n i = 409 ∧ askB e P = true)) → Q (some (.int (nI 1))) (mM q M0 σ)) : xEv xP (xprim sa) (d + 5) m_M_beginOne [.ref q, .int (if e then 1 else 0)] (mM q M0 σ) Q := by
  have ht := hs.2.2.2.2.2.1
  have hp := hs.2.1
  obtain ⟨k, o', P', hP', ho', htop, hck⟩ := hdec
  generalize eT : tkT b n i = T at *
  have sg := fun c h1 h2 h3 => tk_sign ht hp (c := c) h1 h2 h3
  rw [eT] at sg
  have hk8 : k ≤ 8 := by omega
  -- a number or a name
  have one : ∀ (op : Nat) (v : Int32), (T = 1 ∧ tkV b n i ≤ 9999 ∧ op = 0 ∧ v = nI (tkV b n i)) ∨ (410 ≤ T ∧ T ≤ 417 ∧ op = 1 ∧ v = nI (T - 410)) → xEv xP (xprim sa) (d + 4) m_M_emit [.ref q, .int (nI op), .int v] (mM q M0 σ) (xrV fun M1 => xobj M1 q 12 ∧ xEv xP (xprim sa) (d + 4) m_M_nextToken [.ref q] M1 (xrV fun M2 => xobj M2 q 12 ∧ xEv xP (xprim sa) (d + 4) m_M_whole [.ref q] M2 (xrV fun M3 => Q (some (.int (nI 0))) M3))) := by
    intro op v hov
    refine st_emit hs (by omega) (fun τ hτ => ?_)
    rw [xrV_mk]
    refine ⟨mo_q, st_next hτ (fun τ2 hτ2 => ?_)⟩
    rw [xrV_mk]
    rw [hP', ho'] at hτ2
    refine ⟨mo_q, st_whole hτ2 (by rw [List.length_append, List.length_singleton]; omega) (by omega) htop (fun τ3 hτ3 => ?_)⟩
    rw [xrV_mk]
    exact hone op v k o' P' hov hP' ho' htop τ3 hτ3
  have opn : ∀ op, op < 64 → (T = 40 ∧ op = 40) ∨ (T = 45 ∧ op = 2) ∨ (T = 405 ∧ op = 41) ∨ (T = 409 ∧ askB e P = true ∧ op = 20) → xEv xP (xprim sa) (d + 4) m_M_opensBy [.ref q, .int (nI op)] (mM q M0 σ) (xrI fun r2 M2 => Q (some (.int r2)) M2) := by
    intro op hop hc
    refine c_M_opensBy hs ho hl hop (fun h8 => ?_) (fun h8 τ hτ => ?_)
    · rw [xrI_mk]
      refine hful h8 ?_
      rcases hc with h | h | h | h
      · exact Or.inl h.1
      · exact Or.inr (Or.inl h.1)
      · exact Or.inr (Or.inr (Or.inl h.1))
      · exact Or.inr (Or.inr (Or.inr ⟨h.1, h.2.1⟩))
    · rw [xrI_mk]
      exact hopn h8 op hc τ hτ
  -- behind the test of the number
  have k3 : ¬ (T = 1 ∧ 9999 < tkV b n i) → K_M_beginOne sa (d + 4) Q 3 [some (.ref q), some (.int (if e then 1 else 0)), none] [] (mM q M0 σ) (0, 0) := by
    intro hnb
    refine t_M_beginOne_3 ⟨mo_q, c_M_nameOf ht hp ?_⟩
    rw [eT, xrI_mk, mg_10]
    by_cases e1 : T = 1
    · have hv : tkV b n i ≤ 9999 := by omega
      rw [if_pos ((sg 1 (by omega) (by omega) (by omega)).mpr e1)]
      refine t_M_beginOne_5 ?_
      have e10 : σ.1 10 = nI 1 := (sg 1 (by omega) (by omega) (by omega)).mpr e1
      rw [mg_10, e10, if_neg (not_not_intro rfl), mg_10, e10, if_neg (not_not_intro rfl), mg_11]
      obtain ⟨r, hr, hr2, hr3⟩ := ht.2.2.choose_spec.2.2 (by rw [eT]; exact e1)
      rw [hr, show r = tkV b n i by omega]
      exact ⟨mo_q, one 0 _ (Or.inl ⟨e1, hv, rfl, rfl⟩)⟩
    · rw [if_neg (fun a => e1 ((sg 1 (by omega) (by omega) (by omega)).mp a))]
      have n1 : ¬ σ.1 10 = nI 1 := fun a => e1 ((sg 1 (by omega) (by omega) (by omega)).mp a)
      by_cases en : 410 ≤ T ∧ T ≤ 417
      · rw [if_pos en, if_neg (nI_pos (by omega))]
        refine t_M_beginOne_5 ?_
        rw [mg_10, if_pos n1, mg_10, if_pos n1]
        exact ⟨mo_q, one 1 _ (Or.inr ⟨en.1, en.2, rfl, rfl⟩)⟩
      · rw [if_neg en, if_pos (by decide), mg_10]
        by_cases e40 : T = 40
        · rw [if_neg (not_not_intro ((sg 40 (by omega) (by omega) (by omega)).mpr e40))]
          exact ⟨mo_q, opn 40 (by omega) (Or.inl ⟨e40, rfl⟩)⟩
        · rw [if_pos (fun a => e40 ((sg 40 (by omega) (by omega) (by omega)).mp a)), mg_10]
          by_cases e45 : T = 45
          · rw [if_neg (not_not_intro ((sg 45 (by omega) (by omega) (by omega)).mpr e45))]
            exact ⟨mo_q, opn 2 (by omega) (Or.inr (Or.inl ⟨e45, rfl⟩))⟩
          · rw [if_pos (fun a => e45 ((sg 45 (by omega) (by omega) (by omega)).mp a)), mg_10]
            have k19 : ¬ T = 405 → K_M_beginOne sa (d + 4) Q 19 [some (.ref q), some (.int (if e then 1 else 0)), none] [] (mM q M0 σ) (0, 0) := by
              intro e405
              refine t_M_beginOne_19 (kw_3 (k := 409) ht hp (by omega) (by omega) (by omega) (by omega) (by omega) (by omega) (by decide) ?_)
              rw [eT]
              by_cases e409 : T = 409
              · rw [if_pos e409, if_neg (by decide)]
                refine ⟨mo_q, c_M_isAskAhead hs.2.2.1 ?_⟩
                rw [xrI_mk]
                by_cases ea : askB e P = true
                · rw [if_pos ea, if_neg (by decide)]
                  exact ⟨mo_q, opn 20 (by omega) (Or.inr (Or.inr (Or.inr ⟨e409, ea, rfl⟩)))⟩
                · rw [if_neg ea, if_pos (by decide)]
                  refine hno (fun a => ?_)
                  rcases a with a | a | a | a | a | a
                  · exact e1 a
                  · exact en a
                  · exact e40 a
                  · exact e45 a
                  · exact e405 a
                  · exact ea a.2
              · rw [if_neg e409, if_pos (by decide)]
                refine hno (fun a => ?_)
                rcases a with a | a | a | a | a | a
                · exact e1 a
                · exact en a
                · exact e40 a
                · exact e45 a
                · exact e405 a
                · exact e409 a.1
            rcases tk_word ht hp with ⟨g1, g2, g3⟩ | ⟨g1, g2, g3⟩
            · rw [g1, if_neg (not_not_intro rfl), mg_12]
              have g4 := g3 405 (by omega) (by omega) (by omega)
              rw [eT, show lN (wdL (kwL 405) 0) = (26982 : Int64) from by decide] at g4
              by_cases e405 : T = 405
              · rw [if_neg (not_not_intro (g4.mpr e405))]
                exact ⟨mo_q, opn 41 (by omega) (Or.inr (Or.inr (Or.inl ⟨e405, rfl⟩)))⟩
              · rw [if_pos (fun a => e405 (g4.mp a))]
                exact k19 e405
            · rw [eT] at g1 g2 g3
              rw [g1, if_pos (fun a => g3 ((nI_eq (by omega) (by omega)).mp a))]
              exact k19 (by omega)
  refine t_M_beginOne ?_
  rw [mg_10]
  by_cases e1 : T = 1
  · rw [if_neg (not_not_intro ((sg 1 (by omega) (by omega) (by omega)).mpr e1)), mg_11]
    obtain ⟨r, hr, hr2, hr3⟩ := ht.2.2.choose_spec.2.2 (by rw [eT]; exact e1)
    rw [hr]
    by_cases hv : 9999 < tkV b n i
    · rw [if_neg (nI_ge (by omega) (by omega))]
      exact hbig e1 hv
    · rw [if_pos (nI_le (by omega) (by omega))]
      exact k3 (fun a => hv a.2)
  · rw [if_pos (fun a => e1 ((sg 1 (by omega) (by omega) (by omega)).mp a))]
    exact k3 (fun a => e1 a.1)
theorem c_M_betweenOf (hs : stM σ0 σ b n t0 P cd o i w) (h : Q (some (.int (oI (betN e P (tkT b n i))))) (mM q M0 σ)) : xEv xP (xprim sa) (d + 3) m_M_betweenOf [.ref q, .int (if e then 1 else 0)] (mM q M0 σ) Q := by
  have ht := hs.2.2.2.2.2.1
  have hp := hs.2.1
  have hP := hs.2.2.1
  generalize eT : tkT b n i = T at *
  have sg := fun c h1 h2 h3 => tk_sign ht hp (c := c) h1 h2 h3
  rw [eT] at sg
  refine t_M_betweenOf ?_
  unfold betN at h
  rw [mg_10]
  by_cases e1 : T = 43
  · rw [if_pos e1] at h
    rw [if_neg (not_not_intro ((sg 43 (by omega) (by omega) (by omega)).mpr e1))]
    exact h
  rw [if_neg e1] at h
  rw [if_pos (fun a => e1 ((sg 43 (by omega) (by omega) (by omega)).mp a)), mg_10]
  by_cases e2 : T = 45
  · rw [if_pos e2] at h
    rw [if_neg (not_not_intro ((sg 45 (by omega) (by omega) (by omega)).mpr e2))]
    exact h
  rw [if_neg e2] at h
  rw [if_pos (fun a => e2 ((sg 45 (by omega) (by omega) (by omega)).mp a)), mg_10]
  by_cases e3 : T = 42
  · rw [if_pos e3] at h
    rw [if_neg (not_not_intro ((sg 42 (by omega) (by omega) (by omega)).mpr e3))]
    exact h
  rw [if_neg e3] at h
  rw [if_pos (fun a => e3 ((sg 42 (by omega) (by omega) (by omega)).mp a)), mg_10]
  by_cases e4 : T = 47
  · rw [if_pos e4] at h
    rw [if_neg (not_not_intro ((sg 47 (by omega) (by omega) (by omega)).mpr e4))]
    exact h
  rw [if_neg e4] at h
  rw [if_pos (fun a => e4 ((sg 47 (by omega) (by omega) (by omega)).mp a))]
  refine ⟨mo_q, c_M_kindOpen hP ?_⟩
  rw [xrI_mk]
  have hk := koN_lt hP (e := e)
  by_cases ek : koN e P = 41
  · rw [if_pos ek] at h
    rw [if_pos (by rw [ek])]
    refine ⟨mo_q, c_M_isCompared hP ?_⟩
    rw [xrI_mk]
    by_cases ec : cpB P = true
    · rw [if_pos ec] at h
      rw [if_pos ec, if_pos (by decide)]
      refine kw_3 (k := 408) ht hp (by omega) (by omega) (by omega) (by omega) (by omega) (by omega) (by decide) ?_
      rw [eT]
      by_cases e408 : T = 408
      · rw [if_pos e408] at h
        rw [if_pos e408, if_neg (by decide)]
        exact h
      · rw [if_neg e408] at h
        rw [if_neg e408, if_pos (by decide), mg_10]
        rcases tk_word ht hp with ⟨g1, g2, g3⟩ | ⟨g1, g2, g3⟩
        · rw [g1, if_neg (not_not_intro rfl), mg_12]
          have g4 := g3 407 (by omega) (by omega) (by omega)
          rw [eT, show lN (wdL (kwL 407) 0) = (28530 : Int64) from by decide] at g4
          by_cases e407 : T = 407
          · rw [if_pos e407] at h
            rw [if_neg (not_not_intro (g4.mpr e407))]
            exact h
          · rw [if_neg e407] at h
            rw [if_pos (fun a => e407 (g4.mp a))]
            exact h
        · rw [eT] at g1 g2 g3
          rw [if_neg (by omega)] at h
          rw [g1, if_pos (fun a => g3 ((nI_eq (by omega) (by omega)).mp a))]
          exact h
    · rw [if_neg ec] at h
      rw [if_neg ec, if_neg (by decide)]
      refine ⟨mo_q, c_M_compareOf ht hp ?_⟩
      rw [eT, xrI_mk]
      by_cases e0 : cmpK T = 0
      · rw [if_pos e0] at h ⊢
        exact h
      · rw [if_neg e0] at h ⊢
        exact h
  · rw [if_neg ek] at h
    rw [if_neg (fun a => ek ((nI_eq (by omega) (by omega)).mp a))]
    exact h
end MB
