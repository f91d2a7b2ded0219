/-! memory that grows: cells laid one behind another; the reference is made -/
def lM (q : Nat) (M0 : xM) (cs : List xE) : xM := fun x => if q ≤ x ∧ x < q + cs.length then cs[x - q]? else M0 x
theorem lM_at {q : Nat} {M0 : xM} {cs : List xE} {k : Nat} {e : xE} (h : cs[k]? = some e) : lM q M0 cs (q + k) = some e := by
  unfold lM
  have := gt_lt h
  rw [if_pos (by omega), Nat.add_sub_cancel_left]
  exact h
theorem lM_top {q : Nat} {M0 : xM} {cs : List xE} (ht : xtop M0 q) {q' : Nat} (h : xtop (lM q M0 cs) q') : q' = q + cs.length := by
  have h1 : lM q M0 cs (q + cs.length) = none := by
    unfold lM
    rw [if_neg (by omega)]
    exact (ht _).mpr (by omega)
  have h2 : q' ≤ q + cs.length := (h _).mp h1
  rcases Nat.lt_or_ge q' (q + cs.length) with a | a
  · exfalso
    have h3 : lM q M0 cs q' = none := (h q').mpr (Nat.le_refl _)
    unfold lM at h3
    by_cases e : q ≤ q' ∧ q' < q + cs.length
    · rw [if_pos e, List.getElem?_eq_getElem (by omega)] at h3
      exact nomatch h3
    · rw [if_neg e] at h3
      have := (ht q').mp h3
      omega
  · omega
theorem lM_set {q : Nat} {M0 : xM} {cs : List xE} {k : Nat} {e : xE} (h : k < cs.length) : xset (lM q M0 cs) (q + k) e = lM q M0 (cs.set k e) := by
  funext x
  unfold xset lM
  rw [List.length_set]
  by_cases ex : x = q + k
  · subst ex
    rw [if_pos rfl, if_pos (by omega), Nat.add_sub_cancel_left, List.getElem?_set_self h]
  · rw [if_neg ex]
    by_cases er : q ≤ x ∧ x < q + cs.length
    · rw [if_pos er, if_pos er, List.getElem?_set_ne (by omega)]
    · rw [if_neg er, if_neg er]
theorem lM_app {q : Nat} {M0 : xM} {cs : List xE} {e : xE} : xset (lM q M0 cs) (q + cs.length) e = lM q M0 (cs ++ [e]) := by
  funext x
  unfold xset lM
  rw [List.length_append, List.length_singleton]
  by_cases ex : x = q + cs.length
  · subst ex
    rw [if_pos rfl, if_pos (by omega), Nat.add_sub_cancel_left, List.getElem?_append_right (Nat.le_refl _), Nat.sub_self]
    rfl
  · rw [if_neg ex]
    by_cases er : q ≤ x ∧ x < q + cs.length
    · rw [if_pos er, if_pos (by omega), List.getElem?_append_left (by omega)]
    · rw [if_neg er, if_neg (by omega)]
theorem lM_0 {q : Nat} {M0 : xM} : lM q M0 [] = M0 := by
  funext x
  unfold lM
  exact if_neg (by rw [List.length_nil]; omega)
theorem lM_new {q : Nat} {M0 : xM} {e : xE} : xset M0 q e = lM q M0 [e] := by
  have := lM_app (q := q) (M0 := M0) (cs := []) (e := e)
  rw [lM_0] at this
  exact this
section AL
variable {q : Nat} {M0 : xM} {cs : List xE} {u : xU}
theorem al_l (ht : xtop M0 q) {n : Nat} {e : xE} {K : Nat → xM → xU → Prop} (h1 : 1 ≤ u.1) (h2 : n ≤ u.2) (h : K (q + cs.length) (lM q M0 (cs ++ [e])) (u.1 - 1, u.2 - n)) : xalloc (lM q M0 cs) u n e K := by
  refine ⟨h1, h2, fun q' hq' => ?_⟩
  rw [lM_top ht hq', lM_app]
  exact h
theorem pf_l {k ci j : Nat} {fs : List Value} {v : Value} {K : xM → Prop} (hk : cs[k]? = some (.inr (ci, fs))) (h : K (lM q M0 (cs.set k (.inr (ci, fs.set j v))))) : xpf (lM q M0 cs) (q + k) ci j v K := by
  unfold xpf
  rw [lM_at hk]
  dsimp only
  rw [lM_set (gt_lt hk)]
  exact ⟨rfl, h⟩
end AL
theorem ivB_31 {v : Int32} : ∃ R : Nat, 3 ≤ R ∧ R ≤ 9 ∧ (if nI 3 ≤ v then (if v ≤ nI 9 then v else nI 9) else nI 3) = nI R := by
  by_cases h3 : nI 3 ≤ v
  · rw [if_pos h3]
    by_cases h9 : v ≤ nI 9
    · rw [if_pos h9]
      obtain ⟨r, hr, e⟩ := nI_rng (Int32.le_trans (by decide) h3) h9 (by omega)
      refine ⟨r, ?_, hr, e⟩
      rw [e] at h3
      have := Int32.le_iff_toInt_le.mp h3
      rw [nI_i (by omega), nI_i (by omega)] at this
      omega
    · rw [if_neg h9]
      exact ⟨9, by omega, by omega, rfl⟩
  · rw [if_neg h3]
    exact ⟨3, by omega, by omega, rfl⟩
/-- the rooms that a constructor makes of its argument -/
def rooV (v : Int32) : Nat := cN (if nI 3 ≤ v then (if v ≤ nI 9 then v else nI 9) else nI 3)
theorem rooV_e {v : Int32} : 3 ≤ rooV v ∧ rooV v ≤ 9 ∧ (if nI 3 ≤ v then (if v ≤ nI 9 then v else nI 9) else nI 3) = nI (rooV v) := by
  obtain ⟨R, h3, h9, e⟩ := ivB_31 (v := v)
  have : rooV v = R := by unfold rooV; rw [e]; exact nI_cl (by omega)
  rw [this]
  exact ⟨h3, h9, e⟩
/-- the settings of a new council -/
def newB : Nat → Int32 := fun j => if j = 1 then -1 else if j = 4 then -1 else if 40 ≤ j ∧ j < 67 ∧ (j - 40) % 3 ≠ 2 then -1 else 0
def newA : aS := (newB, beginRow (fun _ => 0), [])
def newS : fS := (newA, newA, (fun _ => []), (fun _ => 0), 0, -1, -1)
theorem newB_ok {R : Nat} (h3 : 3 ≤ R) (h9 : R ≤ 9) : okF R newS := by
  have hs : okS R newA := by
    refine ⟨⟨0, by omega, rfl, Or.inl rfl⟩, ⟨0, by omega, rfl, Or.inl ⟨rfl, rfl⟩, fun j hj => absurd hj (Nat.not_lt_zero j)⟩, fun i hi => ?_, fun i hi => ?_, fun k hk => ?_, ⟨?_, ?_, ?_⟩, Nat.zero_le _, fun j g hg => ?_⟩
    · have e1 : newB (10 + i) = 0 := by unfold newB; rw [if_neg (by omega), if_neg (by omega), if_neg (by omega)]
      have e2 : newB (20 + i) = 0 := by unfold newB; rw [if_neg (by omega), if_neg (by omega), if_neg (by omega)]
      have e3 : newB (30 + i) = 0 := by unfold newB; rw [if_neg (by omega), if_neg (by omega), if_neg (by omega)]
      have e4 : newB (42 + 3 * i) = 0 := by unfold newB; rw [if_neg (by omega), if_neg (by omega), if_neg (by omega)]
      show iv (newB (10 + i)) 0 (nI 2) ∧ iv (newB (20 + i)) 0 (nI 9) ∧ (R ≤ i → newB (20 + i) = 0) ∧ (newB (30 + i) = 0 ∨ newB (30 + i) = 1) ∧ (newB (42 + 3 * i) = 0 ∨ newB (42 + 3 * i) = 1)
      rw [e1, e2, e3, e4]
      exact ⟨⟨by decide, by decide⟩, ⟨by decide, by decide⟩, fun _ => rfl, Or.inl rfl, Or.inl rfl⟩
    · have e1 : newB (40 + 3 * i) = -1 := by unfold newB; rw [if_neg (by omega), if_neg (by omega), if_pos (by omega)]
      have e2 : newB (41 + 3 * i) = -1 := by unfold newB; rw [if_neg (by omega), if_neg (by omega), if_pos (by omega)]
      show iv (newB (40 + 3 * i)) _ _ ∧ iv (newB (41 + 3 * i)) _ _
      rw [e1, e2]
      exact ⟨ivm1, ivm1⟩
    · have e1 : newB (70 + k) = 0 := by unfold newB; rw [if_neg (by omega), if_neg (by omega), if_neg (by omega)]
      exact Or.inl e1
    · exact beg_rk (fun i hi => ⟨by decide, by decide⟩)
    · exact beg_cn (fun i hi hR => rfl)
    · exact ⟨by decide, by decide⟩
    · exact absurd hg (by simp [newA])
  refine ⟨h3, h9, hs, hs, Int.le_refl _, Nat.zero_le _, fun j hj => absurd hj (Nat.not_lt_zero j), fun t ht => ?_⟩
  have ht : (t : Int) < (newB 0).toInt := ht
  have : (newB 0).toInt = 0 := rfl
  omega
def fld0 : List Value := [.null, .null, .int 0, .null, .null, .int 0, .int 0, .int 0, .int 0, .int 0, .int 0, .int 0, .long 0, .int 0, .int 0, .int 0, .int 0, .null, .int 0, .int 0, .int 0, .int 0, .null, .null, .null, .null, .null, .null, .null, .null, .null, .null, .null, .null, .null, .int 0, .int 0, .null, .null, .null]
/-- its cells, just laid -/
def sig0 : mS := ((fun j => if j = 6 then -1 else if j = 7 then -1 else 0), 0, (fun _ _ => 0), fun _ => 0)
def z0 (n : Nat) : xE := .inl (0, n, .inl (fun _ => 0))
def cs22 (q : Nat) : List xE := [.inr (12, mFld q sig0), z0 1420, z0 1420, z0 2580, z0 300, z0 160, z0 8, .inl (2, 330, .inr (.inl (fun _ => 0))), .inl (1, 330, .inl (fun _ => 0)), z0 9, z0 9, z0 60, z0 540000, z0 9, z0 18000, z0 18000, z0 2000, z0 4096, z0 2, z0 30, z0 30, z0 400]
theorem lM_mM {q : Nat} {M0 : xM} : lM q M0 (cs22 q) = mM q M0 sig0 := by
  funext x
  unfold lM mM
  rw [show (cs22 q).length = 22 from rfl]
  by_cases h : q ≤ x ∧ x < q + 22
  · rw [if_pos h, if_pos h]
    generalize ek : x - q = k
    have hk : k < 22 := by omega
    rcases (show k = 0 ∨ k = 1 ∨ k = 2 ∨ k = 3 ∨ k = 4 ∨ k = 5 ∨ k = 6 ∨ k = 7 ∨ k = 8 ∨ k = 9 ∨ k = 10 ∨ k = 11 ∨ k = 12 ∨ k = 13 ∨ k = 14 ∨ k = 15 ∨ k = 16 ∨ k = 17 ∨ k = 18 ∨ k = 19 ∨ k = 20 ∨ k = 21 by omega) with rfl | rfl | rfl | rfl | rfl | rfl | rfl | rfl | rfl | rfl | rfl | rfl | rfl | rfl | rfl | rfl | rfl | rfl | rfl | rfl | rfl | rfl <;> rfl
  · rw [if_neg h, if_neg h]
section MI
variable {sa : Nat → Nat} {d : Nat} {Q : xQ} {q : Nat} {M0 : xM}
/-- the lies, none so far -/
def liN (n : Nat) : Nat → Int32 := fun j => if j = 1 then -1 else if j = 4 then -1 else if 40 ≤ j ∧ j < 40 + 3 * n ∧ (j - 40) % 3 ≠ 2 then -1 else 0
theorem c_M_init (ht : xtop M0 q) {v : Int32} (h : ∀ σ', mR (rooV v) σ' newS → Q none (mM q M0 σ')) : xEv xP (xprim sa) (d + 2) m_M_init [.ref q, .int v] (lM q M0 [.inr (12, fld0)]) Q := by
  refine t_M_init ?_
  have k6 : ∀ (m n : Nat) (σ : mS) (u : xU), m + n = 9 → σ.1 2 = nI (rooV v) → σ.1 5 = 0 → σ.1 6 = -1 → σ.1 7 = -1 → K_M_init sa (d + 1) Q 6 [some (.ref q), none, some (.int (nI n))] [] (mM q M0 (mA σ 1 (liN n))) u := by
    intro m
    induction m with
    | zero =>
      intro n σ u hn e2 e5 e6 e7
      refine t_M_init_6 ?_
      simp (disch := omega) only [↓i01, ↓i02, ↓xrI_mk, ↓xrV_mk, ↓xrL_mk, ↓xrR_mk, ↓mg_0, ↓mg_1, ↓mp_2, ↓mg_2, ↓mg_3, ↓mg_4, ↓mp_5, ↓mg_5, ↓mp_6, ↓mg_6, ↓mp_7, ↓mg_7, ↓mp_8, ↓mg_8, ↓mp_9, ↓mg_9, ↓mp_10, ↓mg_10, ↓mp_11, ↓mg_11, ↓mp_12, ↓mg_12, ↓mp_13, ↓mg_13, ↓mp_14, ↓mg_14, ↓mp_15, ↓mg_15, ↓mp_16, ↓mg_16, ↓mg_17, ↓mp_18, ↓mg_18, ↓mp_19, ↓mg_19, ↓mp_20, ↓mg_20, ↓mp_21, ↓mg_21, ↓mg_22, ↓mg_23, ↓mg_24, ↓mg_25, ↓mg_26, ↓mg_27, ↓mg_28, ↓mg_29, ↓mg_30, ↓mg_31, ↓mg_32, ↓mg_33, ↓mg_34, ↓mp_35, ↓mg_35, ↓mp_36, ↓mg_36, ↓mg_37, ↓mg_38, ↓mg_39, ↓ma_1, ↓ms_1, ↓ma_2, ↓ms_2, ↓ma_3, ↓ms_3, ↓ma_4, ↓ms_4, ↓ma_5, ↓ms_5, ↓ma_6, ↓ms_6, ↓ma_9, ↓ms_9, ↓ma_10, ↓ms_10, ↓ma_11, ↓ms_11, ↓ma_12, ↓ms_12, ↓ma_13, ↓ms_13, ↓ma_14, ↓ms_14, ↓ma_15, ↓ms_15, ↓ma_16, ↓ms_16, ↓ma_17, ↓ms_17, ↓ma_18, ↓ms_18, ↓ma_19, ↓ms_19, ↓ma_20, ↓ms_20, ↓ma_21, ↓ms_21, ↓mo_q', ↓ma_L, ↓ms_L, ↓ma_Z, ↓ms_Z, mF_1, mF_2, mWd_1, mWd_w, mWd_2, mA_1, mA_w, mA_a, mA_v, mV_1, mV_w, mV_a, mV_v, mA_mA, mV_mV, mF_mF, nI_add, nI_cl, vpi, i01, i02, i10, i11, ↓reduceIte, not_true_eq_false, not_false_eq_true, and_true, true_and, ne_eq, Nat.reduceAdd, Nat.reduceMul, Nat.reduceSub, Nat.reduceEqDiff, reduceCtorEq, Nat.add_zero, Nat.zero_add, n0p, ite_true, ite_false, if_true, if_false, nlT, nlF, nleT, nleF, neT, neF, n0F, n0T, pk_sub, pk_mul, nIm1, nIm2, nlZ, nleZ, upd_s, upd_n, pk_uLs, pk_uLn, nar_0, nar_1, nar_n0, nar_n1]
      have en : n = 9 := by omega
      subst en
      refine c_M_begin (k := 1) rfl (by decide) (by decide) (fun _ => by omega) ?_
      rw [xrV_mk, mg_0, mg_1]
      refine c_M_copy (k := 1) (k' := 2) rfl rfl (by decide) rfl rfl ?_
      rw [xrV_mk]
      have rA1 : rA (lay (liN 9) 190 29 (beginRow (fun i => liN 9 (20 + i)))) newA := by
        refine ⟨fun j hj hj2 => ?_, ?_, fun e he => ?_, fun j g hg => ?_⟩
        · rw [lay_out (by omega)]
          show liN 9 j = newB j
          unfold liN newB
          rfl
        · rw [lay_out (by omega)]; rfl
        · rw [lay_in he, beg_c (g := fun _ => 0) (fun i hi => by unfold liN; rw [if_neg (by omega), if_neg (by omega), if_neg (by omega)])]; rfl
        · exact absurd hg (by simp [newA])
      refine h _ ⟨e2, ?_, ?_, fun t ht => ?_, e5, fun j hj => absurd hj (Nat.not_lt_zero j), e6, e7⟩
      · show rA (lay (liN 9) 190 29 (beginRow (fun i => liN 9 (20 + i)))) newA
        exact rA1
      · show rA (lay (σ.2.2.1 2) 0 1420 (lay (liN 9) 190 29 (beginRow (fun i => liN 9 (20 + i))))) newA
        exact rA_lay rA1 (by show 0 ≤ 40; omega)
      · have ht : (t : Int) < (newB 0).toInt := ht
        have : (newB 0).toInt = 0 := rfl
        omega
    | succ m ih =>
      intro n σ u hn e2 e5 e6 e7
      refine t_M_init_6 ?_
      simp (disch := omega) only [↓i01, ↓i02, ↓xrI_mk, ↓xrV_mk, ↓xrL_mk, ↓xrR_mk, ↓mg_0, ↓mg_1, ↓mp_2, ↓mg_2, ↓mg_3, ↓mg_4, ↓mp_5, ↓mg_5, ↓mp_6, ↓mg_6, ↓mp_7, ↓mg_7, ↓mp_8, ↓mg_8, ↓mp_9, ↓mg_9, ↓mp_10, ↓mg_10, ↓mp_11, ↓mg_11, ↓mp_12, ↓mg_12, ↓mp_13, ↓mg_13, ↓mp_14, ↓mg_14, ↓mp_15, ↓mg_15, ↓mp_16, ↓mg_16, ↓mg_17, ↓mp_18, ↓mg_18, ↓mp_19, ↓mg_19, ↓mp_20, ↓mg_20, ↓mp_21, ↓mg_21, ↓mg_22, ↓mg_23, ↓mg_24, ↓mg_25, ↓mg_26, ↓mg_27, ↓mg_28, ↓mg_29, ↓mg_30, ↓mg_31, ↓mg_32, ↓mg_33, ↓mg_34, ↓mp_35, ↓mg_35, ↓mp_36, ↓mg_36, ↓mg_37, ↓mg_38, ↓mg_39, ↓ma_1, ↓ms_1, ↓ma_2, ↓ms_2, ↓ma_3, ↓ms_3, ↓ma_4, ↓ms_4, ↓ma_5, ↓ms_5, ↓ma_6, ↓ms_6, ↓ma_9, ↓ms_9, ↓ma_10, ↓ms_10, ↓ma_11, ↓ms_11, ↓ma_12, ↓ms_12, ↓ma_13, ↓ms_13, ↓ma_14, ↓ms_14, ↓ma_15, ↓ms_15, ↓ma_16, ↓ms_16, ↓ma_17, ↓ms_17, ↓ma_18, ↓ms_18, ↓ma_19, ↓ms_19, ↓ma_20, ↓ms_20, ↓ma_21, ↓ms_21, ↓mo_q', ↓ma_L, ↓ms_L, ↓ma_Z, ↓ms_Z, mF_1, mF_2, mWd_1, mWd_w, mWd_2, mA_1, mA_w, mA_a, mA_v, mV_1, mV_w, mV_a, mV_v, mA_mA, mV_mV, mF_mF, nI_add, nI_cl, vpi, i01, i02, i10, i11, ↓reduceIte, not_true_eq_false, not_false_eq_true, and_true, true_and, ne_eq, Nat.reduceAdd, Nat.reduceMul, Nat.reduceSub, Nat.reduceEqDiff, reduceCtorEq, Nat.add_zero, Nat.zero_add, n0p, ite_true, ite_false, if_true, if_false, nlT, nlF, nleT, nleF, neT, neF, n0F, n0T, pk_sub, pk_mul, nIm1, nIm2, nlZ, nleZ, upd_s, upd_n, pk_uLs, pk_uLn, nar_0, nar_1, nar_n0, nar_n1]
      have := ih (n + 1) σ u (by omega) e2 e5 e6 e7
      have el : upd (upd (liN n) (40 + 3 * n) (-1)) (40 + 3 * n + 1) (-1) = liN (n + 1) := by
        funext j
        unfold upd liN
        by_cases e1 : j = 40 + 3 * n + 1
        · rw [if_pos e1, if_neg (by omega), if_neg (by omega), if_pos (by omega)]
        · rw [if_neg e1]
          by_cases e0 : j = 40 + 3 * n
          · rw [if_pos e0, if_neg (by omega), if_neg (by omega), if_pos (by omega)]
          · rw [if_neg e0]
            by_cases a1 : j = 1
            · rw [if_pos a1, if_pos a1]
            · rw [if_neg a1, if_neg a1]
              by_cases a4 : j = 4
              · rw [if_pos a4, if_pos a4]
              · rw [if_neg a4, if_neg a4]
                by_cases c : 40 ≤ j ∧ j < 40 + 3 * n ∧ (j - 40) % 3 ≠ 2
                · rw [if_pos c, if_pos (by omega)]
                · rw [if_neg c, if_neg (by omega)]
      rw [el]
      exact this
  have k5 : ∀ u : xU, K_M_init sa (d + 1) Q 5 [some (.ref q), none, none] [.int (nI (rooV v)), .ref q] (mM q M0 sig0) u := by
    intro u
    refine t_M_init_5 ?_
    rw [mp_2, mg_0, ms_1]
    refine ⟨vp_in_nI (by omega) (by omega), ?_⟩
    rw [mg_0, ms_1]
    refine ⟨vp_in_nI (by omega) (by omega), ?_⟩
    have := k6 9 0 (mF sig0 2 (nI (rooV v))) u rfl rfl rfl rfl rfl
    have el : liN 0 = upd (upd (fun _ => 0) 1 (-1)) 4 (-1) := by
      funext j
      unfold liN upd
      by_cases a4 : j = 4
      · rw [if_pos a4, if_neg (by omega), if_pos a4]
      · rw [if_neg a4, if_neg a4]
        by_cases a1 : j = 1
        · rw [if_pos a1, if_pos a1]
        · rw [if_neg a1, if_neg a1, if_neg (by omega)]
    rw [el] at this
    rw [mA_mA]
    exact this
  have fin : ∀ u : xU, (if nI 3 ≤ v then (if v ≤ nI 9 then K_M_init sa (d + 1) Q 5 [some (.ref q), none, none] [.int v, .ref q] (mM q M0 sig0) u else K_M_init sa (d + 1) Q 5 [some (.ref q), none, none] [.int (nI 9), .ref q] (mM q M0 sig0) u) else K_M_init sa (d + 1) Q 5 [some (.ref q), none, none] [.int (nI 3), .ref q] (mM q M0 sig0) u) := by
    intro u
    have e := (rooV_e (v := v)).2.2
    have k5 := k5 u
    rw [← e] at k5
    by_cases h3 : nI 3 ≤ v
    · rw [if_pos h3] at k5 ⊢
      by_cases h9 : v ≤ nI 9
      · rw [if_pos h9] at k5 ⊢; exact k5
      · rw [if_neg h9] at k5 ⊢; exact k5
    · rw [if_neg h3] at k5 ⊢; exact k5
  rw [← lM_mM] at fin
  have nn : ∀ n : Nat, n ≤ 1000000 → ¬ nI n < 0 ∧ (nI n).toNatClampNeg = n := fun n hn => ⟨nI_pos (by omega), nI_cl (by omega)⟩
  simp only [(nn 1420 (by omega)).2, (nn 2580 (by omega)).2, (nn 300 (by omega)).2, (nn 160 (by omega)).2, (nn 8 (by omega)).2, (nn 330 (by omega)).2, (nn 9 (by omega)).2, (nn 60 (by omega)).2, (nn 540000 (by omega)).2, (nn 18000 (by omega)).2, (nn 2000 (by omega)).2, (nn 4096 (by omega)).2, (nn 2 (by omega)).2, (nn 30 (by omega)).2, (nn 400 (by omega)).2]
  unfold fld0
  refine ⟨(nn 1420 (by omega)).1, by omega, al_l ht (by omega) (by omega) (pf_l (k := 0) rfl ?_)⟩
  simp only [List.cons_append, List.nil_append, List.set_cons_zero, List.set_cons_succ, List.length_cons, List.length_nil, Nat.reduceAdd, Nat.reduceSub]
  refine ⟨(nn 1420 (by omega)).1, by omega, al_l ht (by omega) (by omega) (pf_l (k := 0) rfl ?_)⟩
  simp only [List.cons_append, List.nil_append, List.set_cons_zero, List.set_cons_succ, List.length_cons, List.length_nil, Nat.reduceAdd, Nat.reduceSub]
  refine ⟨(nn 2580 (by omega)).1, by omega, al_l ht (by omega) (by omega) (pf_l (k := 0) rfl ?_)⟩
  simp only [List.cons_append, List.nil_append, List.set_cons_zero, List.set_cons_succ, List.length_cons, List.length_nil, Nat.reduceAdd, Nat.reduceSub]
  refine ⟨(nn 300 (by omega)).1, by omega, al_l ht (by omega) (by omega) (pf_l (k := 0) rfl (pf_l (k := 0) rfl (pf_l (k := 0) rfl ?_)))⟩
  simp only [List.cons_append, List.nil_append, List.set_cons_zero, List.set_cons_succ, List.length_cons, List.length_nil, Nat.reduceAdd, Nat.reduceSub]
  refine ⟨(nn 160 (by omega)).1, by omega, al_l ht (by omega) (by omega) (pf_l (k := 0) rfl ?_)⟩
  simp only [List.cons_append, List.nil_append, List.set_cons_zero, List.set_cons_succ, List.length_cons, List.length_nil, Nat.reduceAdd, Nat.reduceSub]
  refine ⟨(nn 8 (by omega)).1, by omega, al_l ht (by omega) (by omega) (pf_l (k := 0) rfl ?_)⟩
  simp only [List.cons_append, List.nil_append, List.set_cons_zero, List.set_cons_succ, List.length_cons, List.length_nil, Nat.reduceAdd, Nat.reduceSub]
  refine ⟨(nn 330 (by omega)).1, by omega, al_l ht (by omega) (by omega) (pf_l (k := 0) rfl ?_)⟩
  simp only [List.cons_append, List.nil_append, List.set_cons_zero, List.set_cons_succ, List.length_cons, List.length_nil, Nat.reduceAdd, Nat.reduceSub]
  refine ⟨(nn 330 (by omega)).1, by omega, al_l ht (by omega) (by omega) (pf_l (k := 0) rfl ?_)⟩
  simp only [List.cons_append, List.nil_append, List.set_cons_zero, List.set_cons_succ, List.length_cons, List.length_nil, Nat.reduceAdd, Nat.reduceSub]
  refine ⟨(nn 9 (by omega)).1, by omega, al_l ht (by omega) (by omega) (pf_l (k := 0) rfl ?_)⟩
  simp only [List.cons_append, List.nil_append, List.set_cons_zero, List.set_cons_succ, List.length_cons, List.length_nil, Nat.reduceAdd, Nat.reduceSub]
  refine ⟨(nn 9 (by omega)).1, by omega, al_l ht (by omega) (by omega) (pf_l (k := 0) rfl ?_)⟩
  simp only [List.cons_append, List.nil_append, List.set_cons_zero, List.set_cons_succ, List.length_cons, List.length_nil, Nat.reduceAdd, Nat.reduceSub]
  refine ⟨(nn 60 (by omega)).1, by omega, al_l ht (by omega) (by omega) (pf_l (k := 0) rfl ?_)⟩
  simp only [List.cons_append, List.nil_append, List.set_cons_zero, List.set_cons_succ, List.length_cons, List.length_nil, Nat.reduceAdd, Nat.reduceSub]
  refine ⟨(nn 540000 (by omega)).1, by omega, al_l ht (by omega) (by omega) (pf_l (k := 0) rfl ?_)⟩
  simp only [List.cons_append, List.nil_append, List.set_cons_zero, List.set_cons_succ, List.length_cons, List.length_nil, Nat.reduceAdd, Nat.reduceSub]
  refine ⟨(nn 9 (by omega)).1, by omega, al_l ht (by omega) (by omega) (pf_l (k := 0) rfl ?_)⟩
  simp only [List.cons_append, List.nil_append, List.set_cons_zero, List.set_cons_succ, List.length_cons, List.length_nil, Nat.reduceAdd, Nat.reduceSub]
  refine ⟨(nn 18000 (by omega)).1, by omega, al_l ht (by omega) (by omega) (pf_l (k := 0) rfl ?_)⟩
  simp only [List.cons_append, List.nil_append, List.set_cons_zero, List.set_cons_succ, List.length_cons, List.length_nil, Nat.reduceAdd, Nat.reduceSub]
  refine ⟨(nn 18000 (by omega)).1, by omega, al_l ht (by omega) (by omega) (pf_l (k := 0) rfl ?_)⟩
  simp only [List.cons_append, List.nil_append, List.set_cons_zero, List.set_cons_succ, List.length_cons, List.length_nil, Nat.reduceAdd, Nat.reduceSub]
  refine ⟨(nn 2000 (by omega)).1, by omega, al_l ht (by omega) (by omega) (pf_l (k := 0) rfl ?_)⟩
  simp only [List.cons_append, List.nil_append, List.set_cons_zero, List.set_cons_succ, List.length_cons, List.length_nil, Nat.reduceAdd, Nat.reduceSub]
  refine ⟨(nn 4096 (by omega)).1, by omega, al_l ht (by omega) (by omega) (pf_l (k := 0) rfl ?_)⟩
  simp only [List.cons_append, List.nil_append, List.set_cons_zero, List.set_cons_succ, List.length_cons, List.length_nil, Nat.reduceAdd, Nat.reduceSub]
  refine ⟨(nn 2 (by omega)).1, by omega, al_l ht (by omega) (by omega) (pf_l (k := 0) rfl ?_)⟩
  simp only [List.cons_append, List.nil_append, List.set_cons_zero, List.set_cons_succ, List.length_cons, List.length_nil, Nat.reduceAdd, Nat.reduceSub]
  refine ⟨(nn 30 (by omega)).1, by omega, al_l ht (by omega) (by omega) (pf_l (k := 0) rfl ?_)⟩
  simp only [List.cons_append, List.nil_append, List.set_cons_zero, List.set_cons_succ, List.length_cons, List.length_nil, Nat.reduceAdd, Nat.reduceSub]
  refine ⟨(nn 30 (by omega)).1, by omega, al_l ht (by omega) (by omega) (pf_l (k := 0) rfl ?_)⟩
  simp only [List.cons_append, List.nil_append, List.set_cons_zero, List.set_cons_succ, List.length_cons, List.length_nil, Nat.reduceAdd, Nat.reduceSub]
  refine ⟨(nn 400 (by omega)).1, by omega, al_l ht (by omega) (by omega) (pf_l (k := 0) rfl ?_)⟩
  simp only [List.cons_append, List.nil_append, List.set_cons_zero, List.set_cons_succ, List.length_cons, List.length_nil, Nat.reduceAdd, Nat.reduceSub]
  exact fin _
end MI
