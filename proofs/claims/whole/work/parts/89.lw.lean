/-! the law: both sides are made, then each call goes to both -/
theorem xite {P : Prop} {A B : Prop} {i : Decidable P} (h1 : P → A) (h2 : ¬ P → B) : @ite Prop P i A B := by
  by_cases h : P
  · rw [if_pos h]; exact h1 h
  · rw [if_neg h]; exact h2 h
theorem mM_cM {c R : Nat} {M0 : xM} {τ : cS} {σ : mS} : mM (c + 475) (cM c R M0 τ) σ = cM c R (mM (c + 475) M0 σ) τ := by
  funext x
  unfold mM cM
  dsimp only
  by_cases h1 : c + 475 ≤ x ∧ x < c + 475 + 22
  · rw [if_pos h1, if_neg (by omega), if_pos h1]
  · rw [if_neg h1, if_neg h1]
theorem top_c {c R : Nat} {M0 : xM} {τ : cS} (ht : xtop M0 c) : xtop (cM c R M0 τ) (c + 475) := by
  intro x
  unfold cM
  by_cases h : c ≤ x ∧ x < c + 475
  · rw [if_pos h]
    constructor
    · intro a; exact nomatch a
    · intro a; omega
  · rw [if_neg h, ht x]
    omega
theorem al_0 {q : Nat} {M0 : xM} {u : xU} (ht : xtop M0 q) {n : Nat} {e : xE} {K : Nat → xM → xU → Prop} (h1 : 1 ≤ u.1) (h2 : n ≤ u.2) (h : K q (lM q M0 [e]) (u.1 - 1, u.2 - n)) : xalloc M0 u n e K := by
  refine ⟨h1, h2, fun q' hq' => ?_⟩
  have e1 : q' ≤ q := (hq' q).mp ((ht q).mpr (Nat.le_refl _))
  have e2 : q ≤ q' := (ht q').mp ((hq' q').mpr (Nat.le_refl _))
  have e : q' = q := by omega
  rw [e, lM_new]
  exact h
section LW
variable {sa : Nat → Nat} {Q : xQ} {c R b L : Nat} {M0 M : xM} {xs : Nat → Int32} {τ : cS} {σ : mS} {s : fS}
theorem aI_b (hb : M b = some (.inl (7, L, .inl xs))) {i : Int32} {K : Int32 → Prop} (hi : vp_in i L) (h : K (xs i.toNatClampNeg)) : xaI M b i K := by
  unfold xaI
  rw [hb]
  exact ⟨Or.inr rfl, hi, h⟩
theorem len_b (hb : M b = some (.inl (7, L, .inl xs))) {K : Int32 → Prop} (h : K (nI L)) : xlen M b K := by
  unfold xlen
  rw [hb]
  exact h
theorem lw_b (hb : M0 b = some (.inl (7, L, .inl xs))) (hc : b < c) : mM (c + 475) (cM c R M0 τ) σ b = some (.inl (7, L, .inl xs)) := by
  unfold mM cM
  rw [if_neg (by omega), if_neg (by omega)]
  exact hb
theorem ob_c : xobj (mM (c + 475) (cM c R M0 τ) σ) c 11 := by
  rw [mM_cM]
  exact ⟨_, cM_0⟩
theorem ob_q : xobj (mM (c + 475) (cM c R M0 τ) σ) (c + 475) 12 := by
  unfold xobj mM
  rw [if_pos (by omega), Nat.sub_self]
  exact ⟨_, rfl⟩
theorem st_lw (hc : stR sa c M0) : stR sa c (mM (c + 475) M0 σ) := by
  intro j hj
  obtain ⟨h1, fs, h2⟩ := hc j hj
  refine ⟨h1, fs, ?_⟩
  unfold mM
  rw [if_neg (by omega)]
  exact h2
/-- what a call's arguments are -/
def rdX (xs : Nat → Int32) (i j : Nat) : Int32 := xs (i + j)
theorem aI_j (hb : M0 b = some (.inl (7, L, .inl xs))) (hc : b < c) (hL : L ≤ 3073) {i j : Nat} (hi : i + j < L) {K : Int32 → Prop} (h : K (xs (i + j))) : xaI (mM (c + 475) (cM c R M0 τ) σ) b (nI i + nI j) K := by
  refine aI_b (lw_b hb hc) ?_ ?_
  · rw [nI_add]; exact vp_in_nI hi (by omega)
  · rw [nI_add, nI_cl (by omega)]; exact h
theorem lw_cnd (hL : L ≤ 3073) {i : Nat} (hi : i ≤ 4000) : (nI L - nI 6 < nI i) ↔ L < i + 6 := by
  rw [Int32.lt_iff_toInt_lt, Int32.toInt_sub, nI_i (by omega), nI_i (by omega), nI_i (by omega), bm32 (by omega) (by omega)]
  omega
set_option maxRecDepth 100000 in
set_option maxHeartbeats 4000000 in
theorem law_loop (hS : stR sa c M0) (hb : M0 b = some (.inl (7, L, .inl xs))) (hbc : b < c) (hL : L ≤ 3073) (hQ : ∀ M, Q (some (.int (nI 1))) M) : ∀ (m i : Nat) (τ : cS) (σ : mS) (s : fS) (u : xU), L < i + 6 * m + 6 → i ≤ L + 5 → cR R τ s → mR R σ s → okF R s → K_Law_law sa 100 Q 1 [some (.ref b), some (.ref c), some (.ref (c + 475)), some (.int (nI i))] [] (mM (c + 475) (cM c R M0 τ) σ) u := by
  intro m
  induction m with
  | zero =>
    intro i τ σ s u h1 h2 hc hm ho
    refine t_Law_law_1 (len_b (lw_b hb hbc) ?_)
    rw [if_pos ((lw_cnd hL (by omega)).mpr (by omega))]
    exact ⟨Or.inr rfl, hQ _⟩
  | succ m ih =>
    intro i τ σ s u h1 h2 hc hm ho
    refine t_Law_law_1 (len_b (lw_b hb hbc) ?_)
    by_cases hi : L < i + 6
    · rw [if_pos ((lw_cnd hL (by omega)).mpr hi)]
      exact ⟨Or.inr rfl, hQ _⟩
    · rw [if_neg (fun q => hi ((lw_cnd hL (by omega)).mp q))]
      have fin : ∀ (τ' : cS) (σ' : mS) (s' : fS), cR R τ' s' → mR R σ' s' → okF R s' → K_Law_law sa 100 Q 73 [some (.ref b), some (.ref c), some (.ref (c + 475)), some (.int (nI i))] [] (mM (c + 475) (cM c R M0 τ') σ') u := by
        intro τ' σ' s' hc' hm' ho'
        refine t_Law_law_73 ?_
        rw [nI_add]
        exact ih (i + 6) τ' σ' s' u (by omega) (by omega) hc' hm' ho'
      refine aI_b (lw_b hb hbc) (vp_in_nI (by omega) (by omega)) ?_
      generalize xs (nI i).toNatClampNeg &&& nI 31 = w
      refine xite (fun _ => ?_) (fun _ => xite (fun _ => ?_) (fun _ => xite (fun _ => ?_) (fun _ => xite (fun _ => ?_) (fun _ => xite (fun _ => ?_) (fun _ => xite (fun _ => ?_) (fun _ => xite (fun _ => ?_) (fun _ => xite (fun _ => ?_) (fun _ => xite (fun _ => ?_) (fun _ => xite (fun _ => ?_) (fun _ => xite (fun _ => ?_) (fun _ => xite (fun _ => ?_) (fun _ => xite (fun _ => ?_) (fun _ => xite (fun _ => ?_) (fun _ => xite (fun _ => ?_) (fun _ => xite (fun _ => ?_) (fun _ => xite (fun _ => ?_) (fun _ => xite (fun _ => ?_) (fun _ => xite (fun _ => ?_) (fun _ => xite (fun _ => ?_) (fun _ => xite (fun _ => ?_) (fun _ => xite (fun _ => ?_) (fun _ => xite (fun _ => ?_) (fun _ => xite (fun _ => ?_) (fun _ => xite (fun _ => ?_) (fun _ => xite (fun _ => ?_) (fun _ => fin τ σ s hc hm ho))))))))))))))))))))))))))
      · refine aI_j hb hbc hL (j := 1) (by omega) (aI_j hb hbc hL (j := 2) (by omega) (aI_j hb hbc hL (j := 3) (by omega) (⟨ob_c, ?_⟩)))
        rw [mM_cM]
        refine op_C_elder hc ho (fun τ' hc' => ?_)
        rw [xrI_mk, ← mM_cM]
        refine aI_j hb hbc hL (j := 1) (by omega) (aI_j hb hbc hL (j := 2) (by omega) (aI_j hb hbc hL (j := 3) (by omega) (⟨ob_q, op_M_elder hm ho (fun σ' hm' => ?_)⟩)))
        rw [xrI_mk, if_pos rfl]
        exact fin τ' σ' _ hc' hm' (ok_elder ho)
      · refine aI_j hb hbc hL (j := 1) (by omega) (aI_j hb hbc hL (j := 2) (by omega) (?_))
        refine xite (fun e0 => ?_) (fun e0 => ?_)
        · refine t_Law_law_8 ⟨ob_c, ?_⟩
          rw [mM_cM]
          refine op_C_stuck hc ho (b := nI 0) (Or.inl rfl) (fun τ' hc' => ?_)
          rw [xrI_mk, ← mM_cM]
          refine aI_j hb hbc hL (j := 1) (by omega) (aI_j hb hbc hL (j := 2) (by omega) (?_))
          rw [if_pos e0]
          refine ⟨ob_q, op_M_stuck hm ho (b := nI 0) (fun σ' hm' => ?_)⟩
          rw [xrI_mk, if_pos rfl]
          exact fin τ' σ' _ hc' hm' (ok_stuck ho)
        · refine t_Law_law_8 ⟨ob_c, ?_⟩
          rw [mM_cM]
          refine op_C_stuck hc ho (b := nI 1) (Or.inr rfl) (fun τ' hc' => ?_)
          rw [xrI_mk, ← mM_cM]
          refine aI_j hb hbc hL (j := 1) (by omega) (aI_j hb hbc hL (j := 2) (by omega) (?_))
          rw [if_neg e0]
          refine ⟨ob_q, op_M_stuck hm ho (b := nI 1) (fun σ' hm' => ?_)⟩
          rw [xrI_mk, if_pos rfl]
          exact fin τ' σ' _ hc' hm' (ok_stuck ho)
      · refine aI_j hb hbc hL (j := 1) (by omega) (aI_j hb hbc hL (j := 2) (by omega) (aI_j hb hbc hL (j := 3) (by omega) (aI_j hb hbc hL (j := 4) (by omega) (?_))))
        refine xite (fun e0 => ?_) (fun e0 => ?_)
        · refine t_Law_law_16 ⟨ob_c, ?_⟩
          rw [mM_cM]
          refine op_C_lies hc ho (b := nI 0) (Or.inl rfl) (fun τ' hc' => ?_)
          rw [xrI_mk, ← mM_cM]
          refine aI_j hb hbc hL (j := 1) (by omega) (aI_j hb hbc hL (j := 2) (by omega) (aI_j hb hbc hL (j := 3) (by omega) (aI_j hb hbc hL (j := 4) (by omega) (?_))))
          rw [if_pos e0]
          refine ⟨ob_q, op_M_lies hm ho (b := nI 0) (fun σ' hm' => ?_)⟩
          rw [xrI_mk, if_pos rfl]
          exact fin τ' σ' _ hc' hm' (ok_lies ho)
        · refine t_Law_law_16 ⟨ob_c, ?_⟩
          rw [mM_cM]
          refine op_C_lies hc ho (b := nI 1) (Or.inr rfl) (fun τ' hc' => ?_)
          rw [xrI_mk, ← mM_cM]
          refine aI_j hb hbc hL (j := 1) (by omega) (aI_j hb hbc hL (j := 2) (by omega) (aI_j hb hbc hL (j := 3) (by omega) (aI_j hb hbc hL (j := 4) (by omega) (?_))))
          rw [if_neg e0]
          refine ⟨ob_q, op_M_lies hm ho (b := nI 1) (fun σ' hm' => ?_)⟩
          rw [xrI_mk, if_pos rfl]
          exact fin τ' σ' _ hc' hm' (ok_lies ho)
      · refine aI_j hb hbc hL (j := 1) (by omega) (aI_j hb hbc hL (j := 2) (by omega) (?_))
        refine xite (fun e0 => ?_) (fun e0 => ?_)
        · refine t_Law_law_24 ⟨ob_c, ?_⟩
          rw [mM_cM]
          refine op_C_bar hc ho (b := nI 0) (Or.inl rfl) (fun τ' hc' => ?_)
          rw [xrI_mk, ← mM_cM]
          refine aI_j hb hbc hL (j := 1) (by omega) (aI_j hb hbc hL (j := 2) (by omega) (?_))
          rw [if_pos e0]
          refine ⟨ob_q, op_M_bar hm (b := nI 0) (fun σ' hm' => ?_)⟩
          rw [xrI_mk, if_pos rfl]
          exact fin τ' σ' _ hc' hm' (ok_bar ho)
        · refine t_Law_law_24 ⟨ob_c, ?_⟩
          rw [mM_cM]
          refine op_C_bar hc ho (b := nI 1) (Or.inr rfl) (fun τ' hc' => ?_)
          rw [xrI_mk, ← mM_cM]
          refine aI_j hb hbc hL (j := 1) (by omega) (aI_j hb hbc hL (j := 2) (by omega) (?_))
          rw [if_neg e0]
          refine ⟨ob_q, op_M_bar hm (b := nI 1) (fun σ' hm' => ?_)⟩
          rw [xrI_mk, if_pos rfl]
          exact fin τ' σ' _ hc' hm' (ok_bar ho)
      · refine aI_j hb hbc hL (j := 1) (by omega) (aI_j hb hbc hL (j := 2) (by omega) (aI_j hb hbc hL (j := 3) (by omega) (aI_j hb hbc hL (j := 4) (by omega) (aI_j hb hbc hL (j := 5) (by omega) (⟨ob_c, ?_⟩)))))
        rw [mM_cM]
        refine op_C_feed hc ho (fun τ' hc' => ?_)
        rw [xrI_mk, ← mM_cM]
        refine aI_j hb hbc hL (j := 1) (by omega) (aI_j hb hbc hL (j := 2) (by omega) (aI_j hb hbc hL (j := 3) (by omega) (aI_j hb hbc hL (j := 4) (by omega) (aI_j hb hbc hL (j := 5) (by omega) (⟨ob_q, op_M_feed hm ho (fun σ' hm' => ?_)⟩)))))
        rw [xrI_mk, if_pos rfl]
        exact fin τ' σ' _ hc' hm' (ok_feed ho)
      · refine aI_j hb hbc hL (j := 1) (by omega) (⟨ob_c, ?_⟩)
        rw [mM_cM]
        refine op_C_end hc ho (fun τ' hc' => ?_)
        rw [xrI_mk, ← mM_cM]
        refine aI_j hb hbc hL (j := 1) (by omega) (⟨ob_q, op_M_end hm ho (fun σ' hm' => ?_)⟩)
        rw [xrI_mk, if_pos rfl]
        exact fin τ' σ' _ hc' hm' (ok_end ho)
      · refine ⟨ob_c, ?_⟩
        rw [mM_cM]
        refine op_C_text (st_lw hS) hc ho (fun τ' hc' => ?_)
        rw [xrI_mk, ← mM_cM]
        refine ⟨ob_q, op_M_text hm ho (fun σ' hm' => ?_)⟩
        rw [xrI_mk, if_pos rfl]
        exact fin τ' σ' _ hc' hm' (ok_text ho)
      · refine aI_j hb hbc hL (j := 1) (by omega) (⟨ob_c, ?_⟩)
        rw [mM_cM]
        refine op_C_fault hc (fun τ' hc' => ?_)
        rw [xrI_mk, ← mM_cM]
        refine aI_j hb hbc hL (j := 1) (by omega) (⟨ob_q, op_M_fault hm (fun σ' hm' => ?_)⟩)
        rw [xrI_mk, if_pos rfl]
        exact fin τ' σ' _ hc' hm' ho
      · refine aI_j hb hbc hL (j := 1) (by omega) (⟨ob_c, ?_⟩)
        rw [mM_cM]
        refine op_C_by hc ho (fun τ' hc' => ?_)
        rw [xrI_mk, ← mM_cM]
        refine aI_j hb hbc hL (j := 1) (by omega) (⟨ob_q, op_M_by hm (fun σ' hm' => ?_)⟩)
        rw [xrI_mk, if_pos rfl]
        exact fin τ' σ' _ hc' hm' (ok_by ho)
      · refine ⟨ob_c, ?_⟩
        rw [mM_cM]
        refine op_C_start hc ho (fun τ' hc' => ?_)
        rw [xrI_mk, ← mM_cM]
        refine ⟨ob_q, op_M_start hm (fun σ' hm' => ?_)⟩
        rw [xrI_mk, if_pos rfl]
        exact fin τ' σ' _ hc' hm' (ok_start ho)
      · refine aI_j hb hbc hL (j := 1) (by omega) (⟨ob_c, ?_⟩)
        rw [mM_cM]
        refine op_C_hours hc ho (fun τ' hc' => ?_)
        rw [xrI_mk, ← mM_cM]
        refine aI_j hb hbc hL (j := 1) (by omega) (⟨ob_q, op_M_hours hm ho (fun σ' hm' => ?_)⟩)
        rw [xrI_mk, if_pos rfl]
        exact fin τ' σ' _ hc' hm' (ok_hours ho)
      · refine ⟨ob_c, ?_⟩
        rw [mM_cM]
        refine op_C_undo hc ho (fun τ' hc' => ?_)
        rw [xrI_mk, ← mM_cM]
        refine ⟨ob_q, op_M_undo hm ho (fun σ' hm' => ?_)⟩
        rw [xrI_mk, if_pos rfl]
        exact fin τ' σ' _ hc' hm' (ok_undo ho)
      · refine aI_j hb hbc hL (j := 1) (by omega) (aI_j hb hbc hL (j := 2) (by omega) (⟨ob_c, ?_⟩))
        rw [mM_cM]
        refine op_C_of hc ho (fun τ' hc' => ?_)
        rw [xrI_mk, ← mM_cM]
        refine aI_j hb hbc hL (j := 1) (by omega) (aI_j hb hbc hL (j := 2) (by omega) (⟨ob_q, op_M_of hm ho (fun σ' hm' => ?_)⟩))
        rw [xrI_mk, if_pos rfl]
        exact fin τ' σ' _ hc' hm' ho
      · refine ⟨ob_c, ?_⟩
        rw [mM_cM]
        refine op_C_agree hc ho (fun τ' hc' => ?_)
        rw [xrI_mk, ← mM_cM]
        refine ⟨ob_q, op_M_agree hm ho (fun σ' hm' => ?_)⟩
        rw [xrI_mk, if_pos rfl]
        exact fin τ' σ' _ hc' hm' ho
      · refine aI_j hb hbc hL (j := 1) (by omega) (⟨ob_c, ?_⟩)
        rw [mM_cM]
        refine op_C_agrees hc ho (fun τ' hc' => ?_)
        rw [xrI_mk, ← mM_cM]
        refine aI_j hb hbc hL (j := 1) (by omega) (⟨ob_q, op_M_agrees hm ho (fun σ' hm' => ?_)⟩)
        rw [xrI_mk, if_pos rfl]
        exact fin τ' σ' _ hc' hm' ho
      · refine aI_j hb hbc hL (j := 1) (by omega) (aI_j hb hbc hL (j := 2) (by omega) (⟨ob_c, ?_⟩))
        rw [mM_cM]
        refine op_C_holds hc ho (fun τ' hc' => ?_)
        rw [xrI_mk, ← mM_cM]
        refine aI_j hb hbc hL (j := 1) (by omega) (aI_j hb hbc hL (j := 2) (by omega) (⟨ob_q, op_M_holds hm ho (fun σ' hm' => ?_)⟩))
        rw [xrI_mk, if_pos rfl]
        exact fin τ' σ' _ hc' hm' ho
      · refine aI_j hb hbc hL (j := 1) (by omega) (aI_j hb hbc hL (j := 2) (by omega) (⟨ob_c, ?_⟩))
        rw [mM_cM]
        refine op_C_states hc ho (fun τ' hc' => ?_)
        rw [xrI_mk, ← mM_cM]
        refine aI_j hb hbc hL (j := 1) (by omega) (aI_j hb hbc hL (j := 2) (by omega) (⟨ob_q, op_M_states hm ho (fun σ' hm' => ?_)⟩))
        rw [xrI_mk, if_pos rfl]
        exact fin τ' σ' _ hc' hm' ho
      · refine aI_j hb hbc hL (j := 1) (by omega) (aI_j hb hbc hL (j := 2) (by omega) (aI_j hb hbc hL (j := 3) (by omega) (aI_j hb hbc hL (j := 4) (by omega) (aI_j hb hbc hL (j := 5) (by omega) (⟨ob_c, ?_⟩)))))
        rw [mM_cM]
        refine op_C_bad hc ho (fun τ' hc' => ?_)
        rw [xrI_mk, ← mM_cM]
        refine aI_j hb hbc hL (j := 1) (by omega) (aI_j hb hbc hL (j := 2) (by omega) (aI_j hb hbc hL (j := 3) (by omega) (aI_j hb hbc hL (j := 4) (by omega) (aI_j hb hbc hL (j := 5) (by omega) (⟨ob_q, op_M_bad hm ho (fun σ' hm' => ?_)⟩)))))
        rw [xrI_mk, if_pos rfl]
        exact fin τ' σ' _ hc' hm' ho
      · refine aI_j hb hbc hL (j := 1) (by omega) (aI_j hb hbc hL (j := 2) (by omega) (aI_j hb hbc hL (j := 3) (by omega) (⟨ob_c, ?_⟩)))
        rw [mM_cM]
        refine op_C_told hc ho (fun τ' hc' => ?_)
        rw [xrI_mk, ← mM_cM]
        refine aI_j hb hbc hL (j := 1) (by omega) (aI_j hb hbc hL (j := 2) (by omega) (aI_j hb hbc hL (j := 3) (by omega) (⟨ob_q, op_M_told hm ho (fun σ' hm' => ?_)⟩)))
        rw [xrI_mk, if_pos rfl]
        exact fin τ' σ' _ hc' hm' (ok_told ho)
      · refine ⟨ob_c, ?_⟩
        rw [mM_cM]
        refine op_C_forget hc ho (fun τ' hc' => ?_)
        rw [xrI_mk, ← mM_cM]
        refine ⟨ob_q, op_M_forget hm (fun σ' hm' => ?_)⟩
        rw [xrI_mk, if_pos rfl]
        exact fin τ' σ' _ hc' hm' (ok_forget ho)
      · refine aI_j hb hbc hL (j := 1) (by omega) (⟨ob_c, ?_⟩)
        rw [mM_cM]
        refine op_C_suspects hc ho (fun τ' hc' => ?_)
        rw [xrI_mk, ← mM_cM]
        refine aI_j hb hbc hL (j := 1) (by omega) (⟨ob_q, op_M_suspects hm ho (fun σ' hm' => ?_)⟩)
        rw [xrI_mk, if_pos rfl]
        exact fin τ' σ' _ hc' hm' ho
      · refine aI_j hb hbc hL (j := 1) (by omega) (aI_j hb hbc hL (j := 2) (by omega) (aI_j hb hbc hL (j := 3) (by omega) (aI_j hb hbc hL (j := 4) (by omega) (⟨ob_c, ?_⟩))))
        rw [mM_cM]
        refine op_C_slips hc ho (fun τ' hc' => ?_)
        rw [xrI_mk, ← mM_cM]
        refine aI_j hb hbc hL (j := 1) (by omega) (aI_j hb hbc hL (j := 2) (by omega) (aI_j hb hbc hL (j := 3) (by omega) (aI_j hb hbc hL (j := 4) (by omega) (⟨ob_q, op_M_slips hm ho (fun σ' hm' => ?_)⟩))))
        rw [xrI_mk, if_pos rfl]
        exact fin τ' σ' _ hc' hm' ho
      · refine aI_j hb hbc hL (j := 1) (by omega) (aI_j hb hbc hL (j := 2) (by omega) (aI_j hb hbc hL (j := 3) (by omega) (⟨ob_c, ?_⟩)))
        rw [mM_cM]
        refine op_C_learns hc ho (fun τ' hc' => ?_)
        rw [xrI_mk, ← mM_cM]
        refine aI_j hb hbc hL (j := 1) (by omega) (aI_j hb hbc hL (j := 2) (by omega) (aI_j hb hbc hL (j := 3) (by omega) (⟨ob_q, op_M_learns hm ho (fun σ' hm' => ?_)⟩)))
        rw [xrI_mk, if_pos rfl]
        exact fin τ' σ' _ hc' hm' ho
      · refine ⟨ob_c, ?_⟩
        rw [mM_cM]
        refine op_C_image hc ho (fun τ' hc' => ?_)
        rw [xrI_mk, ← mM_cM]
        refine ⟨ob_q, op_M_image hm ho (fun σ' hm' => ?_)⟩
        rw [xrI_mk, if_pos rfl]
        exact fin τ' σ' _ hc' hm' (ok_image ho)
      · refine ⟨ob_c, ?_⟩
        rw [mM_cM]
        refine op_C_back hc ho (fun τ' hc' => ?_)
        rw [xrI_mk, ← mM_cM]
        refine ⟨ob_q, op_M_back hm ho (fun σ' hm' => ?_)⟩
        rw [xrI_mk, if_pos rfl]
        exact fin τ' σ' _ hc' hm' (ok_back ho)
      · refine aI_j hb hbc hL (j := 1) (by omega) (⟨ob_c, ?_⟩)
        rw [mM_cM]
        refine op_C_about hc ho (fun τ' hc' => ?_)
        rw [xrI_mk, ← mM_cM]
        refine aI_j hb hbc hL (j := 1) (by omega) (⟨ob_q, op_M_about hm (fun σ' hm' => ?_)⟩)
        rw [xrI_mk, if_pos rfl]
        exact fin τ' σ' _ hc' hm' ho
theorem c_cell {d : Nat} (hb : M b = some (.inl (7, L, .inl xs))) (hL : L ≤ 3073) (h : ∀ v, v = (if nI L ≤ nI 0 then nI 0 else xs 0) → Q (some (.int v)) M) : xEv xP (xprim sa) (d + 1) m_Law_cell [.ref b, .int (nI 0)] M Q := by
  refine t_Law_cell (len_b hb ?_)
  by_cases e : nI L ≤ nI 0
  · rw [if_pos e]
    exact h _ (if_pos e).symm
  · rw [if_neg e]
    refine aI_b hb (vp_in_nI ?_ (by omega)) (h _ (if_neg e).symm)
    rcases Nat.eq_zero_or_pos L with g | g
    · exact absurd (by rw [g]; exact Int32.le_refl _) e
    · exact g
set_option maxRecDepth 100000 in
theorem law_all (hS : stR sa c M0) (ht : xtop M0 c) (hb : M0 b = some (.inl (7, L, .inl xs))) (hL : L ≤ 3073) (hQ : ∀ M, Q (some (.int (nI 1))) M) : K_Law_law sa 100 Q 0 [some (.ref b), none, none, none] [] M0 (497, 714083) := by
  have hbc : b < c := by
    rcases Nat.lt_or_ge b c with g | g
    · exact g
    · rw [(ht b).mpr g] at hb; exact nomatch hb
  have hb1 : ∀ e, lM c M0 [e] b = some (.inl (7, L, .inl xs)) := fun e => by
    unfold lM
    rw [if_neg (by omega)]
    exact hb
  refine t_Law_law_0 (al_0 ht (by omega) (by omega) (c_cell (hb1 _) hL (fun v hv => ?_)))
  rw [xrI_mk]
  refine ⟨by omega, by omega, c_C_init ht (fun τ' hc' => ?_)⟩
  rw [xrV_mk]
  have hb2 : ∀ e, lM (c + 475) (cM c (rooV v) M0 τ') [e] b = some (.inl (7, L, .inl xs)) := fun e => by
    unfold lM cM
    rw [if_neg (by omega), if_neg (by omega)]
    exact hb
  refine al_0 (top_c ht) (by omega) (by omega) (c_cell (hb2 _) hL (fun v' hv' => ?_))
  rw [xrI_mk]
  have e : v' = v := hv'.trans hv.symm
  subst e
  refine ⟨by omega, by omega, c_M_init (top_c ht) (fun σ' hm' => ?_)⟩
  rw [xrV_mk]
  exact law_loop hS hb hbc hL hQ 600 1 τ' σ' newS _ (by omega) (by omega) hc' hm' (newB_ok rooV_e.1 rooV_e.2.1)
end LW
