/-! the state of both sides, as the calls show it -/
theorem nI_i {n : Nat} (h : n < 2 ^ 31) : (nI n).toInt = (n : Int) := nI_toInt h
theorem iv_i {v : Int32} {lo hi : Int32} : iv v lo hi ↔ lo.toInt ≤ v.toInt ∧ v.toInt ≤ hi.toInt := by
  unfold iv
  rw [Int32.le_iff_toInt_le, Int32.le_iff_toInt_le]
/-- a row: bell, keeps, notes within their bounds -/
def rk (f : Nat → Int32) : Prop := iv (f 1) 0 (nI 9) ∧ ∀ i, i < 9 → iv (f (2 + i)) 0 (nI 99) ∧ iv (f (11 + i)) (-1) (nI 99) ∧ iv (f (20 + i)) (-1) (nI 99)
/-- nothing beyond the rooms -/
def cn (R : Nat) (f : Nat → Int32) : Prop := ∀ i, i < 9 → R ≤ i → f (2 + i) = 0 ∧ f (11 + i) = -1 ∧ f (20 + i) = -1
theorem iv_99 {v : Int32} (h : iv v 0 (nI 99)) : 0 ≤ v.toInt ∧ v.toInt ≤ 99 := by
  have := iv_i.mp h
  rw [nI_i (by omega)] at this
  exact this
theorem iv_m99 {v : Int32} (h : iv v (-1) (nI 99)) : -1 ≤ v.toInt ∧ v.toInt ≤ 99 := by
  have := iv_i.mp h
  rw [nI_i (by omega)] at this
  exact this
theorem iv_9 {v : Int32} (h : iv v 0 (nI 9)) : 0 ≤ v.toInt ∧ v.toInt ≤ 9 := by
  have := iv_i.mp h
  rw [nI_i (by omega)] at this
  exact this
theorem rb_of {f : Nat → Int32} (h : rk f) (h0 : -1 ≤ (f 0).toInt ∧ (f 0).toInt ≤ 999) : rb f := by
  intro k hk
  rcases (show k = 0 ∨ k = 1 ∨ (2 ≤ k ∧ k < 11) ∨ (11 ≤ k ∧ k < 20) ∨ (20 ≤ k ∧ k < 29) by omega) with e | e | e | e | e
  · rw [e]; exact h0
  · rw [e]; have := iv_9 h.1; omega
  · have := iv_99 (h.2 (k - 2) (by omega)).1
    rw [show 2 + (k - 2) = k by omega] at this; omega
  · have := iv_m99 (h.2 (k - 11) (by omega)).2.1
    rw [show 11 + (k - 11) = k by omega] at this; omega
  · have := iv_m99 (h.2 (k - 20) (by omega)).2.2
    rw [show 20 + (k - 20) = k by omega] at this; omega
theorem putS_iv {A : Nat → Int32} {v : Int32} (h : iv v (-1) (nI 99)) : iv (putS A v) (-1) (nI 99) := by
  unfold putS
  split
  · exact ivm1
  · split
    · exact ivm1
    · exact h
section RW
variable {R : Nat} {l : List (Nat × Term)} {A B kd fs f kd' fs' : Nat → Int32}
/-- the lies as told are notes or none -/
def lieV (A : Nat → Int32) : Prop := ∀ i, i < 9 → iv (A (40 + 3 * i)) (-1) (nI 99) ∧ iv (A (41 + 3 * i)) (-1) (nI 99)
theorem lfS_iv (hl : lieV A) {i : Nat} (hi : i < 9) : iv (lfS R l A kd fs f i) (-1) (nI 99) := by
  unfold lfS
  split
  · exact (hl i hi).1
  · split
    · exact sumS_iv (by decide) ivm1
    · exact ivm1
theorem rtS_iv (hl : lieV A) {i : Nat} (hi : i < 9) : iv (rtS R l A kd fs f i) (-1) (nI 99) := by
  unfold rtS
  split
  · exact (hl i hi).2
  · split
    · exact sumS_iv (by decide) ivm1
    · exact ivm1
theorem kpS_iv (hf : rk f) {i : Nat} (hi : i < 9) : iv (kpS R l kd fs f i) 0 (nI 99) := by
  unfold kpS
  split
  · exact sumS_iv (by decide) (hf.2 i hi).1
  · exact (hf.2 i hi).1
theorem cr_rk {kp lf rt : Nat → Int32} {pl : Nat → Bool} {hr : Int32} (hR : R ≤ 9) (h1 : ∀ i, i < 9 → iv (kp i) 0 (nI 99)) (h2 : ∀ i, i < R → iv (lf i) (-1) (nI 99)) (h3 : ∀ i, i < R → iv (rt i) (-1) (nI 99)) : rk (crS R A kp lf rt pl hr) := by
  refine ⟨?_, fun i hi => ⟨?_, ?_, ?_⟩⟩
  · rw [cr_1]
    have := cntP_le A pl R
    exact ⟨nI_le (Nat.zero_le _) (by omega), nI_le (by omega) (by omega)⟩
  · rw [cr_k hi]; exact h1 i hi
  · rw [cr_l hi]
    by_cases h : i < R
    · rw [if_pos h]; exact putS_iv (h3 _ (lftN_lt h))
    · rw [if_neg h]; exact ivm1
  · rw [cr_r hi]
    by_cases h : i < R
    · rw [if_pos h]; exact putS_iv (h2 _ (rgtN_lt h))
    · rw [if_neg h]; exact ivm1
theorem goS_rk (hR : R ≤ 9) (hl : lieV A) (hf : rk f) : rk (goS R l A kd fs f) := cr_rk hR (fun i hi => kpS_iv hf hi) (fun i hi => lfS_iv hl (by omega)) (fun i hi => rtS_iv hl (by omega))
theorem cr_cn {kp lf rt : Nat → Int32} {pl : Nat → Bool} {hr : Int32} (h : ∀ i, i < 9 → R ≤ i → kp i = 0) : cn R (crS R A kp lf rt pl hr) := by
  intro i hi hR
  refine ⟨?_, ?_, ?_⟩
  · rw [cr_k hi]; exact h i hi hR
  · rw [cr_l hi, if_neg (by omega)]
  · rw [cr_r hi, if_neg (by omega)]
theorem goS_cn (hf : cn R f) : cn R (goS R l A kd fs f) := cr_cn (fun i hi hR => by
  unfold kpS
  rw [if_neg (by omega)]
  exact (hf i hi hR).1)
theorem goS_0 : goS R l A kd fs f 0 = f 0 + 1 := cr_0
theorem putS_c {v : Int32} (h : ∀ j, 10 ≤ j → j < 170 → A j = B j) (hv : iv v (-1) (nI 99)) : putS A v = putS B v := by
  unfold putS
  by_cases h0 : v < 0
  · rw [if_pos h0, if_pos h0]
  · obtain ⟨n, hn, rfl⟩ := iv_neg hv h0
    rw [if_neg h0, if_neg h0, nI_cl (by omega), h (70 + n) (by omega) (by omega)]
theorem cntP_A {pl : Nat → Bool} (h : ∀ j, 10 ≤ j → j < 170 → A j = B j) : ∀ n, n ≤ 9 → cntP A pl n = cntP B pl n
  | 0, _ => rfl
  | n + 1, hn => by
    unfold cntP
    rw [cntP_A h n (by omega), h (30 + n) (by omega) (by omega)]
theorem crS_A {kp lf rt : Nat → Int32} {pl : Nat → Bool} {hr : Int32} (h : ∀ j, 10 ≤ j → j < 170 → A j = B j) (hR : R ≤ 9) (h2 : ∀ i, i < R → iv (lf i) (-1) (nI 99)) (h3 : ∀ i, i < R → iv (rt i) (-1) (nI 99)) : crS R A kp lf rt pl hr = crS R B kp lf rt pl hr := by
  refine row_ext (cr_0.trans cr_0.symm) ?_ (fun i hi => ?_) (fun i hi => ?_) (fun i hi => ?_) (fun k hk => ?_)
  · rw [cr_1, cr_1, cntP_A h R hR]
  · rw [cr_k hi, cr_k hi]
  · rw [cr_l hi, cr_l hi]
    by_cases e : i < R
    · rw [if_pos e, if_pos e, putS_c h (h3 _ (lftN_lt e))]
    · rw [if_neg e, if_neg e]
  · rw [cr_r hi, cr_r hi]
    by_cases e : i < R
    · rw [if_pos e, if_pos e, putS_c h (h2 _ (rgtN_lt e))]
    · rw [if_neg e, if_neg e]
  · rw [cr_z hk, cr_z hk]
theorem goS_A (h : ∀ j, 10 ≤ j → j < 170 → A j = B j) (hR : R ≤ 9) (hl : lieV A) : goS R l A kd fs f = goS R l B kd fs f := by
  unfold goS
  rw [crS_A h hR (fun i hi => lfS_iv hl (by omega)) (fun i hi => rtS_iv hl (by omega))]
  refine cr_c (fun i hi => rfl) (fun i hi => ?_) (fun i hi => ?_) (fun i hi => ?_)
  · unfold lfS; rw [h (40 + 3 * i) (by omega) (by omega)]
  · unfold rtS; rw [h (41 + 3 * i) (by omega) (by omega)]
  · unfold plS; rw [h (42 + 3 * i) (by omega) (by omega)]
theorem goS_k (hk : ∀ i, i < 9 → kd i = kd' i) (hs : ∀ i, i < 9 → fs i = fs' i) (hR : R ≤ 9) : goS R l A kd fs f = goS R l A kd' fs' f := by
  unfold goS
  refine cr_c (fun i hi => ?_) (fun i hi => ?_) (fun i hi => ?_) (fun i hi => ?_)
  · unfold kpS; rw [hk i hi, hs i hi]
  · unfold lfS; rw [hk i (by omega), hs i (by omega)]
  · unfold rtS; rw [hk i (by omega), hs i (by omega)]
  · unfold plS; rw [hk i (by omega), hs i (by omega)]
theorem beg_rk {fst : Nat → Int32} (h : ∀ i, i < 9 → iv (fst i) 0 (nI 9)) : rk (beginRow fst) := by
  refine ⟨show iv 0 0 (nI 9) from ⟨by decide, by decide⟩, fun i hi => ⟨?_, ?_, ?_⟩⟩
  · unfold beginRow
    rw [if_neg (by omega), if_pos (by omega), show 2 + i - 2 = i by omega]
    exact ⟨(h i hi).1, Int32.le_trans (h i hi).2 (by decide)⟩
  · unfold beginRow
    rw [if_neg (by omega), if_neg (by omega)]; exact ivm1
  · unfold beginRow
    rw [if_neg (by omega), if_neg (by omega)]; exact ivm1
theorem beg_cn {fst : Nat → Int32} (h : ∀ i, i < 9 → R ≤ i → fst i = 0) : cn R (beginRow fst) := by
  intro i hi hR
  unfold beginRow
  refine ⟨?_, ?_, ?_⟩
  · rw [if_neg (by omega), if_pos (by omega), show 2 + i - 2 = i by omega]
    exact h i hi hR
  · rw [if_neg (by omega), if_neg (by omega)]
  · rw [if_neg (by omega), if_neg (by omega)]
end RW
/-- settings, the row of now, the past rows (the latest first) -/
abbrev aS : Type := (Nat → Int32) × (Nat → Int32) × List (Nat → Int32)
/-- now, the image, the texts, the tape, how much is taped, the fault, its place -/
abbrev fS : Type := aS × aS × (Nat → List (Nat × Term)) × (Nat → Int32) × Nat × Int32 × Int32
def rA (A : Nat → Int32) (s : aS) : Prop := (∀ j, j < 190 → j ≠ 2 → A j = s.1 j) ∧ A 2 = nI s.2.2.length ∧ (∀ e, e < 29 → A (190 + e) = s.2.1 e) ∧ ∀ (j : Nat) (g : Nat → Int32), s.2.2[j]? = some g → ∀ e, e < 29 → A (220 + 30 * (s.2.2.length - 1 - j) + e) = g e
def rowV (R : Nat) (f : Nat → Int32) : Prop := rk f ∧ cn R f ∧ iv (f 0) 0 (nI 999)
def okS (R : Nat) (s : aS) : Prop :=
  (∃ nt, nt ≤ 4 ∧ s.1 0 = nI nt ∧ (s.1 1 = -1 ∨ ∃ t, t < nt ∧ s.1 1 = nI t)) ∧
  (∃ n, n ≤ 8 ∧ s.1 3 = nI n ∧ ((n = 0 ∧ s.1 4 = -1) ∨ (0 < n ∧ ∃ r, r < R ∧ s.1 4 = nI r)) ∧ ∀ j, j < n → iv (s.1 (170 + 2 * j)) (-1) (nI 99) ∧ iv (s.1 (171 + 2 * j)) (-1) (nI 99)) ∧
  (∀ i, i < 9 → iv (s.1 (10 + i)) 0 (nI 2) ∧ iv (s.1 (20 + i)) 0 (nI 9) ∧ (R ≤ i → s.1 (20 + i) = 0) ∧ (s.1 (30 + i) = 0 ∨ s.1 (30 + i) = 1) ∧ (s.1 (42 + 3 * i) = 0 ∨ s.1 (42 + 3 * i) = 1)) ∧
  lieV s.1 ∧ (∀ k, k < 100 → s.1 (70 + k) = 0 ∨ s.1 (70 + k) = 1) ∧ rowV R s.2.1 ∧ s.2.2.length ≤ 40 ∧ ∀ (j : Nat) (g : Nat → Int32), s.2.2[j]? = some g → rowV R g
/-- the clauses of the text that rules -/
def rulL (s : aS) (tx : Nat → List (Nat × Term)) : List (Nat × Term) := if s.1 1 = -1 then [] else tx (s.1 1).toNatClampNeg
/-- a text that was read: no sort but the rope's stands twice -/
def txV (l : List (Nat × Term)) : Prop := ∀ (i j : Nat) (p q : Nat × Term), l[i]? = some p → l[j]? = some q → p.1 = q.1 → p.1 < 4 → i = j
def okF (R : Nat) (s : fS) : Prop := 3 ≤ R ∧ R ≤ 9 ∧ okS R s.1 ∧ okS R s.2.1 ∧ (s.2.1.1 0).toInt ≤ (s.1.1 0).toInt ∧ s.2.2.2.2.1 ≤ 300 ∧ (∀ j, j < s.2.2.2.2.1 → iv (s.2.2.2.1 j) 0 (nI 255)) ∧ ∀ t : Nat, (t : Int) < (s.1.1 0).toInt → txV (s.2.2.1 t)
/-- the reference's cells hold the state -/
def mR (R : Nat) (σ : mS) (s : fS) : Prop := σ.1 2 = nI R ∧ rA (σ.2.2.1 1) s.1 ∧ rA (σ.2.2.1 2) s.2.1 ∧ (∀ t : Nat, (t : Int) < (s.1.1 0).toInt → enc (σ.2.2.1 3) (645 * t) (s.2.2.1 t)) ∧ σ.1 5 = nI s.2.2.2.2.1 ∧ (∀ j, j < s.2.2.2.2.1 → σ.2.2.1 4 j = s.2.2.2.1 j) ∧ σ.1 6 = s.2.2.2.2.2.1 ∧ σ.1 7 = s.2.2.2.2.2.2
/-- what a question of the reference leaves as it was -/
def kp (σ σ' : mS) : Prop := (σ'.1 2 = σ.1 2 ∧ σ'.1 5 = σ.1 5 ∧ σ'.1 6 = σ.1 6 ∧ σ'.1 7 = σ.1 7) ∧ ∀ k, 1 ≤ k → k ≤ 4 → σ'.2.2.1 k = σ.2.2.1 k
theorem kp_r {σ : mS} : kp σ σ := ⟨⟨rfl, rfl, rfl, rfl⟩, fun _ _ _ => rfl⟩
theorem kp_t {σ σ' σ'' : mS} (h : kp σ σ') (h' : kp σ' σ'') : kp σ σ'' := ⟨⟨h'.1.1.trans h.1.1, h'.1.2.1.trans h.1.2.1, h'.1.2.2.1.trans h.1.2.2.1, h'.1.2.2.2.trans h.1.2.2.2⟩, fun k h1 h4 => (h'.2 k h1 h4).trans (h.2 k h1 h4)⟩
theorem kp_sm {S : List Nat} {σ σ' : mS} (h : sm S σ σ') (hS : 1 ∉ S ∧ 2 ∉ S ∧ 3 ∉ S ∧ 4 ∉ S) : kp σ σ' := by
  refine ⟨by rw [h.1]; exact ⟨rfl, rfl, rfl, rfl⟩, fun k h1 h4 => h.2.2 k ?_⟩
  rcases (show k = 1 ∨ k = 2 ∨ k = 3 ∨ k = 4 by omega) with rfl | rfl | rfl | rfl
  · exact hS.1
  · exact hS.2.1
  · exact hS.2.2.1
  · exact hS.2.2.2
theorem mR_kp {R : Nat} {σ σ' : mS} {s : fS} (h : kp σ σ') (hm : mR R σ s) : mR R σ' s := by
  unfold mR at *
  rw [h.1.1, h.1.2.1, h.1.2.2.1, h.1.2.2.2, h.2 1 (by omega) (by omega), h.2 2 (by omega) (by omega), h.2 3 (by omega) (by omega), h.2 4 (by omega) (by omega)]
  exact hm
theorem rul_of {R : Nat} {σ : mS} {s : fS} (hm : mR R σ s) (ho : okF R s) : rul σ (rulL s.1 s.2.2.1) := by
  obtain ⟨nt, h4, h0, h1⟩ := ho.2.2.1.1
  have e1 : σ.2.2.1 1 1 = s.1.1 1 := hm.2.1.1 1 (by omega) (by omega)
  unfold rul rulL
  rw [e1]
  rcases h1 with h1 | ⟨t, ht, h1⟩
  · exact Or.inl ⟨h1, if_pos h1⟩
  · refine Or.inr ⟨t, by omega, h1, ?_⟩
    rw [h1, if_neg (fun e => absurd (congrArg Int32.toInt e) (by rw [nI_i (by omega)]; have : (-1 : Int32).toInt = -1 := rfl; omega)), nI_cl (by omega)]
    exact hm.2.2.2.1 t (by rw [h0, nI_i (by omega)]; omega)
