/-! the class is made: its cells hold the new state -/
section CN
variable {c R : Nat}
theorem cel_tes : ∀ n, n ≤ 4 → ceL c R (tau0 R) 2 (tes (c + 2) n)
  | 0, _ => ceL_n
  | n + 1, hn => by
    refine ceL_app (tes_len n) (cel_tes n (by omega)) (ceL_of ?_)
    rw [show c + 2 + 8 * n = c + (2 + 8 * n) by omega]
    refine cel_Te (tk_4 (by omega)) (fun j hj => ?_)
    unfold tau0
    rw [if_neg (by omega), if_neg (by omega), if_neg (by omega), if_neg (by omega), if_neg (by omega), if_neg (by omega), if_neg]
    intro h
    have := of_decide_eq_true h
    omega
theorem cel_zs {m : Nat} : ∀ (n k : Nat), (∀ j, j < n → arI R (k + j) m ∧ tau0 R (k + j) = fun _ => 0) → ceL c R (tau0 R) k (List.replicate n (z0 m))
  | 0, k, _ => ceL_n
  | n + 1, k, h => by
    have h0 := h 0 (by omega)
    refine ceL_c ?_ (cel_zs n (k + 1) (fun j hj => ?_))
    · have e : tau0 R k = fun _ => 0 := h0.2
      rw [e]
      exact (ceI h0.1).symm
    · rw [show k + 1 + j = k + (j + 1) by omega]
      exact h (j + 1) (by omega)
theorem t0_y {k : Nat} (h1 : 42 < k ∧ k < 108) (h2 : k ≠ 62) (h3 : k ≠ 85 ∧ k ≠ 90 ∧ k ≠ 95) (hn : nte k = false) : tau0 R k = fun _ => 0 := by
  unfold tau0
  rw [if_neg (by omega), if_neg (by omega), if_neg (by omega), if_neg (by omega), if_neg (by omega), if_neg (by omega), hn, if_neg (by decide)]
theorem t0_x {k : Nat} (h1 : 42 < k ∧ k < 108) (h2 : k ≠ 62) (h3 : k ≠ 85 ∧ k ≠ 90 ∧ k ≠ 95) (hn : nte k = true) : tau0 R k = nN R := by
  unfold tau0
  rw [if_neg (by omega), if_neg (by omega), if_neg (by omega), if_neg (by omega), if_neg (by omega), if_neg (by omega), hn, if_pos rfl]
theorem t0_f {k : Nat} (h : k = 85 ∨ k = 90 ∨ k = 95) : tau0 R k = fun j => if j = 0 then nI (R + 1) else 0 := by
  unfold tau0
  rw [if_neg (by omega), if_neg (by omega), if_neg (by omega), if_neg (by omega), if_pos (by omega)]
theorem mo_l {k : Nat} (hk : k = 54 ∨ k = 58 ∨ k = 100 ∨ k = 104) (hm : moK R k) : ceL c R (tau0 R) k (lMo (c + k) R) := ceL_of (cel_Mo hm (t0_y (by omega) (by omega) (by omega) (decide_eq_false (by omega))) (t0_y (by omega) (by omega) (by omega) (decide_eq_false (by omega))) (t0_x (by omega) (by omega) (by omega) (decide_eq_true (by omega))) (t0_x (by omega) (by omega) (by omega) (decide_eq_true (by omega))))
theorem fo_l {k : Nat} (hk : k = 85 ∨ k = 90 ∨ k = 95) (hm : foK R k) : ceL c R (tau0 R) k (lFo (c + k) R) := ceL_of (cel_Fo hm (t0_f hk) (t0_y (by omega) (by omega) (by omega) (decide_eq_false (by omega))) (t0_y (by omega) (by omega) (by omega) (decide_eq_false (by omega))) (t0_y (by omega) (by omega) (by omega) (decide_eq_false (by omega))) (t0_y (by omega) (by omega) (by omega) (decide_eq_false (by omega))))
theorem ar_y {k n : Nat} (h : (k < 475 ∧ kdC k = 0) ∧ lenC R k = n) : arI R k n := ⟨h.1.1, h.1.2, h.2⟩
theorem rep_64 {b : Nat} (hb : b = 64 ∨ b = 74) : ∀ j, j < 9 → arI R (b + j) 2000 ∧ tau0 R (b + j) = fun _ => 0 := by
  intro j hj
  refine ⟨⟨by omega, ?_, ?_⟩, t0_y (by omega) (by omega) (by omega) (decide_eq_false (by omega))⟩
  · unfold kdC
    rw [if_neg (by omega), if_neg (by omega), if_neg (by omega), if_neg (by omega), if_neg (by omega), if_neg (by omega), if_neg (by omega), if_neg (by omega), if_neg (by omega), if_neg (by omega), if_neg (by omega), if_neg (by omega), if_neg (by omega), if_neg (by omega), if_pos (by omega)]
  · unfold lenC
    rw [if_neg (by omega), if_neg (by omega), if_neg (by omega), if_neg (by omega), if_neg (by omega), if_neg (by omega), if_neg (by omega), if_neg (by omega), if_pos (by omega)]
theorem rep_44 : ∀ j, j < 10 → arI R (44 + j) 40 ∧ tau0 R (44 + j) = fun _ => 0 := by
  intro j hj
  refine ⟨⟨by omega, ?_, ?_⟩, t0_y (by omega) (by omega) (by omega) (decide_eq_false (by omega))⟩
  · unfold kdC
    rw [if_neg (by omega), if_neg (by omega), if_neg (by omega), if_neg (by omega), if_neg (by omega), if_neg (by omega), if_neg (by omega), if_neg (by omega), if_neg (by omega), if_neg (by omega), if_neg (by omega), if_neg (by omega), if_neg (by omega), if_neg (by omega), if_pos (by omega)]
  · unfold lenC
    rw [if_neg (by omega), if_neg (by omega), if_neg (by omega), if_neg (by omega), if_neg (by omega), if_pos (by omega)]
theorem cel_rr {k n b : Nat} (hk : kdC k = 6) (hn : lenC R k = n) (hb : b = c + k + 1) : (.inl (6, n, refA (fun i => if i < n then some (b + i) else none)) : xE) = cCell c R k (tau0 R k) := by
  unfold cCell
  rw [hk]
  show _ = (.inl (6, lenC R k, refA (fun i => if i < lenC R k then some (c + (k + 1 + i)) else none)) : xE)
  rw [hn]
  have : (fun i => if i < n then some (b + i) else none) = (fun i => if i < n then some (c + (k + 1 + i)) else none) := by
    funext i
    rw [show b + i = c + (k + 1 + i) by omega]
  rw [this]
theorem cel_Ru : ceL c R (tau0 R) 62 (lRu (c + 62) R (c + 36)) := by
  unfold lRu
  refine ceL_c ?_ (ceL_c (cel_rr rfl rfl (by omega)) (ceL_app (n := 9) List.length_replicate (cel_zs 9 64 (rep_64 (Or.inl rfl))) (ceL_c (cel_rr (k := 73) rfl rfl (by omega)) (ceL_app (n := 9) List.length_replicate (cel_zs 9 74 (rep_64 (Or.inr rfl))) (ceL_c ?_ (ceL_c ?_ (ceL_app (n := 5) rfl (fo_l (k := 85) (by omega) fk_85) (ceL_app (n := 5) rfl (fo_l (k := 90) (by omega) fk_90) (ceL_app (n := 5) rfl (fo_l (k := 95) (by omega) fk_95) (ceL_app (n := 4) rfl (mo_l (k := 100) (by omega) mk_100) (mo_l (k := 104) (by omega) mk_104)))))))))))
  · rfl
  · rfl
  · rfl
theorem cel_Tr : ceL c R (tau0 R) 42 (lTr (c + 42) R (c + 36)) := by
  unfold lTr
  refine ceL_c ?_ (ceL_c (cel_rr rfl rfl (by omega)) (ceL_app (n := 10) List.length_replicate (cel_zs 10 44 rep_44) (ceL_app (n := 4) rfl (mo_l (k := 54) (by omega) mk_54) (mo_l (k := 58) (by omega) mk_58))))
  rfl
theorem cel_2 : (.inl (4, 4, refA (rgF (c + 2) 8 4)) : xE) = cCell c R 1 (tau0 R 1) := by
  show _ = (.inl (4, 4, refA (fun i => if i < 4 then some (c + (2 + 8 * i)) else none)) : xE)
  have : rgF (c + 2) 8 4 = (fun i => if i < 4 then some (c + (2 + 8 * i)) else none) := by
    funext i
    unfold rgF
    by_cases hi : i < 4
    · rw [if_pos hi, if_pos hi]
      congr 1
      omega
    · rw [if_neg hi, if_neg hi]
  rw [this]
theorem t0_108 : tau0 R 108 = fun j => if j = 7 then -1 else 0 := by
  unfold tau0
  rw [if_neg (by omega), if_neg (by omega), if_neg (by omega), if_neg (by omega), if_neg (by omega), if_pos (by omega)]
theorem cel_108 : cel c R (tau0 R) 108 (lEl (c + 108) R) := cel_El ek_108 t0_108 (t0_z (by omega) (by omega) (by omega) (decide_eq_false (by omega))) (t0_z (by omega) (by omega) (by omega) (decide_eq_false (by omega))) (t0_n (by omega) (by omega) (by omega) (decide_eq_true (by omega))) (t0_n (by omega) (by omega) (by omega) (decide_eq_true (by omega))) (t0_z (by omega) (by omega) (by omega) (decide_eq_false (by omega))) (t0_z (by omega) (by omega) (by omega) (decide_eq_false (by omega))) (t0_z (by omega) (by omega) (by omega) (decide_eq_false (by omega)))
theorem cel_116 : cel c R (tau0 R) 116 (lHe (c + 116)) := cel_He hk_116 (t0_z (by omega) (by omega) (by omega) (decide_eq_false (by omega))) (t0_z (by omega) (by omega) (by omega) (decide_eq_false (by omega))) (t0_z (by omega) (by omega) (by omega) (decide_eq_false (by omega)))
theorem cel_34 : cel c R (tau0 R) 34 (lTa (c + 34)) := ⟨rfl, rfl, trivial⟩
theorem cel_36 : cel c R (tau0 R) 36 (lHa (c + 36) R (c + 1)) := ⟨rfl, rfl, rfl, rfl, rfl, rfl, trivial⟩
theorem cel_C : ceL c R (tau0 R) 0 (lC c R) := by
  unfold lC
  refine ceL_c ?_ (ceL_c cel_2 (ceL_app (n := 32) (tes_len 4) (cel_tes 4 (by omega)) (ceL_app lTa_l (ceL_of cel_34) (ceL_app lHa_l (ceL_of cel_36) (ceL_app lTr_l cel_Tr (ceL_app lRu_l cel_Ru (ceL_app lEl_l (ceL_of cel_108) (ceL_app lHe_l (ceL_of cel_116) (ceL_app lWh_len (cel_Wh (w := 119) (Or.inl rfl)) (cel_Wh (w := 297) (Or.inr rfl)))))))))))
  rfl
theorem lC_len : (lC c R).length = 475 := by
  unfold lC
  simp only [List.length_cons, List.length_append, tes_len, lTa_l, lHa_l, lTr_l, lRu_l, lEl_l, lHe_l, lWh_len]
theorem nB_z {j : Nat} (h1 : j ≠ 1) (h4 : j ≠ 4) (h : j < 40 ∨ 67 ≤ j ∨ (j - 40) % 3 = 2) : newB j = 0 := by
  unfold newB
  rw [if_neg h1, if_neg h4, if_neg (by omega)]
theorem nB_n {j : Nat} (h : 40 ≤ j ∧ j < 67 ∧ (j - 40) % 3 ≠ 2) : newB j = -1 := by
  unfold newB
  rw [if_neg (by omega), if_neg (by omega), if_pos h]
theorem wh_new (h3 : 3 ≤ R) (h9 : R ≤ 9) {w : Nat} (hw : w = 119 ∨ w = 297) : whR R (tau0 R) w newA := by
  have nn : ∀ i, i < R → nN R i = -1 := fun i hi => if_pos hi
  have e : ∀ j, j < 9 → j ≠ 0 → j ≠ 1 → j ≠ 4 → j ≠ 5 → tau0 R (w + j) = fun _ => 0 := by
    intro j hj h0 h1 h4 h5
    refine t0_z (by omega) (by omega) (by omega) (decide_eq_false (by omega))
  refine ⟨⟨fun i hi => ⟨?_, ?_, ?_, ?_, ?_, ?_⟩, fun k hk => ?_, ?_⟩, ⟨fun i hi => ⟨?_, ?_, ?_⟩, ?_, ?_⟩, ⟨?_, 0, by omega, ?_, fun j g hg => ?_⟩, ⟨?_, ⟨0, by omega, ?_⟩, fun hq => absurd rfl hq, fun j hj => absurd hj (Nat.not_lt_zero j)⟩, ?_⟩
  · show tau0 R (w + 2) i = newB (10 + i)
    rw [e 2 (by omega) (by omega) (by omega) (by omega) (by omega), nB_z (by omega) (by omega) (by omega)]
  · show tau0 R (w + 3) i = newB (20 + i)
    rw [e 3 (by omega) (by omega) (by omega) (by omega) (by omega), nB_z (by omega) (by omega) (by omega)]
  · show tau0 R (w + 4) i = newB (40 + 3 * i)
    rw [t0_n (by omega) (by omega) (by omega) (decide_eq_true (by omega)), nn i hi, nB_n (by omega)]
  · show tau0 R (w + 5) i = newB (41 + 3 * i)
    rw [t0_n (by omega) (by omega) (by omega) (decide_eq_true (by omega)), nn i hi, nB_n (by omega)]
  · show tau0 R (w + 6) i = newB (42 + 3 * i)
    rw [e 6 (by omega) (by omega) (by omega) (by omega) (by omega), nB_z (by omega) (by omega) (by omega)]
  · show tau0 R (w + 7) i = newB (30 + i)
    rw [e 7 (by omega) (by omega) (by omega) (by omega) (by omega), nB_z (by omega) (by omega) (by omega)]
  · show tau0 R (w + 8) k = newB (70 + k)
    rw [e 8 (by omega) (by omega) (by omega) (by omega) (by omega), nB_z (by omega) (by omega) (by omega)]
  · rcases hw with rfl | rfl <;> rfl
  · show tau0 R (w + 10) i = beginRow (fun _ => 0) (2 + i)
    rw [t0_z (by omega) (by omega) (by omega) (decide_eq_false (by omega))]
    unfold beginRow
    rw [if_neg (by omega), if_pos (by omega)]
  · show tau0 R (w + 11) i = beginRow (fun _ => 0) (11 + i)
    rw [t0_n (by omega) (by omega) (by omega) (decide_eq_true (by omega)), nn i hi]
    unfold beginRow
    rw [if_neg (by omega), if_neg (by omega)]
  · show tau0 R (w + 12) i = beginRow (fun _ => 0) (20 + i)
    rw [t0_n (by omega) (by omega) (by omega) (decide_eq_true (by omega)), nn i hi]
    unfold beginRow
    rw [if_neg (by omega), if_neg (by omega)]
  · rcases hw with rfl | rfl <;> rfl
  · rcases hw with rfl | rfl <;> rfl
  · rcases hw with rfl | rfl <;> rfl
  · rcases hw with rfl | rfl <;> rfl
  · exact absurd hg (by simp [newA])
  · rcases hw with rfl | rfl <;> rfl
  · rcases hw with rfl | rfl <;> rfl
  · rcases hw with rfl | rfl <;> rfl
theorem fd_new {b : Nat} (hb : b = 85 ∨ b = 90 ∨ b = 95) : fdW R (tau0 R) b := by
  refine ⟨?_, 0, by omega, ?_, fun i hi => absurd hi (Nat.not_lt_zero i), fun s hs hz => absurd ?_ hz⟩
  · rcases hb with rfl | rfl | rfl <;> rfl
  · rcases hb with rfl | rfl | rfl <;> rfl
  · rcases hb with rfl | rfl | rfl <;> rfl
theorem cR_new (h3 : 3 ≤ R) (h9 : R ≤ 9) : cR R (tau0 R) newS := by
  refine ⟨⟨rfl, rfl, rfl⟩, wh_new h3 h9 (Or.inl rfl), wh_new h3 h9 (Or.inr rfl), fun t ht => ?_, ⟨rfl, fun j hj => absurd hj (Nat.not_lt_zero j), rfl, rfl⟩, rfl, Or.inl ⟨rfl, rfl⟩, fd_new (Or.inl rfl), fd_new (Or.inr (Or.inl rfl)), fd_new (Or.inr (Or.inr rfl))⟩
  have ht : (t : Int) < (newB 0).toInt := ht
  have : (newB 0).toInt = 0 := rfl
  omega
theorem c_C_init {sa : Nat → Nat} {d : Nat} {Q : xQ} {M0 : xM} (ht : xtop M0 c) {v : Int32} (h : ∀ τ', cR (rooV v) τ' newS → Q none (cM c (rooV v) M0 τ')) : xEv xP (xprim sa) (d + 4) m_C_init [.ref c, .int v] (lM c M0 [.inr (11, [.int 0, .null, .null, .null, .null, .null, .null, .null, .null, .null, .int 0, .int 0])]) Q := by
  refine c_C_l ht ?_
  rw [lM_cM lC_len cel_C]
  exact h _ (cR_new rooV_e.1 rooV_e.2.1)
end CN
