/-! the class is made: its cells hold the new state -/
section CN
variable {c R : Nat}
theorem cel_tes : ∀ n, n ≤ 4 → cel c R (tau0 R) 2 (tes (c + 2) n)
  | 0, _ => trivial
  | n + 1, hn => by
    refine cel_app _ _ _ _ (tes_len n) (cel_tes n (by omega)) ?_
    rw [show c + 2 + 8 * n = c + (2 + 8 * n) by omega]
    refine cel_Te (tk_4 (by omega)) (fun j hj => ?_)
    unfold tau0
    rw [if_neg (by omega), if_neg (by omega), if_neg (by omega), if_neg (by omega), if_neg (by omega), if_neg (by omega), if_neg]
    intro h
    have := of_decide_eq_true h
    omega
set_option maxRecDepth 100000 in
theorem cel_Ru : cel c R (tau0 R) 62 (lRu (c + 62) R (c + 36)) := by
  refine ⟨rfl, rfl, cel_app _ _ _ 9 rfl ⟨rfl, rfl, rfl, rfl, rfl, rfl, rfl, rfl, rfl, trivial⟩ ⟨rfl, cel_app _ _ _ 9 rfl ⟨rfl, rfl, rfl, rfl, rfl, rfl, rfl, rfl, rfl, trivial⟩ ⟨rfl, cel_app _ _ _ 5 rfl (cel_Fo (k := 84) fk_84 rfl rfl rfl rfl rfl) (cel_app _ _ _ 5 rfl (cel_Fo (k := 89) fk_89 rfl rfl rfl rfl rfl) (cel_app _ _ _ 5 rfl (cel_Fo (k := 94) fk_94 rfl rfl rfl rfl rfl) (cel_app _ _ _ 4 rfl (cel_Mo (k := 99) mk_99 rfl rfl rfl rfl) (cel_Mo (k := 103) mk_103 rfl rfl rfl rfl))))⟩⟩⟩
set_option maxRecDepth 100000 in
theorem cel_Tr : cel c R (tau0 R) 42 (lTr (c + 42) R (c + 36)) := by
  refine ⟨rfl, rfl, cel_app _ _ _ 10 rfl ⟨rfl, rfl, rfl, rfl, rfl, rfl, rfl, rfl, rfl, rfl, trivial⟩ (cel_app _ _ _ 4 rfl (cel_Mo (k := 54) mk_54 rfl rfl rfl rfl) (cel_Mo (k := 58) mk_58 rfl rfl rfl rfl))⟩
theorem cel_2 : (.inl (4, 4, refA (rgF (c + 2) 8 4)) : xE) = cCell c R 1 (tau0 R 1) := by
  show _ = (.inl (4, 4, refA (fun i => if i < 4 then some (c + (2 + 8 * i)) else none)) : xE)
  have : rgF (c + 2) 8 4 = (fun i => if i < 4 then some (c + (2 + 8 * i)) else none) := by
    funext i
    unfold rgF
    by_cases hi : i < 4
    · rw [if_pos hi, if_pos hi]
      congr 1
      omega
    · rw [if_neg hi, if_neg hi]
  rw [this]
set_option maxRecDepth 100000 in
theorem cel_C : cel c R (tau0 R) 0 (lC c R) := by
  refine ⟨rfl, cel_2, cel_app _ _ _ 32 (tes_len 4) (cel_tes 4 (by omega)) (cel_app _ _ _ 2 rfl (⟨rfl, rfl, trivial⟩ : cel c R (tau0 R) 34 (lTa (c + 34))) (cel_app _ _ _ 6 rfl (⟨rfl, rfl, rfl, rfl, rfl, rfl, trivial⟩ : cel c R (tau0 R) 36 (lHa (c + 36) R (c + 1))) (cel_app _ _ _ 20 rfl cel_Tr (cel_app _ _ _ 45 rfl cel_Ru (cel_app _ _ _ 8 rfl (cel_El (k := 107) ek_107 rfl rfl rfl rfl rfl rfl rfl rfl) (cel_app _ _ _ 3 rfl (cel_He (k := 115) hk_115 rfl rfl rfl) (cel_app _ _ _ 178 lWh_len (cel_Wh (w := 118) (Or.inl rfl)) (cel_Wh (w := 296) (Or.inr rfl))))))))⟩
theorem lC_len : (lC c R).length = 474 := by
  unfold lC
  simp only [List.length_cons, List.length_append, tes_len, lWh_len]
  rfl
theorem nB_z {j : Nat} (h1 : j ≠ 1) (h4 : j ≠ 4) (h : j < 40 ∨ 67 ≤ j ∨ (j - 40) % 3 = 2) : newB j = 0 := by
  unfold newB
  rw [if_neg h1, if_neg h4, if_neg (by omega)]
theorem nB_n {j : Nat} (h : 40 ≤ j ∧ j < 67 ∧ (j - 40) % 3 ≠ 2) : newB j = -1 := by
  unfold newB
  rw [if_neg (by omega), if_neg (by omega), if_pos h]
theorem wh_new (h3 : 3 ≤ R) (h9 : R ≤ 9) {w : Nat} (hw : w = 118 ∨ w = 296) : whR R (tau0 R) w newA := by
  have nn : ∀ i, i < R → nN R i = -1 := fun i hi => if_pos hi
  have e : ∀ j, j < 9 → j ≠ 0 → j ≠ 1 → j ≠ 4 → j ≠ 5 → tau0 R (w + j) = fun _ => 0 := by
    intro j hj h0 h1 h4 h5
    refine t0_z (by omega) (by omega) (by omega) (decide_eq_false (by omega))
  refine ⟨⟨fun i hi => ⟨?_, ?_, ?_, ?_, ?_, ?_⟩, fun k hk => ?_, ?_⟩, ⟨fun i hi => ⟨?_, ?_, ?_⟩, ?_, ?_⟩, ⟨?_, 0, by omega, ?_, fun j g hg => ?_⟩, ⟨?_, ⟨0, by omega, ?_⟩, fun hq => absurd rfl hq, fun j hj => absurd hj (Nat.not_lt_zero j)⟩, ?_⟩
  · show tau0 R (w + 2) i = newB (10 + i)
    rw [e 2 (by omega) (by omega) (by omega) (by omega) (by omega), nB_z (by omega) (by omega) (by omega)]
  · show tau0 R (w + 3) i = newB (20 + i)
    rw [e 3 (by omega) (by omega) (by omega) (by omega) (by omega), nB_z (by omega) (by omega) (by omega)]
  · show tau0 R (w + 4) i = newB (40 + 3 * i)
    rw [t0_n (by omega) (by omega) (by omega) (decide_eq_true (by omega)), nn i hi, nB_n (by omega)]
  · show tau0 R (w + 5) i = newB (41 + 3 * i)
    rw [t0_n (by omega) (by omega) (by omega) (decide_eq_true (by omega)), nn i hi, nB_n (by omega)]
  · show tau0 R (w + 6) i = newB (42 + 3 * i)
    rw [e 6 (by omega) (by omega) (by omega) (by omega) (by omega), nB_z (by omega) (by omega) (by omega)]
  · show tau0 R (w + 7) i = newB (30 + i)
    rw [e 7 (by omega) (by omega) (by omega) (by omega) (by omega), nB_z (by omega) (by omega) (by omega)]
  · show tau0 R (w + 8) k = newB (70 + k)
    rw [e 8 (by omega) (by omega) (by omega) (by omega) (by omega), nB_z (by omega) (by omega) (by omega)]
  · rcases hw with rfl | rfl <;> rfl
  · show tau0 R (w + 10) i = beginRow (fun _ => 0) (2 + i)
    rw [t0_z (by omega) (by omega) (by omega) (decide_eq_false (by omega))]
    unfold beginRow
    rw [if_neg (by omega), if_pos (by omega)]
  · show tau0 R (w + 11) i = beginRow (fun _ => 0) (11 + i)
    rw [t0_n (by omega) (by omega) (by omega) (decide_eq_true (by omega)), nn i hi]
    unfold beginRow
    rw [if_neg (by omega), if_neg (by omega)]
  · show tau0 R (w + 12) i = beginRow (fun _ => 0) (20 + i)
    rw [t0_n (by omega) (by omega) (by omega) (decide_eq_true (by omega)), nn i hi]
    unfold beginRow
    rw [if_neg (by omega), if_neg (by omega)]
  · rcases hw with rfl | rfl <;> rfl
  · rcases hw with rfl | rfl <;> rfl
  · rcases hw with rfl | rfl <;> rfl
  · rcases hw with rfl | rfl <;> rfl
  · exact absurd hg (by simp [newA])
  · rcases hw with rfl | rfl <;> rfl
  · rcases hw with rfl | rfl <;> rfl
  · rcases hw with rfl | rfl <;> rfl
theorem fd_new {b : Nat} (hb : b = 84 ∨ b = 89 ∨ b = 94) : fdW R (tau0 R) b := by
  refine ⟨?_, 0, by omega, ?_, fun i hi => absurd hi (Nat.not_lt_zero i), fun s hs hz => absurd ?_ hz⟩
  · rcases hb with rfl | rfl | rfl <;> rfl
  · rcases hb with rfl | rfl | rfl <;> rfl
  · rcases hb with rfl | rfl | rfl <;> rfl
theorem cR_new (h3 : 3 ≤ R) (h9 : R ≤ 9) : cR R (tau0 R) newS := by
  refine ⟨⟨rfl, rfl, rfl⟩, wh_new h3 h9 (Or.inl rfl), wh_new h3 h9 (Or.inr rfl), fun t ht => ?_, ⟨rfl, fun j hj => absurd hj (Nat.not_lt_zero j), rfl, rfl⟩, rfl, Or.inl ⟨rfl, rfl⟩, fd_new (Or.inl rfl), fd_new (Or.inr (Or.inl rfl)), fd_new (Or.inr (Or.inr rfl))⟩
  have ht : (t : Int) < (newB 0).toInt := ht
  have : (newB 0).toInt = 0 := rfl
  omega
theorem c_C_init {sa : Nat → Nat} {d : Nat} {Q : xQ} {M0 : xM} (ht : xtop M0 c) {v : Int32} (h : ∀ τ', cR (rooV v) τ' newS → Q none (cM c (rooV v) M0 τ')) : xEv xP (xprim sa) (d + 4) m_C_init [.ref c, .int v] (lM c M0 [.inr (11, [.int 0, .null, .null, .null, .null, .null, .null, .null, .null, .null, .int 0, .int 0])]) Q := by
  refine c_C_l ht ?_
  rw [lM_cM lC_len cel_C]
  exact h _ (cR_new rooV_e.1 rooV_e.2.1)
end CN
