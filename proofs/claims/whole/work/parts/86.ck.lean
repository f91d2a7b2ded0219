/-! the class is made -/
def tes (q : Nat) : Nat → List xE
  | 0 => []
  | n + 1 => tes q n ++ lTe (q + 8 * n)
theorem tes_len {q : Nat} : ∀ n, (tes q n).length = 8 * n
  | 0 => rfl
  | n + 1 => by
    show (tes q n ++ lTe (q + 8 * n)).length = _
    rw [List.length_append, tes_len n]
    rfl
def oC (c R : Nat) : xE := .inr (11, [.int (nI R), .ref (c + 1), .ref (c + 34), .ref (c + 36), .ref (c + 42), .ref (c + 62), .ref (c + 108), .ref (c + 116), .ref (c + 119), .ref (c + 297), .int (-1), .int (-1)])
def lC (c R : Nat) : List xE := oC c R :: .inl (4, 4, refA (rgF (c + 2) 8 4)) :: (tes (c + 2) 4 ++ (lTa (c + 34) ++ (lHa (c + 36) R (c + 1) ++ (lTr (c + 42) R (c + 36) ++ (lRu (c + 62) R (c + 36) ++ (lEl (c + 108) R ++ (lHe (c + 116) ++ (lWh (c + 119) R ++ lWh (c + 297) R))))))))
theorem lTa_l {q : Nat} : (lTa q).length = 2 := rfl
theorem lHa_l {q R t : Nat} : (lHa q R t).length = 6 := rfl
theorem lTr_l {q R t : Nat} : (lTr q R t).length = 20 := rfl
theorem lRu_l {q R t : Nat} : (lRu q R t).length = 46 := rfl
theorem lEl_l {q R : Nat} : (lEl q R).length = 8 := rfl
theorem lHe_l {q : Nat} : (lHe q).length = 3 := rfl
section CK
variable {sa : Nat → Nat} {d : Nat} {Q : xQ} {q c : Nat} {M0 : xM} {M : xM} {R : Nat} {cs : List xE} {u : xU}
theorem c_bd {v : Int32} (h : Q (some (.int (nI (rooV v)))) M) : xEv xP (xprim sa) (d + 1) m_C_bounded [.int v, .int (nI 3), .int (nI 9)] M Q := by
  refine t_C_bounded ?_
  have e := (rooV_e (v := v)).2.2
  rw [← e] at h
  by_cases h3 : nI 3 ≤ v
  · rw [if_pos h3] at h ⊢
    by_cases h9 : v ≤ nI 9
    · rw [if_pos h9] at h ⊢; exact h
    · rw [if_neg h9] at h ⊢; exact h
  · rw [if_neg h3] at h ⊢; exact h
set_option maxRecDepth 100000 in
theorem c_C_l (ht : xtop M0 c) {v : Int32} (h : Q none (lM c M0 (lC c (rooV v)))) : xEv xP (xprim sa) (d + 4) m_C_init [.ref c, .int v] (lM c M0 [.inr (11, [.int 0, .null, .null, .null, .null, .null, .null, .null, .null, .null, .int 0, .int 0])]) Q := by
  have h9 : rooV v ≤ 9 := rooV_e.2.1
  generalize hR : rooV v = R at h h9
  have loop : ∀ (m n u1 u2 : Nat), m + n = 4 → 441 + 8 * m ≤ u1 → 119854 + 1245 * m ≤ u2 → K_C_init sa (d + 3) Q 1 [some (.ref c), none, some (.int (nI n))] [] (lM c M0 (.inr (11, [.int (nI R), .ref (c + 1), .null, .null, .null, .null, .null, .null, .null, .null, .int 0, .int 0]) :: .inl (4, 4, refA (rgF (c + 2) 8 n)) :: tes (c + 2) n)) (u1, u2) := by
    intro m
    induction m with
    | zero =>
      intro n u1 u2 hn g1 g2
      refine t_C_init_1 ?_
      rw [if_pos (nI_le (by omega) (by omega))]
      rw [show n = 4 by omega]
      have hl0 : ∀ (a b : xE), (a :: b :: tes (c + 2) 4).length = 34 := fun a b => by rw [List.length_cons, List.length_cons, tes_len]
      refine new_l (m := 34) ht (hl0 _ _) (by omega) (by omega) ?_
      refine ⟨by omega, by omega, c_Ta_init (top_l ht (hl0 _ _)) ?_⟩
      rw [xrV_mk, lM_lM (hl0 _ _)]
      refine pf_l (k := 0) rfl ?_
      simp only [List.cons_append, List.nil_append, List.append_nil, List.append_assoc, List.set_cons_zero, List.set_cons_succ, List.length_cons, List.length_nil, Nat.reduceAdd, Nat.reduceSub, Nat.add_zero]
      have hl1 : ∀ (a b : xE), (a :: b :: (tes (c + 2) 4 ++ (lTa (c + 34)))).length = 36 := fun a b => by
        simp only [List.length_cons, List.length_append, tes_len, lTa_l, lHa_l, lTr_l, lRu_l, lEl_l, lHe_l, lWh_len]
      refine new_l (m := 36) ht (hl1 _ _) (by omega) (by omega) ?_
      rw [lM_lM (hl1 _ _)]
      refine gI_l (k := 0) rfl rfl (gR_l (k := 0) rfl rfl (?_))
      rw [← lM_lM (hl1 _ _)]
      refine ⟨by omega, by omega, c_Ha_init (top_l ht (hl1 _ _)) h9 ?_⟩
      rw [xrV_mk, lM_lM (hl1 _ _)]
      refine pf_l (k := 0) rfl ?_
      simp only [List.cons_append, List.nil_append, List.append_nil, List.append_assoc, List.set_cons_zero, List.set_cons_succ, List.length_cons, List.length_nil, Nat.reduceAdd, Nat.reduceSub, Nat.add_zero]
      have hl2 : ∀ (a b : xE), (a :: b :: (tes (c + 2) 4 ++ (lTa (c + 34) ++ (lHa (c + 36) R (c + 1))))).length = 42 := fun a b => by
        simp only [List.length_cons, List.length_append, tes_len, lTa_l, lHa_l, lTr_l, lRu_l, lEl_l, lHe_l, lWh_len]
      refine new_l (m := 42) ht (hl2 _ _) (by omega) (by omega) ?_
      rw [lM_lM (hl2 _ _)]
      refine gI_l (k := 0) rfl rfl (gR_l (k := 0) rfl rfl (?_))
      rw [← lM_lM (hl2 _ _)]
      refine ⟨by omega, by omega, c_Tr_init (top_l ht (hl2 _ _)) h9 ?_⟩
      rw [xrV_mk, lM_lM (hl2 _ _)]
      refine pf_l (k := 0) rfl ?_
      simp only [List.cons_append, List.nil_append, List.append_nil, List.append_assoc, List.set_cons_zero, List.set_cons_succ, List.length_cons, List.length_nil, Nat.reduceAdd, Nat.reduceSub, Nat.add_zero]
      have hl3 : ∀ (a b : xE), (a :: b :: (tes (c + 2) 4 ++ (lTa (c + 34) ++ (lHa (c + 36) R (c + 1) ++ (lTr (c + 42) R (c + 36)))))).length = 62 := fun a b => by
        simp only [List.length_cons, List.length_append, tes_len, lTa_l, lHa_l, lTr_l, lRu_l, lEl_l, lHe_l, lWh_len]
      refine new_l (m := 62) ht (hl3 _ _) (by omega) (by omega) ?_
      rw [lM_lM (hl3 _ _)]
      refine gI_l (k := 0) rfl rfl (gR_l (k := 0) rfl rfl (?_))
      rw [← lM_lM (hl3 _ _)]
      refine ⟨by omega, by omega, c_Ru_init (top_l ht (hl3 _ _)) h9 ?_⟩
      rw [xrV_mk, lM_lM (hl3 _ _)]
      refine pf_l (k := 0) rfl ?_
      simp only [List.cons_append, List.nil_append, List.append_nil, List.append_assoc, List.set_cons_zero, List.set_cons_succ, List.length_cons, List.length_nil, Nat.reduceAdd, Nat.reduceSub, Nat.add_zero]
      have hl4 : ∀ (a b : xE), (a :: b :: (tes (c + 2) 4 ++ (lTa (c + 34) ++ (lHa (c + 36) R (c + 1) ++ (lTr (c + 42) R (c + 36) ++ (lRu (c + 62) R (c + 36))))))).length = 108 := fun a b => by
        simp only [List.length_cons, List.length_append, tes_len, lTa_l, lHa_l, lTr_l, lRu_l, lEl_l, lHe_l, lWh_len]
      refine new_l (m := 108) ht (hl4 _ _) (by omega) (by omega) ?_
      rw [lM_lM (hl4 _ _)]
      refine gI_l (k := 0) rfl rfl (?_)
      rw [← lM_lM (hl4 _ _)]
      refine ⟨by omega, by omega, c_El_init (top_l ht (hl4 _ _)) h9 ?_⟩
      rw [xrV_mk, lM_lM (hl4 _ _)]
      refine pf_l (k := 0) rfl ?_
      simp only [List.cons_append, List.nil_append, List.append_nil, List.append_assoc, List.set_cons_zero, List.set_cons_succ, List.length_cons, List.length_nil, Nat.reduceAdd, Nat.reduceSub, Nat.add_zero]
      have hl5 : ∀ (a b : xE), (a :: b :: (tes (c + 2) 4 ++ (lTa (c + 34) ++ (lHa (c + 36) R (c + 1) ++ (lTr (c + 42) R (c + 36) ++ (lRu (c + 62) R (c + 36) ++ (lEl (c + 108) R))))))).length = 116 := fun a b => by
        simp only [List.length_cons, List.length_append, tes_len, lTa_l, lHa_l, lTr_l, lRu_l, lEl_l, lHe_l, lWh_len]
      refine new_l (m := 116) ht (hl5 _ _) (by omega) (by omega) ?_
      refine ⟨by omega, by omega, c_He_init (top_l ht (hl5 _ _)) ?_⟩
      rw [xrV_mk, lM_lM (hl5 _ _)]
      refine pf_l (k := 0) rfl ?_
      simp only [List.cons_append, List.nil_append, List.append_nil, List.append_assoc, List.set_cons_zero, List.set_cons_succ, List.length_cons, List.length_nil, Nat.reduceAdd, Nat.reduceSub, Nat.add_zero]
      have hl6 : ∀ (a b : xE), (a :: b :: (tes (c + 2) 4 ++ (lTa (c + 34) ++ (lHa (c + 36) R (c + 1) ++ (lTr (c + 42) R (c + 36) ++ (lRu (c + 62) R (c + 36) ++ (lEl (c + 108) R ++ (lHe (c + 116))))))))).length = 119 := fun a b => by
        simp only [List.length_cons, List.length_append, tes_len, lTa_l, lHa_l, lTr_l, lRu_l, lEl_l, lHe_l, lWh_len]
      refine new_l (m := 119) ht (hl6 _ _) (by omega) (by omega) ?_
      rw [lM_lM (hl6 _ _)]
      refine gI_l (k := 0) rfl rfl (?_)
      rw [← lM_lM (hl6 _ _)]
      refine ⟨by omega, by omega, c_Wh_init (top_l ht (hl6 _ _)) h9 ?_⟩
      rw [xrV_mk, lM_lM (hl6 _ _)]
      refine pf_l (k := 0) rfl ?_
      simp only [List.cons_append, List.nil_append, List.append_nil, List.append_assoc, List.set_cons_zero, List.set_cons_succ, List.length_cons, List.length_nil, Nat.reduceAdd, Nat.reduceSub, Nat.add_zero]
      have hl7 : ∀ (a b : xE), (a :: b :: (tes (c + 2) 4 ++ (lTa (c + 34) ++ (lHa (c + 36) R (c + 1) ++ (lTr (c + 42) R (c + 36) ++ (lRu (c + 62) R (c + 36) ++ (lEl (c + 108) R ++ (lHe (c + 116) ++ (lWh (c + 119) R))))))))).length = 297 := fun a b => by
        simp only [List.length_cons, List.length_append, tes_len, lTa_l, lHa_l, lTr_l, lRu_l, lEl_l, lHe_l, lWh_len]
      refine new_l (m := 297) ht (hl7 _ _) (by omega) (by omega) ?_
      rw [lM_lM (hl7 _ _)]
      refine gI_l (k := 0) rfl rfl (?_)
      rw [← lM_lM (hl7 _ _)]
      refine ⟨by omega, by omega, c_Wh_init (top_l ht (hl7 _ _)) h9 ?_⟩
      rw [xrV_mk, lM_lM (hl7 _ _)]
      refine pf_l (k := 0) rfl (pf_l (k := 0) rfl (pf_l (k := 0) rfl ?_))
      simp only [List.cons_append, List.nil_append, List.append_nil, List.append_assoc, List.set_cons_zero, List.set_cons_succ, List.length_cons, List.length_nil, Nat.reduceAdd, Nat.reduceSub, Nat.add_zero]
      exact h
    | succ m ih =>
      intro n u1 u2 hn g1 g2
      refine t_C_init_1 ?_
      rw [if_neg (nI_ge (by omega) (by omega))]
      have hl : ∀ (a b : xE), (a :: b :: tes (c + 2) n).length = 2 + 8 * n := fun a b => by rw [List.length_cons, List.length_cons, tes_len]; omega
      refine gR_l (k := 0) rfl rfl (new_l ht (hl _ _) (by show 1 ≤ u1; omega) (by show 9 ≤ u2; omega) ⟨by show 7 ≤ u1 - 1; omega, by show 1236 ≤ u2 - 9; omega, c_Te_init (top_l ht (hl _ _)) ?_⟩)
      rw [xrV_mk, lM_lM (hl _ _)]
      refine sR_l (k := 1) (v := 2 + 8 * n) (fs := [.ref (c + (2 + 8 * n) + 1), .ref (c + (2 + 8 * n) + 2), .ref (c + (2 + 8 * n) + 3), .ref (c + (2 + 8 * n) + 4), .ref (c + (2 + 8 * n) + 5), .ref (c + (2 + 8 * n) + 6), .ref (c + (2 + 8 * n) + 7), .int 0, .int 0]) rfl (Or.inl rfl) (vp_in_nI (by omega) (by omega)) ?_ ?_
      · rw [List.getElem?_append_right (by rw [hl]; omega), hl, Nat.sub_self]
        rfl
      · have := ih (n + 1) (u1 - 1 - 7) (u2 - 9 - 1236) (by omega) (by omega) (by omega)
        rw [nI_cl (by omega), show c + (2 + 8 * n) = c + 2 + 8 * n by omega, rgF_s, nI_s]
        exact this
  refine t_C_init (c_bd ?_)
  rw [xrI_mk, hR]
  refine pf_l (k := 0) rfl ?_
  simp only [List.cons_append, List.nil_append, List.append_nil, List.append_assoc, List.set_cons_zero, List.set_cons_succ, List.length_cons, List.length_nil, Nat.reduceAdd, Nat.reduceSub, Nat.add_zero]
  simp only [show (nI 4).toNatClampNeg = 4 from rfl]
  refine ⟨nI_pos (by omega), by omega, al_l ht (by omega) (by omega) (pf_l (k := 0) rfl ?_)⟩
  simp only [List.cons_append, List.nil_append, List.append_nil, List.append_assoc, List.set_cons_zero, List.set_cons_succ, List.length_cons, List.length_nil, Nat.reduceAdd, Nat.reduceSub, Nat.add_zero]
  have l0 := loop 4 0 473 124834 (by omega) (by omega) (by omega)
  rw [rgF_0] at l0
  exact l0
end CK
