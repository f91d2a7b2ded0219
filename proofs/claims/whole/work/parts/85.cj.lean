/-! the constructors of the class: those that make others -/
/-- n moments one behind another -/
def mos (q R : Nat) : Nat → List xE
  | 0 => []
  | n + 1 => mos q R n ++ lMo (q + 4 * n) R
theorem mos_len {q R : Nat} : ∀ n, (mos q R n).length = 4 * n
  | 0 => rfl
  | n + 1 => by
    show (mos q R n ++ lMo (q + 4 * n) R).length = _
    rw [List.length_append, mos_len n]
    rfl
/-- places of w cells each -/
def rgF (q w n : Nat) : Nat → Option Nat := fun i => if i < n then some (q + w * i) else none
theorem rgF_0 {q w : Nat} : rgF q w 0 = fun _ => none := by
  funext i
  exact if_neg (Nat.not_lt_zero i)
theorem rgF_s {q w n : Nat} : va_up (rgF q w n) n (some (q + w * n)) = rgF q w (n + 1) := by
  funext i
  unfold va_up rgF
  by_cases e : i = n
  · rw [if_pos e, if_pos (by omega), e]
  · rw [if_neg e]
    by_cases e2 : i < n
    · rw [if_pos e2, if_pos (by omega)]
    · rw [if_neg e2, if_neg (by omega)]
def lPa (q R : Nat) : List xE := .inr (5, [.ref (q + 1), .int 0, .int 0]) :: .inl (5, 40, refA (rgF (q + 2) 4 40)) :: mos (q + 2) R 40
theorem lPa_len {q R : Nat} : (lPa q R).length = 162 := by
  unfold lPa
  rw [List.length_cons, List.length_cons, mos_len]
section CJ
variable {sa : Nat → Nat} {d : Nat} {Q : xQ} {q : Nat} {M0 : xM} {R : Nat} {cs : List xE} {u : xU}
theorem xpf_j {n a ci j : Nat} {L : List xE} {v : Value} {K : xM → Prop} (hn : cs.length = n) (h : xpf (lM q M0 (cs ++ L)) a ci j v K) : xpf (lM (q + n) (lM q M0 cs) L) a ci j v K := by
  rw [lM_lM hn]
  exact h
theorem c_Pa_init (ht : xtop M0 q) (h9 : R ≤ 9) (h : Q none (lM q M0 (lPa q R))) : xEv xP (xprim sa) (d + 2) m_Past_init [.ref q, .int (nI R)] (lM q M0 [.inr (5, [.null, .int 0, .int 0])]) Q := by
  have loop : ∀ (m n u1 u2 : Nat), m + n = 40 → 4 * m ≤ u1 → 32 * m ≤ u2 → K_Past_init sa (d + 1) Q 1 [some (.ref q), some (.int (nI R)), some (.int (nI n))] [] (lM q M0 (.inr (5, [.ref (q + 1), .int 0, .int 0]) :: .inl (5, 40, refA (rgF (q + 2) 4 n)) :: mos (q + 2) R n)) (u1, u2) := by
    intro m
    induction m with
    | zero =>
      intro n u1 u2 hn _ _
      refine t_Past_init_1 ?_
      rw [if_pos (nI_le (by omega) (by omega))]
      rw [show n = 40 by omega]
      exact h
    | succ m ih =>
      intro n u1 u2 hn g1 g2
      refine t_Past_init_1 ?_
      rw [if_neg (nI_ge (by omega) (by omega))]
      have hl : ∀ (a b : xE), (a :: b :: mos (q + 2) R n).length = 2 + 4 * n := fun a b => by rw [List.length_cons, List.length_cons, mos_len]; omega
      refine gR_l (k := 0) rfl rfl (new_l ht (hl _ _) (by show 1 ≤ u1; omega) (by show 5 ≤ u2; omega) ⟨by show 3 ≤ u1 - 1; omega, by show 27 ≤ u2 - 5; omega, c_Mo_init (top_l ht (hl _ _)) h9 ?_⟩)
      rw [xrV_mk, lM_lM (hl _ _)]
      refine sR_l (k := 1) (v := 2 + 4 * n) (fs := [.ref (q + (2 + 4 * n) + 1), .ref (q + (2 + 4 * n) + 2), .ref (q + (2 + 4 * n) + 3), .int 0, .int 0]) rfl (Or.inr rfl) (vp_in_nI (by omega) (by omega)) ?_ ?_
      · rw [List.getElem?_append_right (by rw [hl]; omega), hl, Nat.sub_self]
        rfl
      · have := ih (n + 1) (u1 - 1 - 3) (u2 - 5 - 27) (by omega) (by omega) (by omega)
        rw [nI_cl (by omega), show q + (2 + 4 * n) = q + 2 + 4 * n by omega, rgF_s, nI_s]
        exact this
  refine t_Past_init ?_
  simp only [show (nI 40).toNatClampNeg = 40 from rfl]
  refine ⟨nI_pos (by omega), by omega, al_l ht (by omega) (by omega) (pf_l (k := 0) rfl ?_)⟩
  simp only [List.cons_append, List.nil_append, List.append_nil, List.append_assoc, List.set_cons_zero, List.set_cons_succ, List.length_cons, List.length_nil, Nat.reduceAdd, Nat.reduceSub, Nat.add_zero]
  have l0 := loop 40 0 160 1280 (by omega) (by omega) (by omega)
  rw [rgF_0] at l0
  exact l0
def lWh (q R : Nat) : List xE := .inr (10, [.ref (q + 1), .ref (q + 9), .ref (q + 13), .ref (q + 175), .int 0]) :: (lEl (q + 1) R ++ (lMo (q + 9) R ++ (lPa (q + 13) R ++ lHe (q + 175))))
theorem lWh_len : (lWh q R).length = 178 := by
  unfold lWh
  rw [List.length_cons, List.length_append, List.length_append, List.length_append, lPa_len]
  rfl
theorem c_Wh_init (ht : xtop M0 q) (h9 : R ≤ 9) (h : Q none (lM q M0 (lWh q R))) : xEv xP (xprim sa) (d + 3) m_Whole_init [.ref q, .int (nI R)] (lM q M0 [.inr (10, [.null, .null, .null, .null, .int 0])]) Q := by
  refine t_Whole_init ?_
  refine new_l (m := 1) ht rfl (by omega) (by omega) ⟨by omega, by omega, c_El_init (top_l ht rfl) h9 ?_⟩
  rw [xrV_mk]
  refine xpf_j rfl (pf_l (k := 0) rfl ?_)
  simp only [List.cons_append, List.nil_append, List.append_nil, List.append_assoc, List.set_cons_zero, List.set_cons_succ, List.length_cons, List.length_nil, Nat.reduceAdd, Nat.reduceSub, Nat.add_zero]
  refine new_l (m := 9) ht rfl (by omega) (by omega) ⟨by omega, by omega, c_Mo_init (top_l ht rfl) h9 ?_⟩
  rw [xrV_mk]
  refine xpf_j rfl (pf_l (k := 0) rfl ?_)
  simp only [List.cons_append, List.nil_append, List.append_nil, List.append_assoc, List.set_cons_zero, List.set_cons_succ, List.length_cons, List.length_nil, Nat.reduceAdd, Nat.reduceSub, Nat.add_zero]
  refine new_l (m := 13) ht rfl (by omega) (by omega) ⟨by omega, by omega, c_Pa_init (top_l ht rfl) h9 ?_⟩
  rw [xrV_mk]
  refine xpf_j rfl (pf_l (k := 0) rfl ?_)
  simp only [List.cons_append, List.nil_append, List.append_nil, List.append_assoc, List.set_cons_zero, List.set_cons_succ, List.length_cons, List.length_nil, Nat.reduceAdd, Nat.reduceSub, Nat.add_zero]
  have hl : ∀ a : xE, (a :: (lEl (q + 1) R ++ (lMo (q + 9) R ++ lPa (q + 13) R))).length = 175 := fun a => by
    rw [List.length_cons, List.length_append, List.length_append, lPa_len]
    rfl
  refine new_l (m := 175) ht (hl _) (by omega) (by omega) ⟨by omega, by omega, c_He_init (top_l ht (hl _)) ?_⟩
  rw [xrV_mk, lM_lM (hl _)]
  refine pf_l (k := 0) rfl ?_
  simp only [List.cons_append, List.nil_append, List.append_nil, List.append_assoc, List.set_cons_zero, List.set_cons_succ, List.length_cons, List.length_nil, Nat.reduceAdd, Nat.reduceSub, Nat.add_zero]
  exact h
def lTr (q R t : Nat) : List xE := .inr (9, [.int (nI R), .ref t, .ref (q + 12), .ref (q + 16), .ref (q + 1)]) :: .inl (6, 10, refA (fun i => if i < 10 then some (q + 1 + 1 + i) else none)) :: (List.replicate 10 (z0 40) ++ (lMo (q + 12) R ++ lMo (q + 16) R))
theorem c_Tr_init (ht : xtop M0 q) (h9 : R ≤ 9) {t : Nat} (h : Q none (lM q M0 (lTr q R t))) : xEv xP (xprim sa) (d + 2) m_Tries_init [.ref q, .int (nI R), .ref t] (lM q M0 [.inr (9, [.int 0, .null, .null, .null, .null])]) Q := by
  refine t_Tries_init ?_
  simp only [show (nI 10).toNatClampNeg = 10 from rfl, show (nI 40).toNatClampNeg = 40 from rfl]
  refine ⟨nI_pos (by omega), nI_pos (by omega), by omega, by omega, mu_l (m := 1) ht rfl (by omega) (by omega) (pf_l (k := 0) rfl (pf_l (k := 0) rfl (pf_l (k := 0) rfl ?_)))⟩
  simp only [List.cons_append, List.nil_append, List.append_nil, List.append_assoc, List.set_cons_zero, List.set_cons_succ, List.length_cons, List.length_nil, Nat.reduceAdd, Nat.reduceSub, Nat.add_zero]
  refine new_l (m := 12) ht rfl (by omega) (by omega) ⟨by omega, by omega, c_Mo_init (top_l ht rfl) h9 ?_⟩
  rw [xrV_mk]
  refine xpf_j rfl (pf_l (k := 0) rfl ?_)
  simp only [List.cons_append, List.nil_append, List.append_nil, List.append_assoc, List.set_cons_zero, List.set_cons_succ, List.length_cons, List.length_nil, Nat.reduceAdd, Nat.reduceSub, Nat.add_zero]
  refine new_l (m := 16) ht rfl (by omega) (by omega) ⟨by omega, by omega, c_Mo_init (top_l ht rfl) h9 ?_⟩
  rw [xrV_mk]
  refine xpf_j rfl (pf_l (k := 0) rfl ?_)
  simp only [List.cons_append, List.nil_append, List.append_nil, List.append_assoc, List.set_cons_zero, List.set_cons_succ, List.length_cons, List.length_nil, Nat.reduceAdd, Nat.reduceSub, Nat.add_zero]
  exact h
def lRu (q R t : Nat) : List xE := .inr (6, [.ref (q + 23), .ref (q + 28), .ref (q + 33), .ref (q + 1), .ref (q + 11), .ref t, .ref (q + 38), .ref (q + 42), .ref (q + 21), .ref (q + 22), .int 0, .int (nI 2), .int 0]) :: .inl (6, 9, refA (fun i => if i < 9 then some (q + 1 + 1 + i) else none)) :: (List.replicate 9 (z0 2000) ++ .inl (6, 9, refA (fun i => if i < 9 then some (q + 11 + 1 + i) else none)) :: (List.replicate 9 (z0 2000) ++ z0 2 :: z0 1024 :: (lFo (q + 23) R ++ (lFo (q + 28) R ++ (lFo (q + 33) R ++ (lMo (q + 38) R ++ lMo (q + 42) R))))))
set_option maxRecDepth 100000 in
theorem c_Ru_init (ht : xtop M0 q) (h9 : R ≤ 9) {t : Nat} (h : Q none (lM q M0 (lRu q R t))) : xEv xP (xprim sa) (d + 2) m_Runs_init [.ref q, .int (nI R), .ref t] (lM q M0 [.inr (6, [.null, .null, .null, .null, .null, .null, .null, .null, .null, .null, .int 0, .int 0, .int 0])]) Q := by
  refine t_Runs_init ?_
  simp only [show (nI 9).toNatClampNeg = 9 from rfl, show (nI 2000).toNatClampNeg = 2000 from rfl, show (nI 2).toNatClampNeg = 2 from rfl, show (nI 1024).toNatClampNeg = 1024 from rfl]
  refine ⟨nI_pos (by omega), nI_pos (by omega), by omega, by omega, mu_l (m := 1) ht rfl (by omega) (by omega) (pf_l (k := 0) rfl ?_)⟩
  simp only [List.cons_append, List.nil_append, List.append_nil, List.append_assoc, List.set_cons_zero, List.set_cons_succ, List.length_cons, List.length_nil, Nat.reduceAdd, Nat.reduceSub, Nat.add_zero]
  refine ⟨nI_pos (by omega), nI_pos (by omega), by omega, by omega, mu_l (m := 11) ht rfl (by omega) (by omega) (pf_l (k := 0) rfl ?_)⟩
  simp only [List.cons_append, List.nil_append, List.append_nil, List.append_assoc, List.set_cons_zero, List.set_cons_succ, List.length_cons, List.length_nil, Nat.reduceAdd, Nat.reduceSub, Nat.add_zero]
  refine ⟨nI_pos (by omega), by omega, al_l ht (by omega) (by omega) (pf_l (k := 0) rfl ?_)⟩
  simp only [List.cons_append, List.nil_append, List.append_nil, List.append_assoc, List.set_cons_zero, List.set_cons_succ, List.length_cons, List.length_nil, Nat.reduceAdd, Nat.reduceSub, Nat.add_zero]
  refine ⟨nI_pos (by omega), by omega, al_l ht (by omega) (by omega) (pf_l (k := 0) rfl (pf_l (k := 0) rfl ?_))⟩
  simp only [List.cons_append, List.nil_append, List.append_nil, List.append_assoc, List.set_cons_zero, List.set_cons_succ, List.length_cons, List.length_nil, Nat.reduceAdd, Nat.reduceSub, Nat.add_zero]
  refine new_l (m := 23) ht rfl (by omega) (by omega) ⟨by omega, by omega, c_Fo_init (top_l ht rfl) h9 ?_⟩
  rw [xrV_mk]
  refine xpf_j rfl (pf_l (k := 0) rfl ?_)
  simp only [List.cons_append, List.nil_append, List.append_nil, List.append_assoc, List.set_cons_zero, List.set_cons_succ, List.length_cons, List.length_nil, Nat.reduceAdd, Nat.reduceSub, Nat.add_zero]
  refine new_l (m := 28) ht rfl (by omega) (by omega) ⟨by omega, by omega, c_Fo_init (top_l ht rfl) h9 ?_⟩
  rw [xrV_mk]
  refine xpf_j rfl (pf_l (k := 0) rfl ?_)
  simp only [List.cons_append, List.nil_append, List.append_nil, List.append_assoc, List.set_cons_zero, List.set_cons_succ, List.length_cons, List.length_nil, Nat.reduceAdd, Nat.reduceSub, Nat.add_zero]
  refine new_l (m := 33) ht rfl (by omega) (by omega) ⟨by omega, by omega, c_Fo_init (top_l ht rfl) h9 ?_⟩
  rw [xrV_mk]
  refine xpf_j rfl (pf_l (k := 0) rfl ?_)
  simp only [List.cons_append, List.nil_append, List.append_nil, List.append_assoc, List.set_cons_zero, List.set_cons_succ, List.length_cons, List.length_nil, Nat.reduceAdd, Nat.reduceSub, Nat.add_zero]
  refine new_l (m := 38) ht rfl (by omega) (by omega) ⟨by omega, by omega, c_Mo_init (top_l ht rfl) h9 ?_⟩
  rw [xrV_mk]
  refine xpf_j rfl (pf_l (k := 0) rfl ?_)
  simp only [List.cons_append, List.nil_append, List.append_nil, List.append_assoc, List.set_cons_zero, List.set_cons_succ, List.length_cons, List.length_nil, Nat.reduceAdd, Nat.reduceSub, Nat.add_zero]
  refine new_l (m := 42) ht rfl (by omega) (by omega) ⟨by omega, by omega, c_Mo_init (top_l ht rfl) h9 ?_⟩
  rw [xrV_mk]
  refine xpf_j rfl (pf_l (k := 0) rfl (pf_l (k := 0) rfl ?_))
  simp only [List.cons_append, List.nil_append, List.append_nil, List.append_assoc, List.set_cons_zero, List.set_cons_succ, List.length_cons, List.length_nil, Nat.reduceAdd, Nat.reduceSub, Nat.add_zero]
  exact h
end CJ
