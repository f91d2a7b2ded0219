/-! the constructors of the class: memory that grows -/
theorem lM_lM {q n : Nat} {M0 : xM} {cs L : List xE} (hn : cs.length = n) : lM (q + n) (lM q M0 cs) L = lM q M0 (cs ++ L) := by
  subst hn
  funext x
  unfold lM
  rw [List.length_append]
  by_cases h1 : q + cs.length ≤ x ∧ x < q + cs.length + L.length
  · rw [if_pos h1, if_pos (by omega), List.getElem?_append_right (by omega)]
    congr 1
    omega
  · rw [if_neg h1]
    by_cases h2 : q ≤ x ∧ x < q + cs.length
    · rw [if_pos h2, if_pos (by omega), List.getElem?_append_left (by omega)]
    · rw [if_neg h2, if_neg (by omega)]
theorem top_l {q n : Nat} {M0 : xM} {cs : List xE} (ht : xtop M0 q) (hn : cs.length = n) : xtop (lM q M0 cs) (q + n) := by
  subst hn
  intro x
  unfold lM
  by_cases h : q ≤ x ∧ x < q + cs.length
  · rw [if_pos h, List.getElem?_eq_getElem (by omega)]
    constructor
    · intro a; exact nomatch a
    · intro a; omega
  · rw [if_neg h, ht x]
    omega
/-- none, for the first n -/
def nN (n : Nat) : Nat → Int32 := fun j => if j < n then -1 else 0
theorem nN_0 : nN 0 = fun _ => 0 := by
  funext j
  exact if_neg (Nat.not_lt_zero j)
theorem nN_s {n : Nat} : upd (nN n) n (-1) = nN (n + 1) := by
  funext j
  unfold upd nN
  by_cases e : j = n
  · rw [if_pos e, if_pos (by omega)]
  · rw [if_neg e]
    by_cases e2 : j < n
    · rw [if_pos e2, if_pos (by omega)]
    · rw [if_neg e2, if_neg (by omega)]
section CI
variable {sa : Nat → Nat} {d : Nat} {Q : xQ} {q : Nat} {M0 : xM} {R : Nat} {cs : List xE} {u : xU}
theorem new_l (ht : xtop M0 q) {m n : Nat} {e : xE} {K : Nat → xM → xU → Prop} (hm : cs.length = m) (h1 : 1 ≤ u.1) (h2 : n ≤ u.2) (h : K (q + m) (lM (q + m) (lM q M0 cs) [e]) (u.1 - 1, u.2 - n)) : xalloc (lM q M0 cs) u n e K := by
  refine al_l ht h1 h2 ?_
  rw [lM_lM hm] at h
  rw [hm]
  exact h
theorem sI_l {k n : Nat} {g : Nat → Int32} {i x : Int32} {K : xM → Prop} (hk : cs[k]? = some (.inl (0, n, .inl g))) (hi : vp_in i n) (h : K (lM q M0 (cs.set k (.inl (0, n, .inl (upd g i.toNatClampNeg x)))))) : xsI (lM q M0 cs) (q + k) i x K := by
  unfold xsI
  rw [lM_at hk]
  dsimp only
  rw [lM_set (gt_lt hk)]
  exact ⟨rfl, hi, h⟩
theorem gR_l {k ci j x : Nat} {fs : List Value} {K : Nat → Prop} (hk : cs[k]? = some (.inr (ci, fs))) (hj : fs[j]? = some (.ref x)) (h : K x) : xgfR (lM q M0 cs) (q + k) ci j K := by
  unfold xgfR
  rw [lM_at hk]
  dsimp only
  rw [hj]
  exact ⟨rfl, h⟩
theorem gI_l {k ci j : Nat} {x : Int32} {fs : List Value} {K : Int32 → Prop} (hk : cs[k]? = some (.inr (ci, fs))) (hj : fs[j]? = some (.int x)) (h : K x) : xgfI (lM q M0 cs) (q + k) ci j K := by
  unfold xgfI
  rw [lM_at hk]
  dsimp only
  rw [hj]
  exact ⟨rfl, h⟩
theorem sR_l {k tc n v : Nat} {f : Nat → Option Nat} {i : Int32} {fs : List Value} {K : xM → Prop} (hk : cs[k]? = some (.inl (tc, n, refA f))) (ht : tc = 4 ∨ tc = 5) (hi : vp_in i n) (hv : cs[v]? = some (.inr (xcmp tc, fs))) (h : K (lM q M0 (cs.set k (.inl (tc, n, refA (va_up f i.toNatClampNeg (some (q + v)))))))) : xsR (lM q M0 cs) (q + k) i (q + v) K := by
  unfold xsR
  rw [lM_at hk]
  unfold refA
  dsimp only
  rw [lM_set (gt_lt hk)]
  exact ⟨ht, hi, ⟨fs, lM_at hv⟩, h⟩
theorem mu_l (ht : xtop M0 q) {m n k : Nat} {K : Nat → xM → xU → Prop} (hm : cs.length = m) (h1 : 1 + n ≤ u.1) (h2 : n + n * k ≤ u.2) (h : K (q + m) (lM q M0 (cs ++ .inl (6, n, refA (fun i => if i < n then some (q + m + 1 + i) else none)) :: List.replicate n (z0 k))) (u.1 - (1 + n), u.2 - (n + n * k))) : xmul (lM q M0 cs) u n k K := by
  refine ⟨h1, h2, fun q' hq' => ?_⟩
  have e := lM_top ht hq'
  rw [hm] at e
  subst e
  have : (fun x => if x = q + m then some (.inl (6, n, .inr (.inr (.inr (.inr (fun i => if i < n then some (q + m + 1 + i) else none)))))) else if q + m < x ∧ x ≤ q + m + n then some (.inl (0, k, .inl (fun _ => 0))) else lM q M0 cs x) = lM q M0 (cs ++ .inl (6, n, refA (fun i => if i < n then some (q + m + 1 + i) else none)) :: List.replicate n (z0 k)) := by
    funext x
    unfold lM
    rw [List.length_append, List.length_cons, List.length_replicate]
    by_cases e1 : x = q + m
    · rw [if_pos e1, if_pos (by omega), List.getElem?_append_right (by omega), show x - q - cs.length = 0 by omega]
      rfl
    · rw [if_neg e1]
      by_cases e2 : q + m < x ∧ x ≤ q + m + n
      · rw [if_pos e2, if_pos (by omega), List.getElem?_append_right (by omega)]
        obtain ⟨j, hj⟩ : ∃ j, x - q - cs.length = j + 1 := ⟨x - q - cs.length - 1, by omega⟩
        rw [hj, List.getElem?_cons_succ, List.getElem?_replicate, if_pos (by omega)]
        rfl
      · rw [if_neg e2]
        by_cases e3 : q ≤ x ∧ x < q + cs.length
        · rw [if_pos e3, if_pos (by omega), List.getElem?_append_left (by omega)]
        · rw [if_neg e3, if_neg (by omega)]
  rw [this]
  exact h
theorem nnR (h9 : R ≤ 9) : (nI R).toNatClampNeg = R := nI_cl (by omega)
def lMo (q R : Nat) : List xE := [.inr (4, [.ref (q + 1), .ref (q + 2), .ref (q + 3), .int 0, .int 0]), z0 R, .inl (0, R, .inl (nN R)), .inl (0, R, .inl (nN R))]
theorem c_Mo_init (ht : xtop M0 q) (h9 : R ≤ 9) (h : Q none (lM q M0 (lMo q R))) : xEv xP (xprim sa) (d + 1) m_Moment_init [.ref q, .int (nI R)] (lM q M0 [.inr (4, [.null, .null, .null, .int 0, .int 0])]) Q := by
  have loop : ∀ (m n : Nat) (u : xU), m + n = R → K_Moment_init sa d Q 1 [some (.ref q), some (.int (nI R)), some (.int (nI n))] [] (lM q M0 [.inr (4, [.ref (q + 1), .ref (q + 2), .ref (q + 3), .int 0, .int 0]), z0 R, .inl (0, R, .inl (nN n)), .inl (0, R, .inl (nN n))]) u := by
    intro m
    induction m with
    | zero =>
      intro n u hn
      refine t_Moment_init_1 ?_
      rw [if_pos (nI_le (by omega) (by omega))]
      rw [show n = R by omega]
      exact h
    | succ m ih =>
      intro n u hn
      refine t_Moment_init_1 ?_
      rw [if_neg (nI_ge (by omega) (by omega))]
      refine gR_l (k := 0) rfl rfl (sI_l (k := 2) rfl (vp_in_nI (by omega) (by omega)) (gR_l (k := 0) rfl rfl (sI_l (k := 3) rfl (vp_in_nI (by omega) (by omega)) ?_)))
      have := ih (n + 1) u (by omega)
      rw [nI_cl (by omega), nN_s, nI_s]
      exact this
  refine t_Moment_init ?_
  have l0 := loop R 0
  rw [nN_0] at l0
  simp only [nnR h9]
  refine ⟨nI_pos (by omega), by omega, al_l ht (by omega) (by omega) (pf_l (k := 0) rfl ?_)⟩
  simp only [List.cons_append, List.nil_append, List.append_nil, List.append_assoc, List.set_cons_zero, List.set_cons_succ, List.length_cons, List.length_nil, Nat.reduceAdd, Nat.reduceSub, Nat.add_zero]
  refine ⟨nI_pos (by omega), by omega, al_l ht (by omega) (by omega) (pf_l (k := 0) rfl ?_)⟩
  simp only [List.cons_append, List.nil_append, List.append_nil, List.append_assoc, List.set_cons_zero, List.set_cons_succ, List.length_cons, List.length_nil, Nat.reduceAdd, Nat.reduceSub, Nat.add_zero]
  refine ⟨nI_pos (by omega), by omega, al_l ht (by omega) (by omega) (pf_l (k := 0) rfl ?_)⟩
  simp only [List.cons_append, List.nil_append, List.append_nil, List.append_assoc, List.set_cons_zero, List.set_cons_succ, List.length_cons, List.length_nil, Nat.reduceAdd, Nat.reduceSub, Nat.add_zero]
  exact l0 _ (by omega)
def zZ (n : Nat) : xE := .inl (1, n, .inl (fun _ => 0))
def lEl (q R : Nat) : List xE := [.inr (0, [.ref (q + 1), .ref (q + 2), .ref (q + 3), .ref (q + 4), .ref (q + 5), .ref (q + 6), .ref (q + 7), .int (-1)]), z0 R, z0 R, .inl (0, R, .inl (nN R)), .inl (0, R, .inl (nN R)), zZ R, zZ R, zZ 100]
theorem c_El_init (ht : xtop M0 q) (h9 : R ≤ 9) (h : Q none (lM q M0 (lEl q R))) : xEv xP (xprim sa) (d + 1) m_Elders_init [.ref q, .int (nI R)] (lM q M0 [.inr (0, [.null, .null, .null, .null, .null, .null, .null, .int 0])]) Q := by
  have loop : ∀ (m n : Nat) (u : xU), m + n = R → K_Elders_init sa d Q 1 [some (.ref q), some (.int (nI R)), some (.int (nI n))] [] (lM q M0 [.inr (0, [.ref (q + 1), .ref (q + 2), .ref (q + 3), .ref (q + 4), .ref (q + 5), .ref (q + 6), .ref (q + 7), .int (-1)]), z0 R, z0 R, .inl (0, R, .inl (nN n)), .inl (0, R, .inl (nN n)), zZ R, zZ R, zZ 100]) u := by
    intro m
    induction m with
    | zero =>
      intro n u hn
      refine t_Elders_init_1 ?_
      rw [if_pos (nI_le (by omega) (by omega))]
      rw [show n = R by omega]
      exact h
    | succ m ih =>
      intro n u hn
      refine t_Elders_init_1 ?_
      rw [if_neg (nI_ge (by omega) (by omega))]
      refine gR_l (k := 0) rfl rfl (sI_l (k := 3) rfl (vp_in_nI (by omega) (by omega)) (gR_l (k := 0) rfl rfl (sI_l (k := 4) rfl (vp_in_nI (by omega) (by omega)) ?_)))
      have := ih (n + 1) u (by omega)
      rw [nI_cl (by omega), nN_s, nI_s]
      exact this
  refine t_Elders_init ?_
  have l0 := loop R 0
  rw [nN_0] at l0
  simp only [nnR h9, show (nI 100).toNatClampNeg = 100 from rfl]
  refine ⟨nI_pos (by omega), by omega, al_l ht (by omega) (by omega) (pf_l (k := 0) rfl ?_)⟩
  simp only [List.cons_append, List.nil_append, List.append_nil, List.append_assoc, List.set_cons_zero, List.set_cons_succ, List.length_cons, List.length_nil, Nat.reduceAdd, Nat.reduceSub, Nat.add_zero]
  refine ⟨nI_pos (by omega), by omega, al_l ht (by omega) (by omega) (pf_l (k := 0) rfl ?_)⟩
  simp only [List.cons_append, List.nil_append, List.append_nil, List.append_assoc, List.set_cons_zero, List.set_cons_succ, List.length_cons, List.length_nil, Nat.reduceAdd, Nat.reduceSub, Nat.add_zero]
  refine ⟨nI_pos (by omega), by omega, al_l ht (by omega) (by omega) (pf_l (k := 0) rfl ?_)⟩
  simp only [List.cons_append, List.nil_append, List.append_nil, List.append_assoc, List.set_cons_zero, List.set_cons_succ, List.length_cons, List.length_nil, Nat.reduceAdd, Nat.reduceSub, Nat.add_zero]
  refine ⟨nI_pos (by omega), by omega, al_l ht (by omega) (by omega) (pf_l (k := 0) rfl ?_)⟩
  simp only [List.cons_append, List.nil_append, List.append_nil, List.append_assoc, List.set_cons_zero, List.set_cons_succ, List.length_cons, List.length_nil, Nat.reduceAdd, Nat.reduceSub, Nat.add_zero]
  refine ⟨nI_pos (by omega), by omega, al_l ht (by omega) (by omega) (pf_l (k := 0) rfl ?_)⟩
  simp only [List.cons_append, List.nil_append, List.append_nil, List.append_assoc, List.set_cons_zero, List.set_cons_succ, List.length_cons, List.length_nil, Nat.reduceAdd, Nat.reduceSub, Nat.add_zero]
  refine ⟨nI_pos (by omega), by omega, al_l ht (by omega) (by omega) (pf_l (k := 0) rfl ?_)⟩
  simp only [List.cons_append, List.nil_append, List.append_nil, List.append_assoc, List.set_cons_zero, List.set_cons_succ, List.length_cons, List.length_nil, Nat.reduceAdd, Nat.reduceSub, Nat.add_zero]
  refine ⟨nI_pos (by omega), by omega, al_l ht (by omega) (by omega) (pf_l (k := 0) rfl (pf_l (k := 0) rfl ?_))⟩
  simp only [List.cons_append, List.nil_append, List.append_nil, List.append_assoc, List.set_cons_zero, List.set_cons_succ, List.length_cons, List.length_nil, Nat.reduceAdd, Nat.reduceSub, Nat.add_zero]
  exact l0 _ (by omega)
def lHe (q : Nat) : List xE := [.inr (3, [.ref (q + 1), .ref (q + 2), .int 0, .int 0]), z0 8, z0 8]
theorem c_He_init (ht : xtop M0 q) (h : Q none (lM q M0 (lHe q))) : xEv xP (xprim sa) (d + 1) m_Heard_init [.ref q] (lM q M0 [.inr (3, [.null, .null, .int 0, .int 0])]) Q := by
  refine t_Heard_init ?_
  simp only [show (nI 8).toNatClampNeg = 8 from rfl]
  refine ⟨nI_pos (by omega), by omega, al_l ht (by omega) (by omega) (pf_l (k := 0) rfl ?_)⟩
  simp only [List.cons_append, List.nil_append, List.append_nil, List.append_assoc, List.set_cons_zero, List.set_cons_succ, List.length_cons, List.length_nil, Nat.reduceAdd, Nat.reduceSub, Nat.add_zero]
  refine ⟨nI_pos (by omega), by omega, al_l ht (by omega) (by omega) (pf_l (k := 0) rfl ?_)⟩
  simp only [List.cons_append, List.nil_append, List.append_nil, List.append_assoc, List.set_cons_zero, List.set_cons_succ, List.length_cons, List.length_nil, Nat.reduceAdd, Nat.reduceSub, Nat.add_zero]
  exact h
def lTe (q : Nat) : List xE := [.inr (8, [.ref (q + 1), .ref (q + 2), .ref (q + 3), .ref (q + 4), .ref (q + 5), .ref (q + 6), .ref (q + 7), .int 0, .int 0]), z0 300, z0 300, z0 300, z0 300, z0 12, z0 12, z0 12]
theorem c_Te_init (ht : xtop M0 q) (h : Q none (lM q M0 (lTe q))) : xEv xP (xprim sa) (d + 1) m_Text_init [.ref q] (lM q M0 [.inr (8, [.null, .null, .null, .null, .null, .null, .null, .int 0, .int 0])]) Q := by
  refine t_Text_init ?_
  simp only [show (nI 300).toNatClampNeg = 300 from rfl, show (nI 12).toNatClampNeg = 12 from rfl]
  refine ⟨nI_pos (by omega), by omega, al_l ht (by omega) (by omega) (pf_l (k := 0) rfl ?_)⟩
  simp only [List.cons_append, List.nil_append, List.append_nil, List.append_assoc, List.set_cons_zero, List.set_cons_succ, List.length_cons, List.length_nil, Nat.reduceAdd, Nat.reduceSub, Nat.add_zero]
  refine ⟨nI_pos (by omega), by omega, al_l ht (by omega) (by omega) (pf_l (k := 0) rfl ?_)⟩
  simp only [List.cons_append, List.nil_append, List.append_nil, List.append_assoc, List.set_cons_zero, List.set_cons_succ, List.length_cons, List.length_nil, Nat.reduceAdd, Nat.reduceSub, Nat.add_zero]
  refine ⟨nI_pos (by omega), by omega, al_l ht (by omega) (by omega) (pf_l (k := 0) rfl ?_)⟩
  simp only [List.cons_append, List.nil_append, List.append_nil, List.append_assoc, List.set_cons_zero, List.set_cons_succ, List.length_cons, List.length_nil, Nat.reduceAdd, Nat.reduceSub, Nat.add_zero]
  refine ⟨nI_pos (by omega), by omega, al_l ht (by omega) (by omega) (pf_l (k := 0) rfl ?_)⟩
  simp only [List.cons_append, List.nil_append, List.append_nil, List.append_assoc, List.set_cons_zero, List.set_cons_succ, List.length_cons, List.length_nil, Nat.reduceAdd, Nat.reduceSub, Nat.add_zero]
  refine ⟨nI_pos (by omega), by omega, al_l ht (by omega) (by omega) (pf_l (k := 0) rfl ?_)⟩
  simp only [List.cons_append, List.nil_append, List.append_nil, List.append_assoc, List.set_cons_zero, List.set_cons_succ, List.length_cons, List.length_nil, Nat.reduceAdd, Nat.reduceSub, Nat.add_zero]
  refine ⟨nI_pos (by omega), by omega, al_l ht (by omega) (by omega) (pf_l (k := 0) rfl ?_)⟩
  simp only [List.cons_append, List.nil_append, List.append_nil, List.append_assoc, List.set_cons_zero, List.set_cons_succ, List.length_cons, List.length_nil, Nat.reduceAdd, Nat.reduceSub, Nat.add_zero]
  refine ⟨nI_pos (by omega), by omega, al_l ht (by omega) (by omega) (pf_l (k := 0) rfl ?_)⟩
  simp only [List.cons_append, List.nil_append, List.append_nil, List.append_assoc, List.set_cons_zero, List.set_cons_succ, List.length_cons, List.length_nil, Nat.reduceAdd, Nat.reduceSub, Nat.add_zero]
  exact h
def lTa (q : Nat) : List xE := [.inr (7, [.ref (q + 1), .int 0, .int 0, .int 0, .null, .int 0, .int 0, .int 0, .int 0]), z0 300]
theorem c_Ta_init (ht : xtop M0 q) (h : Q none (lM q M0 (lTa q))) : xEv xP (xprim sa) (d + 1) m_Tape_init [.ref q] (lM q M0 [.inr (7, [.null, .int 0, .int 0, .int 0, .null, .int 0, .int 0, .int 0, .int 0])]) Q := by
  refine t_Tape_init ?_
  simp only [show (nI 300).toNatClampNeg = 300 from rfl]
  refine ⟨nI_pos (by omega), by omega, al_l ht (by omega) (by omega) (pf_l (k := 0) rfl ?_)⟩
  simp only [List.cons_append, List.nil_append, List.append_nil, List.append_assoc, List.set_cons_zero, List.set_cons_succ, List.length_cons, List.length_nil, Nat.reduceAdd, Nat.reduceSub, Nat.add_zero]
  exact h
def lHa (q R t : Nat) : List xE := [.inr (2, [.int (nI R), .ref (q + 2), .ref (q + 3), .ref (q + 4), .ref (q + 5), .ref t, .ref (q + 1)]), z0 300, z0 R, z0 R, z0 R, zZ R]
theorem c_Ha_init (ht : xtop M0 q) (h9 : R ≤ 9) {t : Nat} (h : Q none (lM q M0 (lHa q R t))) : xEv xP (xprim sa) (d + 1) m_Hall_init [.ref q, .int (nI R), .ref t] (lM q M0 [.inr (2, [.int 0, .null, .null, .null, .null, .null, .null])]) Q := by
  refine t_Hall_init ?_
  simp only [show (nI 300).toNatClampNeg = 300 from rfl, nnR h9]
  refine ⟨nI_pos (by omega), by omega, al_l ht (by omega) (by omega) (pf_l (k := 0) rfl (pf_l (k := 0) rfl (pf_l (k := 0) rfl ?_)))⟩
  simp only [List.cons_append, List.nil_append, List.append_nil, List.append_assoc, List.set_cons_zero, List.set_cons_succ, List.length_cons, List.length_nil, Nat.reduceAdd, Nat.reduceSub, Nat.add_zero]
  refine ⟨nI_pos (by omega), by omega, al_l ht (by omega) (by omega) (pf_l (k := 0) rfl ?_)⟩
  simp only [List.cons_append, List.nil_append, List.append_nil, List.append_assoc, List.set_cons_zero, List.set_cons_succ, List.length_cons, List.length_nil, Nat.reduceAdd, Nat.reduceSub, Nat.add_zero]
  refine ⟨nI_pos (by omega), by omega, al_l ht (by omega) (by omega) (pf_l (k := 0) rfl ?_)⟩
  simp only [List.cons_append, List.nil_append, List.append_nil, List.append_assoc, List.set_cons_zero, List.set_cons_succ, List.length_cons, List.length_nil, Nat.reduceAdd, Nat.reduceSub, Nat.add_zero]
  refine ⟨nI_pos (by omega), by omega, al_l ht (by omega) (by omega) (pf_l (k := 0) rfl ?_)⟩
  simp only [List.cons_append, List.nil_append, List.append_nil, List.append_assoc, List.set_cons_zero, List.set_cons_succ, List.length_cons, List.length_nil, Nat.reduceAdd, Nat.reduceSub, Nat.add_zero]
  refine ⟨nI_pos (by omega), by omega, al_l ht (by omega) (by omega) (pf_l (k := 0) rfl ?_)⟩
  simp only [List.cons_append, List.nil_append, List.append_nil, List.append_assoc, List.set_cons_zero, List.set_cons_succ, List.length_cons, List.length_nil, Nat.reduceAdd, Nat.reduceSub, Nat.add_zero]
  exact h
def lFo (q R : Nat) : List xE := [.inr (1, [.int (nI (R + 1)), .ref (q + 3), .ref (q + 4), .ref (q + 1), .ref (q + 2), .int 0]), z0 4096, z0 2000, z0 (2000 * (R + 1)), z0 (R + 1)]
theorem c_Fo_init (ht : xtop M0 q) (h9 : R ≤ 9) (h : Q none (lM q M0 (lFo q R))) : xEv xP (xprim sa) (d + 1) m_Found_init [.ref q, .int (nI R)] (lM q M0 [.inr (1, [.int 0, .null, .null, .null, .null, .int 0])]) Q := by
  refine t_Found_init ?_
  simp only [show (nI 4096).toNatClampNeg = 4096 from rfl, show (nI 2000).toNatClampNeg = 2000 from rfl, nI_add]
  refine ⟨nI_pos (by omega), by omega, al_l ht (by omega) (by omega) (pf_l (k := 0) rfl ?_)⟩
  simp only [List.cons_append, List.nil_append, List.append_nil, List.append_assoc, List.set_cons_zero, List.set_cons_succ, List.length_cons, List.length_nil, Nat.reduceAdd, Nat.reduceSub, Nat.add_zero]
  refine ⟨nI_pos (by omega), by omega, al_l ht (by omega) (by omega) (pf_l (k := 0) rfl (pf_l (k := 0) rfl ?_))⟩
  simp only [List.cons_append, List.nil_append, List.append_nil, List.append_assoc, List.set_cons_zero, List.set_cons_succ, List.length_cons, List.length_nil, Nat.reduceAdd, Nat.reduceSub, Nat.add_zero]
  refine gI_l (k := 0) rfl rfl ?_
  have em : nI 2000 * nI (R + 1) = nI (2000 * (R + 1)) := pk_mul _ _
  rw [em, nI_cl (by omega)]
  refine ⟨nI_pos (by omega), by omega, al_l ht (by omega) (by omega) (pf_l (k := 0) rfl ?_)⟩
  simp only [List.cons_append, List.nil_append, List.append_nil, List.append_assoc, List.set_cons_zero, List.set_cons_succ, List.length_cons, List.length_nil, Nat.reduceAdd, Nat.reduceSub, Nat.add_zero]
  refine gI_l (k := 0) rfl rfl ?_
  rw [nI_cl (by omega)]
  refine ⟨nI_pos (by omega), by omega, al_l ht (by omega) (by omega) (pf_l (k := 0) rfl ?_)⟩
  simp only [List.cons_append, List.nil_append, List.append_nil, List.append_assoc, List.set_cons_zero, List.set_cons_succ, List.length_cons, List.length_nil, Nat.reduceAdd, Nat.reduceSub, Nat.add_zero]
  exact h
end CI
