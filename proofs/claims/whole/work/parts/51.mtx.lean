/-! the reference's side of text -/
def cdL (l : List (Nat × Term)) : cD := l.flatMap (fun p => pf p.2)
theorem cdL_a {l : List (Nat × Term)} {p : Nat × Term} : cdL (l ++ [p]) = cdL l ++ pf p.2 := by
  unfold cdL
  rw [List.flatMap_append]
  simp
def hdR (T : Nat → Int32) (b : Nat) : Nat → Nat → List (Nat × Term) → Prop
  | _, _, [] => True
  | k, i, p :: l => (T (b + 1 + 3 * k) = nI p.1 ∧ T (b + 1 + 3 * k + 1) = nI i ∧ T (b + 1 + 3 * k + 2) = nI (i + (pf p.2).length)) ∧ hdR T b (k + 1) (i + (pf p.2).length) l
theorem hdR_c {T T' : Nat → Int32} {b : Nat} : ∀ (l : List (Nat × Term)) (k i : Nat), (∀ j, b < j → j < b + 1 + 3 * (k + l.length) → T' j = T j) → hdR T b k i l → hdR T' b k i l
  | [], _, _, _, h => h
  | p :: l, k, i, hc, h => by
    rw [List.length_cons] at hc
    refine ⟨⟨?_, ?_, ?_⟩, hdR_c l (k + 1) _ (fun j h1 h2 => hc j h1 (by omega)) h.2⟩
    · rw [hc _ (by omega) (by omega)]; exact h.1.1
    · rw [hc _ (by omega) (by omega)]; exact h.1.2.1
    · rw [hc _ (by omega) (by omega)]; exact h.1.2.2
theorem hdR_a {T : Nat → Int32} {b : Nat} {p : Nat × Term} : ∀ (l : List (Nat × Term)) (k i : Nat), hdR T b k i l → (T (b + 1 + 3 * (k + l.length)) = nI p.1 ∧ T (b + 1 + 3 * (k + l.length) + 1) = nI (i + (cdL l).length) ∧ T (b + 1 + 3 * (k + l.length) + 2) = nI (i + (cdL l).length + (pf p.2).length)) → hdR T b k i (l ++ [p])
  | [], k, i, _, h => ⟨by simpa [cdL] using h, trivial⟩
  | a :: l, k, i, h, hp => by
    refine ⟨h.1, hdR_a l (k + 1) _ h.2 ?_⟩
    rw [List.length_cons] at hp
    rw [show k + 1 + l.length = k + (l.length + 1) by omega]
    have e : (cdL (a :: l)).length = (pf a.2).length + (cdL l).length := by
      show ((a :: l).flatMap _).length = _
      rw [List.flatMap_cons, List.length_append]
      rfl
    rw [e] at hp
    rw [show i + (pf a.2).length + (cdL l).length = i + ((pf a.2).length + (cdL l).length) by omega]
    exact hp
theorem enc_of {T : Nat → Int32} {b : Nat} : ∀ (l : List (Nat × Term)) (k i : Nat), hdR T b k i l → cAt T (b + 40) i (cdL l) → (∀ p, p ∈ l → wf p.2 (p.1 == 4) ∧ p.1 ≤ 4) → i + (cdL l).length ≤ 302 → encC T b k i l
  | [], _, _, _, _, _, _ => trivial
  | p :: l, k, i, h, hc, hw, hl => by
    have e : cdL (p :: l) = pf p.2 ++ cdL l := List.flatMap_cons
    rw [e] at hc hl
    rw [List.length_append] at hl
    refine ⟨⟨h.1.1, h.1.2.1, h.1.2.2, cAt_l hc, by omega, hw p List.mem_cons_self⟩, enc_of l (k + 1) _ h.2 (cAt_r hc) (fun q hq => hw q (List.mem_cons_of_mem _ hq)) (by omega)⟩
theorem on_t : ∀ (m : Fin 16) (s : Fin 4), ((nI m.val >>> (nI s.val &&& 31)) &&& nI 1 = nI 1) ↔ m.val.testBit s.val = true := by decide
theorem on_s : ∀ (m : Fin 16) (s : Fin 4), nI m.val ||| (nI 1 <<< (nI s.val &&& 31)) = nI (m.val ||| 2 ^ s.val) ∧ (m.val ||| 2 ^ s.val) < 16 := by decide
theorem on_u : ∀ (m : Fin 16) (s s' : Fin 4), (m.val ||| 2 ^ s.val).testBit s'.val = (m.val.testBit s'.val || decide (s = s')) := by decide
theorem fndL_a {s : Nat} {p : Nat × Term} : ∀ l : List (Nat × Term), hasK s (l ++ [p]) = (hasK s l || decide (p.1 = s))
  | [] => by
    show (match fndL s [p] with | none => false | some _ => true) = (false || decide (p.1 = s))
    unfold fndL
    by_cases e : p.1 = s
    · rw [if_pos e, decide_eq_true e]; rfl
    · rw [if_neg e, decide_eq_false e]; rfl
  | a :: l => by
    have ih := fndL_a (s := s) (p := p) l
    unfold hasK at *
    rw [List.cons_append]
    by_cases e : a.1 = s
    · rw [show fndL s (a :: (l ++ [p])) = some a.2 from if_pos e, show fndL s (a :: l) = some a.2 from if_pos e]; rfl
    · rw [show fndL s (a :: (l ++ [p])) = fndL s (l ++ [p]) from if_neg e, show fndL s (a :: l) = fndL s l from if_neg e]; exact ih
theorem txV_a {l : List (Nat × Term)} {p : Nat × Term} (h : txV l) (hp : p.1 < 4 → hasK p.1 l = false) : txV (l ++ [p]) := by
  have hk : ∀ (l : List (Nat × Term)) (i : Nat) (a : Nat × Term), l[i]? = some a → hasK a.1 l = true := by
    intro l
    induction l with
    | nil => intro i a ha; rw [List.getElem?_nil] at ha; exact nomatch ha
    | cons c l ih =>
      intro i a ha
      unfold hasK fndL
      by_cases e : c.1 = a.1
      · rw [if_pos e]
      · rw [if_neg e]
        cases i with
        | zero => have ha : c = a := Option.some.inj ha; rw [ha] at e; exact absurd rfl e
        | succ i => exact ih i a ha
  intro i j x y hx hy hxy h4
  rcases gt_app hx with hx | ⟨e1, e2⟩
  · rcases gt_app hy with hy | ⟨e3, e4⟩
    · exact h i j x y hx hy hxy h4
    · rw [e4] at hxy
      have := hk l i x hx
      rw [hxy] at this h4
      rw [hp h4] at this
      exact nomatch this
  · rcases gt_app hy with hy | ⟨e3, e4⟩
    · rw [e2] at hxy h4
      have := hk l j y hy
      rw [← hxy] at this
      rw [hp h4] at this
      exact nomatch this
    · omega
section MTX
variable {sa : Nat → Nat} {d : Nat} {Q : xQ} {q : Nat} {M0 M : xM} {σ0 σ : mS} {b : Nat → Nat} {n t0 : Nat} {cd : cD} {i : Nat} {e : Bool}
theorem c_M_parsed (h300 : n ≤ 300) (hp : tpR σ b n) (ho : outR σ t0 cd) (h19 : σ.1 19 = nI 0) (ht : tkA σ b n i) (hi : i ≤ tkP b n i) (hcd : cd.length ≤ i)
    (hr : match ps (tkT b n) (tkV b n) 3100 (if e then 0 else 5) 0 i (.int 0) with
      | .inl (k, j) => ∀ σ', erM σ σ' b n t0 j → Q (some (.int (nI k))) (mM q M0 σ')
      | .inr (t, j) => ∀ σ', frP t0 σ σ' → outR σ' t0 (cd ++ pf t) → σ'.1 19 = nI 0 → tkA σ' b n j → Q (some (.int (nI 0))) (mM q M0 σ')) : xEv xP (xprim sa) (d + 6) m_M_parsed [.ref q, .int (if e then 1 else 0)] (mM q M0 σ) Q := by
  have hin := tk_n hi
  refine t_M_parsed ?_
  rw [mp_18]
  refine ⟨Or.inl rfl, ?_⟩
  rw [mp_20]
  have hs : stM σ (mF (mF σ 18 (nI 0)) 20 (nI 0)) b n t0 [] cd 0 i 0 := ⟨frP_t (frP_F (by decide)) (frP_F (by decide)), hp, ⟨rfl, Nat.zero_le _, fun j p hj => by rw [List.getElem?_nil] at hj; exact nomatch hj⟩, ho, h19, ht, rfl⟩
  show K1 sa d Q q M0 e _
  -- the end
  have fin : ∀ (m : Nat) (t : Term) (j : Nat), (m = 0 ∧ e = true) ∨ (m = 5 ∧ e = false) → 10 * (n + 1 - i) + (9 - m) < 3100 → ps (tkT b n) (tkV b n) 3100 m 0 i (.int 0) = .inr (t, j) → (∀ σ', frP t0 σ σ' → outR σ' t0 (cd ++ pf t) → σ'.1 19 = nI 0 → tkA σ' b n j → Q (some (.int (nI 0))) (mM q M0 σ')) → mpX sa d Q q M0 e σ b n t0 (rhoM m) (decide (m < 5)) 0 [] cd (.inr (t, j)) := by
    intro m t j hm hf hps hr σ' S cd' hd hcp hoc hs'
    have st := ps_st (by omega) (by rcases hm with ⟨g, _⟩ | ⟨g, _⟩ <;> rw [g] <;> rfl) hi hf hps
    have pp := ps_post 3100 m 0 i (.int 0) t j (by omega) (fun g => by rcases hm with ⟨g', _⟩ | ⟨g', _⟩ <;> rw [g'] at g <;> exact nomatch g) hps
    have hd1 : ∀ p, p ∈ S → 1 ≤ rkN p := fun p hp => Nat.le_trans (by rcases hm with ⟨g, _⟩ | ⟨g, _⟩ <;> rw [g] <;> decide) (hd.1 p hp)
    have hS40 : ∀ p, p ∈ S → p < 40 := fun p hp => rkN_40 (hd1 p hp)
    have hl := hd_len hd
    have hjn := tk_n st.2.1
    have hmk : mkP (S ++ []) = -1 := mkP_a S hS40
    have hko : koN e (S ++ []) = (if e then 41 else 40) := koN_a S hS40
    have hkd : ∀ c, c < 64 → ¬ kdI (S ++ []) = nI c := by
      intro c hc g
      unfold kdI at g
      rw [if_pos hmk] at g
      exact nI_m1 (by omega) g.symm
    have hcpS : e = true → cpB (S ++ []) = true := by
      intro he
      refine cpB_t S (hcp ?_)
      rcases hm with ⟨g, _⟩ | ⟨_, g⟩
      · rw [g]; rfl
      · rw [he] at g; exact nomatch g
    refine k_beh hs' (c_M_behind_no hs' ?_ (fun _ => hkd 40 (by omega)) (fun _ => hkd 43 (by omega)) (fun _ g => hkd 41 (by omega) g.1) (fun _ => hkd 42 (by omega)) ?_)
    · rw [bet_4 (pp.2.1 (by omega)) (pp.1 (by omega)), hko]
      rcases hm with ⟨g1, g2⟩ | ⟨g1, g2⟩
      · subst g1 g2
        rw [if_pos rfl, if_pos rfl, if_pos (hcpS rfl), if_neg (pp.2.2.1 (by omega)), if_neg (pp.2.2.2 (by omega))]
      · subst g1 g2
        rw [if_neg (by decide)]
    · rw [xrI_mk]
      refine t_M_parsed_1 ?_
      rw [if_pos (by decide)]
      refine ⟨mo_q, c_M_marker hs'.2.2.1 ?_⟩
      rw [xrI_mk, hmk, if_neg (by decide)]
      have stl : xobj (mM q M0 σ') q 12 ∧ xEv xP (xprim sa) (d + 5) m_M_settle [.ref q, .int (nI 1)] (mM q M0 σ') (xrV fun M2 => Q (some (.int (nI 0))) M2) := by
        refine ⟨mo_q, st_settle (r := 1) (by omega) hs' (by omega) (by omega) hd1 trivial (fun τ hτ => ?_)⟩
        rw [xrV_mk]
        have hτ4 := hτ.2.2.2.1
        rw [hd.2] at hτ4
        exact hr τ hτ.1 hτ4 hτ.2.2.2.2.1 hτ.2.2.2.2.2.1
      cases e with
      | false =>
        rw [if_pos (by decide)]
        exact stl
      | true =>
        rw [if_neg (by decide)]
        refine ⟨mo_q, c_M_isCompared hs'.2.2.1 ?_⟩
        rw [xrI_mk, hcpS rfl, if_pos rfl, if_pos (by decide)]
        exact stl
  cases e with
  | true =>
    refine (mp_all (e := true) h300 3100).1 0 0 i (.int 0) [] cd _ (Or.inl rfl) (fun _ => rfl) (fun g => by omega) trivial (by omega) (by show 0 ≤ _; omega) hi hcd (by omega) hs ?_
    rw [if_pos rfl] at hr
    match hps : ps (tkT b n) (tkV b n) 3100 0 0 i (.int 0) with
    | .inl (k, j) => rw [hps] at hr; exact hr
    | .inr (t, j) => rw [hps] at hr; exact fin 0 t j (Or.inl ⟨rfl, rfl⟩) (by omega) hps hr
  | false =>
    refine (mp_all (e := false) h300 3100).1 5 0 i (.int 0) [] cd _ (by omega) (fun g => by omega) (fun _ g => absurd g (by decide)) trivial (by omega) (by show 0 ≤ _; omega) hi hcd (by omega) hs ?_
    rw [if_neg (by decide)] at hr
    match hps : ps (tkT b n) (tkV b n) 3100 5 0 i (.int 0) with
    | .inl (k, j) => rw [hps] at hr; exact hr
    | .inr (t, j) => rw [hps] at hr; exact fin 5 t j (Or.inr ⟨rfl, rfl⟩) (by omega) hps hr
/-- what the reading of a text leaves as it was -/
def frT (t0 : Nat) (σ σ' : mS) : Prop := (∀ j, j ∉ [8, 9, 10, 11, 13, 15, 18, 19, 20, 21] → σ'.1 j = σ.1 j) ∧ (∀ k, k ≠ 3 → k ≠ 5 → σ'.2.2.1 k = σ.2.2.1 k) ∧ ∀ j, j < t0 ∨ t0 + 645 ≤ j → σ'.2.2.1 3 j = σ.2.2.1 3 j
theorem frT_t {t0 : Nat} {σ σ' σ'' : mS} (h : frT t0 σ σ') (h' : frT t0 σ' σ'') : frT t0 σ σ'' := ⟨fun j hj => (h'.1 j hj).trans (h.1 j hj), fun k h3 h5 => (h'.2.1 k h3 h5).trans (h.2.1 k h3 h5), fun j hj => (h'.2.2 j hj).trans (h.2.2 j hj)⟩
theorem frT_P {t0 : Nat} {σ σ' : mS} (h : frP t0 σ σ') : frT t0 σ σ' := ⟨fun j hj => h.1 j (fun a => hj (by simp only [List.mem_cons, List.not_mem_nil, or_false] at a ⊢; omega)), h.2.1, fun j hj => h.2.2 j (by omega)⟩
theorem frT_F {t0 : Nat} {σ : mS} {j : Nat} {v : Int32} (h : j ∈ [8, 9, 10, 11, 13, 15, 18, 19, 20, 21]) : frT t0 σ (mF σ j v) := ⟨(smF_F (v := v) h).1, fun _ _ _ => rfl, fun _ _ => rfl⟩
theorem frT_3 {t0 : Nat} {σ : mS} {k : Nat} {v : Int32} (h : t0 ≤ k) (h' : k < t0 + 645) : frT t0 σ (mA σ 3 (upd (σ.2.2.1 3) k v)) := ⟨fun _ _ => rfl, fun j h3 _ => if_neg h3, fun j hj => by
  show upd (σ.2.2.1 3) k v j = _
  exact upd_n (by omega)⟩
theorem tpR_T {t0 : Nat} {σ σ' : mS} {b : Nat → Nat} {n : Nat} (h : frT t0 σ σ') (ht : tpR σ b n) : tpR σ' b n := by
  unfold tpR
  rw [h.1 5 (by decide), h.2.1 4 (by decide) (by decide)]
  exact ht
/-- between two clauses -/
def clR (σ0 σ : mS) (b : Nat → Nat) (n t0 : Nat) (l : List (Nat × Term)) (i : Nat) : Prop := frT t0 σ0 σ ∧ tpR σ b n ∧ outR σ t0 (cdL l) ∧ σ.1 19 = nI 0 ∧ tkA σ b n i ∧ (∃ m : Fin 16, σ.1 21 = nI m.val ∧ ∀ s : Fin 4, m.val.testBit s.val = hasK s.val l) ∧ σ.2.2.1 3 t0 = nI l.length ∧ hdR (σ.2.2.1 3) t0 0 0 l ∧ l.length ≤ 12 ∧ (∀ p, p ∈ l → wf p.2 (p.1 == 4) ∧ p.1 ≤ 4) ∧ (cdL l).length ≤ i ∧ i ≤ tkP b n i ∧ txV l
set_option maxRecDepth 100000 in
theorem c_M_clause (h300 : n ≤ 300) {l : List (Nat × Term)} (h : clR σ0 σ b n t0 l i) (h0 : tkT b n i ≠ 0)
    (hE : ∀ k j σ', frT t0 σ0 σ' → σ'.1 9 = nI (tkP b n j) → (k = 1 ∧ j = i ∧ ¬ (400 ≤ tkT b n i ∧ tkT b n i ≤ 404)) ∨ ((400 ≤ tkT b n i ∧ tkT b n i ≤ 404) ∧ ((k = 4 ∧ j = i ∧ tkT b n i ≠ 404 ∧ hasK (tkT b n i - 400) l = true) ∨ (¬ (tkT b n i ≠ 404 ∧ hasK (tkT b n i - 400) l = true) ∧ ((k = 5 ∧ j = i ∧ l.length = 12) ∨ (¬ l.length = 12 ∧ (ps (tkT b n) (tkV b n) 3100 (if tkT b n i = 404 then 0 else 5) 0 (i + 1) (.int 0) = .inl (k, j) ∨ (k = 1 ∧ ∃ t, ps (tkT b n) (tkV b n) 3100 (if tkT b n i = 404 then 0 else 5) 0 (i + 1) (.int 0) = .inr (t, j) ∧ tkT b n j ≠ 59))))))) → Q (some (.int (nI k))) (mM q M0 σ'))
    (hO : ∀ t j σ', (400 ≤ tkT b n i ∧ tkT b n i ≤ 404) → ¬ (tkT b n i ≠ 404 ∧ hasK (tkT b n i - 400) l = true) → ¬ l.length = 12 → ps (tkT b n) (tkV b n) 3100 (if tkT b n i = 404 then 0 else 5) 0 (i + 1) (.int 0) = .inr (t, j) → tkT b n j = 59 → clR σ0 σ' b n t0 (l ++ [(tkT b n i - 400, t)]) (j + 1) → Q (some (.int (nI 0))) (mM q M0 σ')) : xEv xP (xprim sa) (d + 7) m_M_clause [.ref q] (mM q M0 σ) Q := by
  obtain ⟨c1, c2, c3, c4, c5, ⟨mk, c6, c6'⟩, c7, c8, c9, c10, c11, c12, c13⟩ := h
  have c5' : tkM σ b n (tkP b n i) (tkT b n i) (tkE b n i) (tkV b n i) := c5
  have h2580 := c3.2.2.2
  have h13 := c3.1
  have h15 := c3.2.1
  have hin := tk_n c12
  refine t_M_clause ⟨mo_q, c_M_sortOf c5' c2 ?_⟩
  rw [xrI_mk]
  have e9 : σ.1 9 = nI (tkP b n i) := c5.2.1
  by_cases es : 400 ≤ tkT b n i ∧ tkT b n i ≤ 404
  · rw [if_pos es, if_pos (nI_pos' (by omega))]
    generalize eT : tkT b n i = T at *
    -- parsed, and what follows
    have k12 : ∀ (τ : mS) (ev : Bool), (ev = true ↔ T = 404) → ¬ (T ≠ 404 ∧ hasK (T - 400) l = true) → ¬ l.length = 12 → frT t0 σ0 τ → tpR τ b n → outR τ t0 (cdL l) → τ.1 19 = nI 0 → tkA τ b n (i + 1) → (∃ m : Fin 16, τ.1 21 = nI m.val ∧ ∀ s : Fin 4, m.val.testBit s.val = (hasK s.val l || decide (T - 400 = s.val))) → τ.2.2.1 3 t0 = nI l.length → hdR (τ.2.2.1 3) t0 0 0 l → τ.2.2.1 3 (t0 + 1 + 3 * l.length) = nI (T - 400) → τ.2.2.1 3 (t0 + 1 + 3 * l.length + 1) = nI (cdL l).length → K_M_clause sa (d + 6) Q 12 [some (.ref q), none, none, some (.int (nI (t0 + 1 + 3 * l.length))), none] [.int (if ev then 1 else 0), .ref q] (mM q M0 τ) (0, 0) := by
      intro τ ev hev hnk hn12 f1 f2 f3 f4 f5 f6 f7 f8 f9 f10
      have hi1 : i + 1 ≤ tkP b n (i + 1) := tk_i c12 (by omega)
      refine t_M_clause_12 ⟨mo_q, c_M_parsed h300 f2 f3 f4 f5 hi1 (by omega) ?_⟩
      have em : (if ev = true then 0 else 5) = (if T = 404 then 0 else 5) := by
        by_cases g : T = 404
        · rw [if_pos g, if_pos (hev.mpr g)]
        · rw [if_neg g, if_neg (fun a => g (hev.mp a))]
      rw [em]
      match hps : ps (tkT b n) (tkV b n) 3100 (if T = 404 then 0 else 5) 0 (i + 1) (.int 0) with
      | .inl (k, j) =>
        intro σ' er
        have hg := ps_G (tk := tkT b n) (tv := tkV b n) hs_tk hn_tk 3100 (if T = 404 then 0 else 5) 0 (i + 1) (.int 0) (by split <;> omega) hi1 (by have := tk_n hi1; split <;> omega) (fun g => by split at g <;> exact nomatch g)
        rw [hps] at hg
        rw [xrI_mk, if_neg (nI_ne0 (by have := hg.1; omega) (by have := hg.1; omega))]
        exact hE k j σ' (frT_t f1 (frT_P er.1)) er.2 (Or.inr ⟨es, Or.inr ⟨hnk, Or.inr ⟨hn12, Or.inl hps⟩⟩⟩)
      | .inr (t, j) =>
        intro σ' g1 g2 g3 g4
        have hf : 10 * (n + 1 - (i + 1)) + (9 - (if T = 404 then 0 else 5)) < 3100 := by have := tk_n hi1; split <;> omega
        have st := ps_st (m := if T = 404 then 0 else 5) (by split <;> omega) (by split <;> rfl) hi1 hf hps
        have hjn := tk_n st.2.1
        rw [xrI_mk, if_pos (by decide)]
        have k13 : σ'.1 13 = nI t0 := g2.1
        have k15 := g2.2.1
        have ecd : cdL l ++ pf t = cdL (l ++ [(T - 400, t)]) := (cdL_a (p := (T - 400, t))).symm
        have ec0 : σ'.2.2.1 3 t0 = nI l.length := (g1.2.2 t0 (by omega)).trans f7
        rw [mg_3, mg_15, k15, ms_3, nI_add, nI_cl (by omega)]
        refine ⟨vp_in_nI (by omega) (by omega), ?_⟩
        rw [mg_3, mg_13, show (mA σ' 3 (upd (σ'.2.2.1 3) (t0 + 1 + 3 * l.length + 2) (nI (cdL l ++ pf t).length))).1 13 = nI t0 from k13, ma_3, nI_cl (by omega)]
        refine ⟨vp_in_nI (by omega) (by omega), ?_⟩
        rw [show (mA σ' 3 (upd (σ'.2.2.1 3) (t0 + 1 + 3 * l.length + 2) (nI (cdL l ++ pf t).length))).2.2.1 3 t0 = nI l.length from (upd_n (by omega)).trans ec0, ms_3, nI_add, nI_cl (by omega)]
        refine ⟨vp_in_nI (by omega) (by omega), ?_⟩
        rw [mg_10]
        have e3 : (mA (mA σ' 3 (upd (σ'.2.2.1 3) (t0 + 1 + 3 * l.length + 2) (nI (cdL l ++ pf t).length))) 3 (upd ((mA σ' 3 (upd (σ'.2.2.1 3) (t0 + 1 + 3 * l.length + 2) (nI (cdL l ++ pf t).length))).2.2.1 3) t0 (nI (l.length + 1)))).2.2.1 3 = upd (upd (σ'.2.2.1 3) (t0 + 1 + 3 * l.length + 2) (nI (cdL l ++ pf t).length)) t0 (nI (l.length + 1)) := rfl
        have fr1 : frT t0 σ' (mA (mA σ' 3 (upd (σ'.2.2.1 3) (t0 + 1 + 3 * l.length + 2) (nI (cdL l ++ pf t).length))) 3 (upd ((mA σ' 3 (upd (σ'.2.2.1 3) (t0 + 1 + 3 * l.length + 2) (nI (cdL l ++ pf t).length))).2.2.1 3) t0 (nI (l.length + 1)))) := frT_t (frT_3 (by omega) (by omega)) (frT_3 (by omega) (by omega))
        have tka : tkA (mA (mA σ' 3 (upd (σ'.2.2.1 3) (t0 + 1 + 3 * l.length + 2) (nI (cdL l ++ pf t).length))) 3 (upd ((mA σ' 3 (upd (σ'.2.2.1 3) (t0 + 1 + 3 * l.length + 2) (nI (cdL l ++ pf t).length))).2.2.1 3) t0 (nI (l.length + 1)))) b n j := g4
        have h21 : (mA (mA σ' 3 (upd (σ'.2.2.1 3) (t0 + 1 + 3 * l.length + 2) (nI (cdL l ++ pf t).length))) 3 (upd ((mA σ' 3 (upd (σ'.2.2.1 3) (t0 + 1 + 3 * l.length + 2) (nI (cdL l ++ pf t).length))).2.2.1 3) t0 (nI (l.length + 1)))).1 21 = τ.1 21 := g1.1 21 (by decide)
        have h19' : (mA (mA σ' 3 (upd (σ'.2.2.1 3) (t0 + 1 + 3 * l.length + 2) (nI (cdL l ++ pf t).length))) 3 (upd ((mA σ' 3 (upd (σ'.2.2.1 3) (t0 + 1 + 3 * l.length + 2) (nI (cdL l ++ pf t).length))).2.2.1 3) t0 (nI (l.length + 1)))).1 19 = nI 0 := g3
        have h13' : (mA (mA σ' 3 (upd (σ'.2.2.1 3) (t0 + 1 + 3 * l.length + 2) (nI (cdL l ++ pf t).length))) 3 (upd ((mA σ' 3 (upd (σ'.2.2.1 3) (t0 + 1 + 3 * l.length + 2) (nI (cdL l ++ pf t).length))).2.2.1 3) t0 (nI (l.length + 1)))).1 13 = nI t0 := k13
        have h15' : (mA (mA σ' 3 (upd (σ'.2.2.1 3) (t0 + 1 + 3 * l.length + 2) (nI (cdL l ++ pf t).length))) 3 (upd ((mA σ' 3 (upd (σ'.2.2.1 3) (t0 + 1 + 3 * l.length + 2) (nI (cdL l ++ pf t).length))).2.2.1 3) t0 (nI (l.length + 1)))).1 15 = nI (cdL l ++ pf t).length := k15
        generalize mA (mA σ' 3 (upd (σ'.2.2.1 3) (t0 + 1 + 3 * l.length + 2) (nI (cdL l ++ pf t).length))) 3 (upd ((mA σ' 3 (upd (σ'.2.2.1 3) (t0 + 1 + 3 * l.length + 2) (nI (cdL l ++ pf t).length))).2.2.1 3) t0 (nI (l.length + 1))) = ρ at *
        have frρ : frT t0 σ0 ρ := frT_t (frT_t f1 (frT_P g1)) fr1
        have tpρ := tpR_T frρ (show tpR σ0 b n from by
          unfold tpR
          rw [← c1.1 5 (by decide), ← c1.2.1 4 (by decide) (by decide)]
          exact c2)
        have hlen : (cdL l ++ pf t).length ≤ j := by rw [List.length_append]; omega
        have hsg := tk_sign tka tpρ (c := 59) (by omega) (by omega) (by omega)
        by_cases e59 : tkT b n j = 59
        · rw [if_pos (hsg.mpr e59)]
          have hj1 := tk_i st.2.1 (show tkT b n j ≠ 0 by omega)
          refine ⟨mo_q, q_next tpρ tka (fun ρ2 s2 t2 => ?_)⟩
          rw [xrV_mk]
          have e32 : ρ2.2.2.1 3 = upd (upd (σ'.2.2.1 3) (t0 + 1 + 3 * l.length + 2) (nI (cdL l ++ pf t).length)) t0 (nI (l.length + 1)) := by rw [s2.2]; exact e3
          have old : ∀ x, x < t0 + 40 → x ≠ t0 → x ≠ t0 + 1 + 3 * l.length + 2 → ρ2.2.2.1 3 x = τ.2.2.1 3 x := by
            intro x h1 h2 h3
            rw [e32, upd_n h2, upd_n h3]
            exact g1.2.2 x (by omega)
          refine hO t j ρ2 es hnk hn12 hps e59 ⟨frT_t frρ (frT_P (frP_sm s2 (by decide))), tpR_F s2 (by decide) tpρ, ⟨?_, ?_, ?_, h2580⟩, ?_, t2, ?_, ?_, ?_, ?_, ?_, ?_, hj1, ?_⟩
          · rw [s2.1 13 (by decide)]; exact h13'
          · rw [s2.1 15 (by decide), h15', ecd]
          · rw [← ecd]
            intro y p hy
            have := g2.2.2.1 y p hy
            rw [e32, upd_n (by omega), upd_n (by omega), upd_n (by omega), upd_n (by omega)]
            exact this
          · rw [s2.1 19 (by decide)]; exact h19'
          · obtain ⟨m, hm1, hm2⟩ := f6
            refine ⟨m, ?_, fun s => ?_⟩
            · rw [s2.1 21 (by decide), h21]; exact hm1
            · rw [hm2 s, fndL_a]
          · rw [e32, upd_s, List.length_append, List.length_singleton]
          · refine hdR_a l 0 0 (hdR_c l 0 0 (fun x h1 h2 => old x (by omega) (by omega) (by omega)) f8) ⟨?_, ?_, ?_⟩
            · rw [Nat.zero_add, old _ (by omega) (by omega) (by omega)]; exact f9
            · rw [Nat.zero_add, old _ (by omega) (by omega) (by omega), Nat.zero_add]; exact f10
            · rw [Nat.zero_add, e32, upd_n (by omega), upd_s, Nat.zero_add, List.length_append]
          · rw [List.length_append, List.length_singleton]; omega
          · intro p hp
            rw [List.mem_append, List.mem_singleton] at hp
            rcases hp with hp | hp
            · exact c10 p hp
            · rw [hp]
              refine ⟨?_, by show T - 400 ≤ 4; omega⟩
              have := st.2.2.1
              show wf t (T - 400 == 4)
              by_cases g : T = 404
              · rw [if_pos g] at this
                rw [g]; exact this
              · rw [if_neg g] at this
                rw [show (T - 400 == 4) = false from beq_eq_false_iff_ne.mpr (by omega)]
                exact this
          · rw [← ecd]; omega
          · refine txV_a c13 (fun h4 => ?_)
            have h4 : T - 400 < 4 := h4
            cases hh : hasK (T - 400) l
            · rfl
            · exact absurd ⟨by omega, hh⟩ hnk
        · rw [if_neg (fun a => e59 (hsg.mp a))]
          exact hE 1 j ρ frρ tka.2.1 (Or.inr ⟨es, Or.inr ⟨hnk, Or.inr ⟨hn12, Or.inr ⟨rfl, t, hps, e59⟩⟩⟩⟩)
    -- the header
    have k9 : ∀ τ : mS, ¬ (T ≠ 404 ∧ hasK (T - 400) l = true) → ¬ l.length = 12 → frT t0 σ0 τ → tpR τ b n → outR τ t0 (cdL l) → τ.1 19 = nI 0 → tkA τ b n i → (∃ m : Fin 16, τ.1 21 = nI m.val ∧ ∀ s : Fin 4, m.val.testBit s.val = (hasK s.val l || decide (T - 400 = s.val))) → τ.2.2.1 3 t0 = nI l.length → hdR (τ.2.2.1 3) t0 0 0 l → K_M_clause sa (d + 6) Q 9 [some (.ref q), some (.int (nI (T - 400))), some (.int (nI l.length)), none, none] [] (mM q M0 τ) (0, 0) := by
      intro τ hnk hn12 f1 f2 f3 f4 f5 f6 f7 f8
      refine t_M_clause_9 ⟨mo_q, q_next f2 f5 (fun τ2 s2 t2 => ?_)⟩
      rw [xrV_mk]
      have g13 : τ2.1 13 = nI t0 := by rw [s2.1 13 (by decide)]; exact f3.1
      have g15 : τ2.1 15 = nI (cdL l).length := by rw [s2.1 15 (by decide)]; exact f3.2.1
      rw [mg_13, g13]
      simp (disch := omega) only [↓i01, ↓i02, ↓xrI_mk, ↓xrV_mk, ↓xrL_mk, ↓xrR_mk, ↓mg_0, ↓mg_1, ↓mp_2, ↓mg_2, ↓mg_3, ↓mg_4, ↓mp_5, ↓mg_5, ↓mp_6, ↓mg_6, ↓mp_7, ↓mg_7, ↓mp_8, ↓mg_8, ↓mp_9, ↓mg_9, ↓mp_10, ↓mg_10, ↓mp_11, ↓mg_11, ↓mp_12, ↓mg_12, ↓mp_13, ↓mg_13, ↓mp_14, ↓mg_14, ↓mp_15, ↓mg_15, ↓mp_16, ↓mg_16, ↓mg_17, ↓mp_18, ↓mg_18, ↓mp_19, ↓mg_19, ↓mp_20, ↓mg_20, ↓mp_21, ↓mg_21, ↓mg_22, ↓mg_23, ↓mg_24, ↓mg_25, ↓mg_26, ↓mg_27, ↓mg_28, ↓mg_29, ↓mg_30, ↓mg_31, ↓mg_32, ↓mg_33, ↓mg_34, ↓mp_35, ↓mg_35, ↓mp_36, ↓mg_36, ↓mg_37, ↓mg_38, ↓mg_39, ↓ma_1, ↓ms_1, ↓ma_2, ↓ms_2, ↓ma_3, ↓ms_3, ↓ma_4, ↓ms_4, ↓ma_5, ↓ms_5, ↓ma_6, ↓ms_6, ↓ma_9, ↓ms_9, ↓ma_10, ↓ms_10, ↓ma_11, ↓ms_11, ↓ma_12, ↓ms_12, ↓ma_13, ↓ms_13, ↓ma_14, ↓ms_14, ↓ma_15, ↓ms_15, ↓ma_16, ↓ms_16, ↓ma_17, ↓ms_17, ↓ma_18, ↓ms_18, ↓ma_19, ↓ms_19, ↓ma_20, ↓ms_20, ↓ma_21, ↓ms_21, ↓mo_q', ↓ma_L, ↓ms_L, ↓ma_Z, ↓ms_Z, mF_1, mF_2, mWd_1, mWd_w, mWd_2, mA_1, mA_w, mA_a, mA_v, mV_1, mV_w, mV_a, mV_v, mA_mA, mV_mV, mF_mF, nI_add, nI_cl, vpi, i01, i02, i10, i11, ↓reduceIte, not_true_eq_false, not_false_eq_true, and_true, true_and, ne_eq, Nat.reduceAdd, Nat.reduceMul, Nat.reduceSub, Nat.reduceEqDiff, reduceCtorEq, Nat.add_zero, Nat.zero_add, n0p, ite_true, ite_false, if_true, if_false, nlT, nlF, nleT, nleF, neT, neF, n0F, n0T, pk_sub, pk_mul, nIm1, nIm2, nlZ, nleZ, upd_s, upd_n, pk_uLs, pk_uLn, nar_0, nar_1, nar_n0, nar_n1, g13, g15]
      have fin : ∀ ev : Bool, (ev = true ↔ T = 404) → K_M_clause sa (d + 6) Q 12 [some (.ref q), none, none, some (.int (nI (t0 + 1 + 3 * l.length))), none] [.int (if ev then 1 else 0), .ref q] (mM q M0 (mA τ2 3 (upd (upd (τ2.2.2.1 3) (t0 + 1 + 3 * l.length) (nI (T - 400))) (t0 + 1 + 3 * l.length + 1) (nI (cdL l).length)))) (0, 0) := by
        intro ev hev
        have e3 : τ2.2.2.1 3 = τ.2.2.1 3 := by rw [s2.2]
        refine k12 _ ev hev hnk hn12 (frT_t f1 (frT_t (frT_P (frP_sm s2 (by decide))) ?_)) (show tpR τ2 b n from tpR_F s2 (by decide) f2) ?_ ?_ t2 ?_ ?_ ?_ ?_ ?_
        · have := frT_t (frT_3 (t0 := t0) (σ := τ2) (k := t0 + 1 + 3 * l.length) (v := nI (T - 400)) (by omega) (by omega)) (frT_3 (k := t0 + 1 + 3 * l.length + 1) (v := nI (cdL l).length) (by omega) (by omega))
          rw [mA_mA] at this
          exact this
        · have o2 := out_sm s2 (by decide) (by decide) f3
          refine ⟨o2.1, o2.2.1, fun y p hy => ?_, o2.2.2.2⟩
          have := o2.2.2.1 y p hy
          show upd (upd (τ2.2.2.1 3) _ _) _ _ (t0 + 40 + 2 * (0 + y)) = _ ∧ upd (upd (τ2.2.2.1 3) _ _) _ _ (t0 + 40 + 2 * (0 + y) + 1) = _
          rw [upd_n (by omega), upd_n (by omega), upd_n (by omega), upd_n (by omega)]
          exact this
        · show τ2.1 19 = _
          rw [s2.1 19 (by decide)]; exact f4
        · obtain ⟨m, hm1, hm2⟩ := f6
          refine ⟨m, ?_, hm2⟩
          show τ2.1 21 = _
          rw [s2.1 21 (by decide)]; exact hm1
        · show upd (upd (τ2.2.2.1 3) _ _) _ _ t0 = _
          rw [upd_n (by omega), upd_n (by omega), e3]; exact f7
        · refine hdR_c l 0 0 (fun x h1 h2 => ?_) f8
          show upd (upd (τ2.2.2.1 3) _ _) _ _ x = _
          rw [upd_n (by omega), upd_n (by omega), e3]
        · show upd (upd (τ2.2.2.1 3) _ _) _ _ _ = _
          rw [upd_n (by omega), upd_s]
        · show upd (upd (τ2.2.2.1 3) _ _) _ _ _ = _
          rw [upd_s]
      rcases Classical.em (T = 404) with g | g
      · rw [if_neg (by rw [g]; exact not_not_intro rfl)]
        exact fin true ⟨fun _ => g, fun _ => rfl⟩
      · rw [if_pos (fun a => by have := (nI_eq (by omega) (by omega)).mp a; omega)]
        exact fin false ⟨fun a => (nomatch a), fun a => absurd a g⟩
    -- how many
    have k5 : ¬ (T ≠ 404 ∧ hasK (T - 400) l = true) → K_M_clause sa (d + 6) Q 5 [some (.ref q), some (.int (nI (T - 400))), none, none, none] [] (mM q M0 σ) (0, 0) := by
      intro hnk
      refine t_M_clause_5 ?_
      simp (disch := omega) only [↓i01, ↓i02, ↓xrI_mk, ↓xrV_mk, ↓xrL_mk, ↓xrR_mk, ↓mg_0, ↓mg_1, ↓mp_2, ↓mg_2, ↓mg_3, ↓mg_4, ↓mp_5, ↓mg_5, ↓mp_6, ↓mg_6, ↓mp_7, ↓mg_7, ↓mp_8, ↓mg_8, ↓mp_9, ↓mg_9, ↓mp_10, ↓mg_10, ↓mp_11, ↓mg_11, ↓mp_12, ↓mg_12, ↓mp_13, ↓mg_13, ↓mp_14, ↓mg_14, ↓mp_15, ↓mg_15, ↓mp_16, ↓mg_16, ↓mg_17, ↓mp_18, ↓mg_18, ↓mp_19, ↓mg_19, ↓mp_20, ↓mg_20, ↓mp_21, ↓mg_21, ↓mg_22, ↓mg_23, ↓mg_24, ↓mg_25, ↓mg_26, ↓mg_27, ↓mg_28, ↓mg_29, ↓mg_30, ↓mg_31, ↓mg_32, ↓mg_33, ↓mg_34, ↓mp_35, ↓mg_35, ↓mp_36, ↓mg_36, ↓mg_37, ↓mg_38, ↓mg_39, ↓ma_1, ↓ms_1, ↓ma_2, ↓ms_2, ↓ma_3, ↓ms_3, ↓ma_4, ↓ms_4, ↓ma_5, ↓ms_5, ↓ma_6, ↓ms_6, ↓ma_9, ↓ms_9, ↓ma_10, ↓ms_10, ↓ma_11, ↓ms_11, ↓ma_12, ↓ms_12, ↓ma_13, ↓ms_13, ↓ma_14, ↓ms_14, ↓ma_15, ↓ms_15, ↓ma_16, ↓ms_16, ↓ma_17, ↓ms_17, ↓ma_18, ↓ms_18, ↓ma_19, ↓ms_19, ↓ma_20, ↓ms_20, ↓ma_21, ↓ms_21, ↓mo_q', ↓ma_L, ↓ms_L, ↓ma_Z, ↓ms_Z, mF_1, mF_2, mWd_1, mWd_w, mWd_2, mA_1, mA_w, mA_a, mA_v, mV_1, mV_w, mV_a, mV_v, mA_mA, mV_mV, mF_mF, nI_add, nI_cl, vpi, i01, i02, i10, i11, ↓reduceIte, not_true_eq_false, not_false_eq_true, and_true, true_and, ne_eq, Nat.reduceAdd, Nat.reduceMul, Nat.reduceSub, Nat.reduceEqDiff, reduceCtorEq, Nat.add_zero, Nat.zero_add, n0p, ite_true, ite_false, if_true, if_false, nlT, nlF, nleT, nleF, neT, neF, n0F, n0T, pk_sub, pk_mul, nIm1, nIm2, nlZ, nleZ, upd_s, upd_n, pk_uLs, pk_uLn, nar_0, nar_1, nar_n0, nar_n1, h13, c7]
      by_cases e12 : l.length = 12
      · rw [if_neg (by rw [e12]; exact not_not_intro rfl)]
        exact hE 5 i σ c1 e9 (Or.inr ⟨es, Or.inr ⟨hnk, Or.inl ⟨rfl, rfl, e12⟩⟩⟩)
      · rw [if_pos (fun a => e12 ((nI_eq (by omega) (by omega)).mp a))]
        rcases Classical.em (T = 404) with g | g
        · rw [if_pos (nI_le (by omega) (by omega))]
          refine k9 σ hnk e12 c1 c2 c3 c4 c5 ⟨mk, c6, fun s => ?_⟩ c7 c8
          rw [c6' s, decide_eq_false (by have := s.isLt; omega), Bool.or_false]
        · rw [if_neg (nI_ge (by omega) (by omega))]
          have os := on_s mk ⟨T - 400, by omega⟩
          have ou := fun s' => on_u mk ⟨T - 400, by omega⟩ s'
          rw [c6]
          have os1 : nI mk.val ||| (nI 1 <<< (nI (T - 400) &&& 31)) = nI (mk.val ||| 2 ^ (T - 400)) := os.1
          rw [os1]
          refine k9 _ hnk e12 (frT_t c1 (frT_F (by decide))) c2 c3 c4 c5 ⟨⟨mk.val ||| 2 ^ (T - 400), os.2⟩, rfl, fun s => ?_⟩ c7 c8
          have := ou s
          show (mk.val ||| 2 ^ (T - 400)).testBit s.val = _
          have this : (mk.val ||| 2 ^ (T - 400)).testBit s.val = (mk.val.testBit s.val || decide ((⟨T - 400, by omega⟩ : Fin 4) = s)) := this
          rw [this, c6' s]
          congr 1
          by_cases g2 : T - 400 = s.val
          · rw [decide_eq_true g2, decide_eq_true (Fin.ext g2)]
          · rw [decide_eq_false g2, decide_eq_false (fun a => g2 (congrArg Fin.val a))]
    rcases Classical.em (T = 404) with g | g
    · rw [if_pos (nI_le (by omega) (by omega))]
      exact k5 (fun a => a.1 g)
    · rw [if_neg (nI_ge (by omega) (by omega)), mg_21, c6]
      have ot := on_t mk ⟨T - 400, by omega⟩
      have ot : ((nI mk.val >>> (nI (T - 400) &&& 31)) &&& nI 1 = nI 1) ↔ mk.val.testBit (T - 400) = true := ot
      have c6t := c6' ⟨T - 400, by omega⟩
      have c6t : mk.val.testBit (T - 400) = hasK (T - 400) l := c6t
      rw [c6t] at ot
      by_cases hk : hasK (T - 400) l = true
      · rw [if_neg (not_not_intro (ot.mpr hk))]
        exact hE 4 i σ c1 e9 (Or.inr ⟨es, Or.inl ⟨rfl, rfl, g, hk⟩⟩)
      · rw [if_pos (fun a => hk (ot.mp a))]
        exact k5 (fun a => hk a.2)
  · rw [if_neg es, if_neg (by decide)]
    exact hE 1 i σ c1 e9 (Or.inl ⟨rfl, rfl, es⟩)
end MTX
