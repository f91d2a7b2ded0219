/-! the reference reads a clause's part as ps says -/
theorem pB_r {r : pR} {k : Term → Nat → pR} {x : Term × Nat} (h : pB r k = .inr x) : ∃ a j, r = .inr (a, j) ∧ k a j = .inr x := by
  match r with
  | .inl e => exact nomatch h
  | .inr (a, j) => exact ⟨a, j, rfl, h⟩
def poC (m c : Nat) : Prop := (m ≤ 8 → mulK c = 0) ∧ (m ≤ 6 → addK c = 0) ∧ (m ≤ 3 → c ≠ 408) ∧ (m ≤ 1 → c ≠ 407)
def peC (m c : Nat) : Prop := (m ≤ 6 → mulK c = 0) ∧ (m ≤ 3 → addK c = 0) ∧ (m ≤ 1 → c ≠ 408)
theorem ps_post {tk tv : Nat → Nat} : ∀ (f m o i : Nat) (t t' : Term) (j : Nat), m ≤ 8 → (lmB m = true → peC m (tk i)) → ps tk tv f m o i t = .inr (t', j) → poC m (tk j) := by
  intro f
  induction f with
  | zero => intro m o i t t' j _ _ h; exact nomatch h
  | succ f ih =>
    intro m o i t t' j hm hp h
    rcases (show m = 0 ∨ m = 1 ∨ m = 2 ∨ m = 3 ∨ m = 4 ∨ m = 5 ∨ m = 6 ∨ m = 7 ∨ m = 8 by omega) with rfl | rfl | rfl | rfl | rfl | rfl | rfl | rfl | rfl
    · rw [ps_0] at h
      obtain ⟨a, u, h1, h2⟩ := pB_r h
      have p1 := ih 2 o i t a u (by omega) (fun q => (nomatch q)) h1
      have p2 := ih 1 o u a t' j (by omega) (fun _ => ⟨fun _ => p1.1 (by omega), fun _ => p1.2.1 (by omega), fun _ => p1.2.2.1 (by omega)⟩) h2
      exact ⟨fun _ => p2.1 (by omega), fun _ => p2.2.1 (by omega), fun _ => p2.2.2.1 (by omega), fun _ => p2.2.2.2 (by omega)⟩
    · rw [ps_1] at h
      split at h
      · obtain ⟨a, u, h1, h2⟩ := pB_r h
        have p1 := ih 2 o (i + 1) t a u (by omega) (fun q => (nomatch q)) h1
        exact ih 1 o u _ t' j (by omega) (fun _ => ⟨fun _ => p1.1 (by omega), fun _ => p1.2.1 (by omega), fun _ => p1.2.2.1 (by omega)⟩) h2
      · rename_i hn
        have h := Sum.inr.inj h
        have e : i = j := congrArg Prod.snd h
        subst e
        have p := hp rfl
        exact ⟨fun _ => p.1 (by omega), fun _ => p.2.1 (by omega), fun _ => p.2.2 (by omega), fun _ => hn⟩
    · rw [ps_2] at h
      obtain ⟨a, u, h1, h2⟩ := pB_r h
      have p1 := ih 4 o i t a u (by omega) (fun q => (nomatch q)) h1
      have p2 := ih 3 o u a t' j (by omega) (fun _ => ⟨fun _ => p1.1 (by omega), fun _ => p1.2.1 (by omega), fun q => by omega⟩) h2
      exact ⟨fun _ => p2.1 (by omega), fun _ => p2.2.1 (by omega), fun _ => p2.2.2.1 (by omega), fun q => by omega⟩
    · rw [ps_3] at h
      split at h
      · obtain ⟨a, u, h1, h2⟩ := pB_r h
        have p1 := ih 4 o (i + 1) t a u (by omega) (fun q => (nomatch q)) h1
        exact ih 3 o u _ t' j (by omega) (fun _ => ⟨fun _ => p1.1 (by omega), fun _ => p1.2.1 (by omega), fun q => by omega⟩) h2
      · rename_i hn
        have h := Sum.inr.inj h
        have e : i = j := congrArg Prod.snd h
        subst e
        have p := hp rfl
        exact ⟨fun _ => p.1 (by omega), fun _ => p.2.1 (by omega), fun _ => hn, fun q => by omega⟩
    · rw [ps_4] at h
      split at h
      · split at h
        · exact nomatch h
        · obtain ⟨a, u, h1, h2⟩ := pB_r h
          have p1 := ih 4 (o + 1) (i + 1) t a u (by omega) (fun q => (nomatch q)) h1
          have h2 := Sum.inr.inj h2
          have e : u = j := congrArg Prod.snd h2
          rw [← e]; exact p1
      · obtain ⟨a, u, h1, h2⟩ := pB_r h
        split at h2
        · exact nomatch h2
        · obtain ⟨c, v, h3, h4⟩ := pB_r h2
          have p1 := ih 5 o (u + 1) t c v (by omega) (fun q => (nomatch q)) h3
          have h4 := Sum.inr.inj h4
          have e : v = j := congrArg Prod.snd h4
          rw [← e]
          exact ⟨fun _ => p1.1 (by omega), fun _ => p1.2.1 (by omega), fun q => by omega, fun q => by omega⟩
    · rw [ps_5] at h
      obtain ⟨a, u, h1, h2⟩ := pB_r h
      have p1 := ih 7 o i t a u (by omega) (fun q => (nomatch q)) h1
      have p2 := ih 6 o u a t' j (by omega) (fun _ => ⟨fun _ => p1.1 (by omega), fun q => by omega, fun q => by omega⟩) h2
      exact ⟨fun _ => p2.1 (by omega), fun _ => p2.2.1 (by omega), fun q => by omega, fun q => by omega⟩
    · rw [ps_6] at h
      split at h
      · rename_i hn
        have h := Sum.inr.inj h
        have e : i = j := congrArg Prod.snd h
        subst e
        have p := hp rfl
        exact ⟨fun _ => p.1 (by omega), fun _ => hn, fun q => by omega, fun q => by omega⟩
      · obtain ⟨a, u, h1, h2⟩ := pB_r h
        have p1 := ih 7 o (i + 1) t a u (by omega) (fun q => (nomatch q)) h1
        exact ih 6 o u _ t' j (by omega) (fun _ => ⟨fun _ => p1.1 (by omega), fun q => by omega, fun q => by omega⟩) h2
    · rw [ps_7] at h
      obtain ⟨a, u, h1, h2⟩ := pB_r h
      have p2 := ih 8 o u a t' j (by omega) (fun _ => ⟨fun q => by omega, fun q => by omega, fun q => by omega⟩) h2
      exact ⟨fun _ => p2.1 (by omega), fun q => by omega, fun q => by omega, fun q => by omega⟩
    · rw [ps_8] at h
      split at h
      · rename_i hn
        have h := Sum.inr.inj h
        have e : i = j := congrArg Prod.snd h
        subst e
        exact ⟨fun _ => hn, fun q => by omega, fun q => by omega, fun q => by omega⟩
      · obtain ⟨a, u, h1, h2⟩ := pB_r h
        exact ih 8 o u _ t' j (by omega) (fun _ => ⟨fun q => by omega, fun q => by omega, fun q => by omega⟩) h2
def rhoM (m : Nat) : Nat := if m ≤ 1 then 1 else if m ≤ 3 then 2 else if m = 4 then 3 else if m ≤ 6 then 5 else 6
def rhoT (m : Nat) : Nat := if m ≤ 1 then 1 else if m ≤ 3 then 2 else if m = 4 then 4 else if m ≤ 6 then 5 else 6
def lenM (m : Nat) : Nat := if m ≤ 1 then 0 else if m ≤ 3 then 1 else if m = 4 then 2 else if m ≤ 6 then 3 else 4
def hdM (ρ : Nat) (S : List Nat) (cd' cd : cD) (t : Term) : Prop := (∀ p, p ∈ S → ρ ≤ rkN p) ∧ cd' ++ ops S = cd ++ pf t
theorem hd_len {ρ : Nat} {S : List Nat} {cd' cd : cD} {t : Term} (h : hdM ρ S cd' cd t) : cd'.length + S.length = cd.length + (pf t).length := by
  have := congrArg List.length h.2
  rw [List.length_append, List.length_append] at this
  unfold ops at this
  rw [List.length_map] at this
  exact this
theorem topB_m {r r' : Nat} {P : List Nat} (h : topB r P) (hr : r ≤ r') : topB r' P := by
  cases P with
  | nil => exact h
  | cons p P => exact Nat.lt_of_lt_of_le h hr
theorem ask_ko {e : Bool} {P : List Nat} (h : askB e P = true) : koN e P = 41 := by
  unfold askB at h
  rw [Bool.and_eq_true, decide_eq_true_eq] at h
  exact h.1
theorem ask_cons {e : Bool} {p : Nat} {P : List Nat} (hk : koN e P = 41) (hp : p < 40) (h1 : 1 ≤ rkN p) (h3 : rkN p ≤ 3) : askB e (p :: P) = true := by
  unfold askB
  rw [show koN e (p :: P) = koN e P from if_neg (by omega), hk]
  dsimp only
  rw [decide_eq_true h1, decide_eq_true h3, Bool.and_true, Bool.or_true]
  rfl
theorem ask_41 {e : Bool} {P : List Nat} : askB e (41 :: P) = true := by
  unfold askB
  rw [show koN e (41 :: P) = 41 from rfl]
  rfl
theorem ask_no {e : Bool} {p : Nat} {P : List Nat} (h41 : p ≠ 41) (h : rkN p = 0 ∨ 4 ≤ rkN p) : ¬ askB e (p :: P) = true := by
  intro a
  unfold askB at a
  rw [Bool.and_eq_true, Bool.or_eq_true, Bool.and_eq_true, decide_eq_true_eq, decide_eq_true_eq, decide_eq_true_eq, decide_eq_true_eq] at a
  omega
theorem cpB_top {P : List Nat} (h : topB 4 P) : cpB P = false := by
  cases P with
  | nil => rfl
  | cons p P =>
    have h : rkN p < 4 := h
    show (if 4 < rkN p then _ else decide (rkN p = 4)) = false
    rw [if_neg (by omega), decide_eq_false (by omega)]
theorem cpB_app {S : List Nat} {p : Nat} (hS : ∀ x, x ∈ S → 4 < rkN x) (h : rkN p = 4) : cpB (S ++ [p]) = true := by
  rw [cpB_a S hS]
  show (if 4 < rkN p then _ else decide (rkN p = 4)) = true
  rw [if_neg (by omega), decide_eq_true h]
theorem rk_cmp {c : Nat} (h : cmpK c ≠ 0) : rkN (cmpK c) = 4 := by
  have := cmpK_r h
  unfold rkN
  rw [if_neg (by omega), if_neg (by omega), if_neg (by omega), if_neg (by omega), if_pos (by omega)]
theorem rk_add {c : Nat} (h : addK c ≠ 0) : rkN (addK c) = 5 := by
  have := addK_r h
  rcases (show addK c = 3 ∨ addK c = 4 by omega) with e | e <;> rw [e] <;> decide
theorem rk_mul {c : Nat} (h : mulK c ≠ 0) : rkN (mulK c) = 6 := by
  have := mulK_r h
  rcases (show mulK c = 5 ∨ mulK c = 6 by omega) with e | e <;> rw [e] <;> decide
theorem bet_add {e : Bool} {P : List Nat} {T : Nat} (h : addK T ≠ 0) : betN e P T = some (addK T) := by
  unfold addK at h ⊢
  unfold betN
  by_cases e1 : T = 43
  · rw [if_pos e1, if_pos e1]
  · rw [if_neg e1] at h
    rw [if_neg e1, if_neg e1]
    by_cases e2 : T = 45
    · rw [if_pos e2, if_pos e2]
    · rw [if_neg e2] at h; exact absurd rfl h
theorem bet_mul {e : Bool} {P : List Nat} {T : Nat} (h : mulK T ≠ 0) : betN e P T = some (mulK T) := by
  unfold mulK at h ⊢
  unfold betN
  by_cases e1 : T = 42
  · rw [if_neg (by omega), if_neg (by omega), if_pos e1, if_pos e1]
  · rw [if_neg e1] at h
    by_cases e2 : T = 47
    · rw [if_neg (by omega), if_neg (by omega), if_neg e1, if_pos e2, if_neg e1, if_pos e2]
    · rw [if_neg e2] at h; exact absurd rfl h
theorem bet_4 {e : Bool} {P : List Nat} {T : Nat} (h1 : addK T = 0) (h2 : mulK T = 0) : betN e P T = (if koN e P = 41 then (if cpB P = true then (if T = 408 then some 21 else if T = 407 then some 22 else none) else (if cmpK T = 0 then none else some (cmpK T))) else none) := by
  unfold addK at h1
  unfold mulK at h2
  unfold betN
  have a1 : ¬ T = 43 := fun q => by rw [if_pos q] at h1; exact nomatch h1
  have a2 : ¬ T = 45 := fun q => by rw [if_neg a1, if_pos q] at h1; exact nomatch h1
  have a3 : ¬ T = 42 := fun q => by rw [if_pos q] at h2; exact nomatch h2
  have a4 : ¬ T = 47 := fun q => by rw [if_neg a3, if_pos q] at h2; exact nomatch h2
  rw [if_neg a1, if_neg a2, if_neg a3, if_neg a4]
section MPS
variable {sa : Nat → Nat} {d : Nat} {Q : xQ} {q : Nat} {M0 M : xM} {σ0 σ : mS} {b : Nat → Nat} {n t0 : Nat} {P : List Nat} {cd : cD} {o i w : Nat} {e : Bool}
def K1 (sa : Nat → Nat) (d : Nat) (Q : xQ) (q : Nat) (M0 : xM) (e : Bool) (σ : mS) : Prop := K_M_parsed sa (d + 5) Q 1 [some (.ref q), some (.int (if e then 1 else 0)), some (.int (nI 1)), none] [] (mM q M0 σ) (0, 0)
def erM (σ0 σ : mS) (b : Nat → Nat) (n t0 j : Nat) : Prop := frP t0 σ0 σ ∧ σ.1 9 = nI (tkP b n j)
theorem st_er (hs : stM σ0 σ b n t0 P cd o i w) : erM σ0 σ b n t0 i := ⟨hs.1, hs.2.2.2.2.2.1.2.1⟩
theorem k_beg (hs : stM σ0 σ b n t0 P cd o i 0) (h : xEv xP (xprim sa) (d + 5) m_M_beginOne [.ref q, .int (if e then 1 else 0)] (mM q M0 σ) (xrI fun r3 M5 => if r3 = 0 then K_M_parsed sa (d + 5) Q 1 [some (.ref q), some (.int (if e then 1 else 0)), some (.int (nI 1)), none] [] M5 (0, 0) else Q (some (.int r3)) M5)) : K1 sa d Q q M0 e σ := by
  refine t_M_parsed_1 ?_
  rw [if_neg (by decide), mg_20, hs.2.2.2.2.2.2, if_pos (by decide)]
  exact ⟨mo_q, h⟩
theorem k_beh (hs : stM σ0 σ b n t0 P cd o i 1) (h : xEv xP (xprim sa) (d + 5) m_M_behindOne [.ref q, .int (if e then 1 else 0)] (mM q M0 σ) (xrI fun r4 M6 => K_M_parsed sa (d + 5) Q 1 [some (.ref q), some (.int (if e then 1 else 0)), some (.int r4), none] [] M6 (0, 0))) : K1 sa d Q q M0 e σ := by
  refine t_M_parsed_1 ?_
  rw [if_neg (by decide), mg_20, hs.2.2.2.2.2.2, if_neg (by decide)]
  exact ⟨mo_q, h⟩
/-- the reading ends with fault 1 -/
theorem k_err (hs : stM σ0 σ b n t0 P cd o i 1) (hb : betN e P (tkT b n i) = none) (h1 : tkT b n i = 41 → ¬ kdI P = nI 40) (h2 : tkT b n i = 406 → ¬ kdI P = nI 43) (h3 : tkT b n i = 63 → ¬ (kdI P = nI 41 ∧ cpB P = true)) (h4 : tkT b n i = 58 → ¬ kdI P = nI 42) (hec : ¬ mkP P = -1 ∨ (e = true ∧ cpB P = false)) (h : Q (some (.int (nI 1))) (mM q M0 σ)) : K1 sa d Q q M0 e σ := by
  refine k_beh hs (c_M_behind_no hs hb h1 h2 h3 h4 ?_)
  rw [xrI_mk]
  refine t_M_parsed_1 ?_
  rw [if_pos (by decide)]
  refine ⟨mo_q, c_M_marker hs.2.2.1 ?_⟩
  rw [xrI_mk]
  rcases mk_cases (e := true) P hs.2.2.1 with ⟨g1, g2, g3⟩ | ⟨S, mk, P1, g1, g2, g3, g4, g5, g6, g7, g8⟩
  · rw [g1, if_neg (by decide)]
    rcases hec with a | ⟨a1, a2⟩
    · exact absurd g1 a
    · subst a1
      rw [if_neg (by decide)]
      refine ⟨mo_q, c_M_isCompared hs.2.2.1 ?_⟩
      rw [xrI_mk, a2, if_neg (by decide)]
      exact h
  · rw [g5, if_pos (nI_pos' (by omega))]
    exact h
theorem k_err2 {mk : Nat} {S P1 : List Nat} (hs : stM σ0 σ b n t0 (S ++ mk :: P1) cd o i 1) (hmk : 40 ≤ mk ∧ mk ≤ 43) (hS : ∀ p, p ∈ S → 1 ≤ rkN p) (ha : addK (tkT b n i) = 0) (hm : mulK (tkT b n i) = 0) (h41 : mk = 41 → cpB S = true ∧ tkT b n i ≠ 408 ∧ tkT b n i ≠ 407 ∧ tkT b n i ≠ 63) (h40 : mk = 40 → tkT b n i ≠ 41) (h42 : mk = 42 → tkT b n i ≠ 58) (h43 : mk = 43 → tkT b n i ≠ 406) (h : Q (some (.int (nI 1))) (mM q M0 σ)) : K1 sa d Q q M0 e σ := by
  have hS40 : ∀ p, p ∈ S → p < 40 := fun p hp => rkN_40 (hS p hp)
  have hlen := hs.2.2.1.2.1
  rw [List.length_append, List.length_cons] at hlen
  have em : mkP (S ++ mk :: P1) = nI P1.length := by
    rw [mkP_a S hS40]
    exact if_pos (by omega)
  have ek : ∀ e, koN e (S ++ mk :: P1) = mk := by
    intro e
    rw [koN_a S hS40]
    exact if_pos (by omega)
  have ekd : kdI (S ++ mk :: P1) = nI mk := by
    unfold kdI
    rw [em, if_neg (nI_m1 (by omega)), ek]
  have ne : ∀ c, c < 64 → mk ≠ c → ¬ kdI (S ++ mk :: P1) = nI c := by
    intro c hc hne a
    rw [ekd] at a
    exact hne ((nI_eq (by omega) (by omega)).mp a)
  refine k_err hs ?_ (fun t => ne 40 (by omega) (fun a => h40 a t)) (fun t => ne 43 (by omega) (fun a => h43 a t)) (fun t a => ?_) (fun t => ne 42 (by omega) (fun a => h42 a t)) (Or.inl (by rw [em]; exact nI_m1 (by omega))) h
  · rw [bet_4 ha hm, ek]
    by_cases g : mk = 41
    · have := h41 g
      rw [if_pos g, if_pos (cpB_t S this.1), if_neg this.2.1, if_neg this.2.2.1]
    · rw [if_neg g]
  · by_cases g : mk = 41
    · exact (h41 g).2.2.2 t
    · exact ne 41 (by omega) g a.1
def mpX (sa : Nat → Nat) (d : Nat) (Q : xQ) (q : Nat) (M0 : xM) (e : Bool) (σ0 : mS) (b : Nat → Nat) (n t0 : Nat) (ρ : Nat) (qf : Bool) (o : Nat) (P : List Nat) (cd : cD) (r : pR) : Prop := match r with
  | .inl (k, j) => ∀ σ', erM σ0 σ' b n t0 j → Q (some (.int (nI k))) (mM q M0 σ')
  | .inr (t', j) => ∀ (σ' : mS) (S : List Nat) (cd' : cD), hdM ρ S cd' cd t' → (qf = true → cpB S = true) → o + cntO S ≤ 8 → stM σ0 σ' b n t0 (S ++ P) cd' (o + cntO S) j 1 → K1 sa d Q q M0 e σ'
def mpX9 (sa : Nat → Nat) (d : Nat) (Q : xQ) (q : Nat) (M0 : xM) (e : Bool) (σ0 : mS) (b : Nat → Nat) (n t0 : Nat) (k o' : Nat) (P' : List Nat) (cd : cD) (r : pR) : Prop := match r with
  | .inl (k, j) => ∀ σ', erM σ0 σ' b n t0 j → Q (some (.int (nI k))) (mM q M0 σ')
  | .inr (t', j) => ∀ σ' : mS, stM σ0 σ' b n t0 P' (cd ++ pf t' ++ ops (rep2 k)) o' j 1 → K1 sa d Q q M0 e σ'
def mpS (sa : Nat → Nat) (d : Nat) (Q : xQ) (q : Nat) (M0 : xM) (e : Bool) (σ0 : mS) (b : Nat → Nat) (n t0 f : Nat) : Prop := ∀ (m o i : Nat) (t : Term) (P : List Nat) (cd : cD) (σ : mS), m = 0 ∨ m = 2 ∨ m = 4 ∨ m = 5 ∨ m = 7 → (m < 5 → askB e P = true) → (5 ≤ m → askB e P = true → tkT b n i ≠ 409) → topB (rhoT m) P → o ≤ 8 → P.length ≤ 6 * o + lenM m → i ≤ tkP b n i → cd.length ≤ i → 10 * (n + 1 - i) + (9 - m) < f → stM σ0 σ b n t0 P cd o i 0 → mpX sa d Q q M0 e σ0 b n t0 (rhoM m) (decide (m < 5)) o P cd (ps (tkT b n) (tkV b n) f m o i t) → K1 sa d Q q M0 e σ
def mpL (sa : Nat → Nat) (d : Nat) (Q : xQ) (q : Nat) (M0 : xM) (e : Bool) (σ0 : mS) (b : Nat → Nat) (n t0 f : Nat) : Prop := ∀ (m o i : Nat) (t : Term) (P : List Nat) (cd : cD) (σ : mS) (S : List Nat) (cd' : cD), m = 1 ∨ m = 3 ∨ m = 6 ∨ m = 8 → (m < 5 → askB e P = true) → topB (rhoT m) P → o ≤ 8 → P.length ≤ 6 * o + lenM m → i ≤ tkP b n i → cd.length + (pf t).length ≤ i → wf t (decide (m < 5)) → 10 * (n + 1 - i) + (9 - m) < f → hdM (rhoM m) S cd' cd t → (decide (m < 5) = true → cpB S = true) → o + cntO S ≤ 8 → peC m (tkT b n i) → stM σ0 σ b n t0 (S ++ P) cd' (o + cntO S) i 1 → mpX sa d Q q M0 e σ0 b n t0 (rhoM m) (decide (m < 5)) o P cd (ps (tkT b n) (tkV b n) f m o i t) → K1 sa d Q q M0 e σ
def mp9 (sa : Nat → Nat) (d : Nat) (Q : xQ) (q : Nat) (M0 : xM) (e : Bool) (σ0 : mS) (b : Nat → Nat) (n t0 f : Nat) : Prop := ∀ (o i : Nat) (t : Term) (k o' : Nat) (P' : List Nat) (cd : cD) (σ : mS), (askB e (rep2 k ++ P') = true → tkT b n i ≠ 409) → topB 7 P' → o = o' + k → o ≤ 8 → (rep2 k ++ P').length ≤ 6 * o + 5 → i ≤ tkP b n i → cd.length + k ≤ i → 10 * (n + 1 - i) < f → stM σ0 σ b n t0 (rep2 k ++ P') cd o i 0 → mpX9 sa d Q q M0 e σ0 b n t0 k o' P' cd (ps (tkT b n) (tkV b n) f 9 o i t) → K1 sa d Q q M0 e σ
theorem mpX_B {ρ ρ' : Nat} {qf qf' : Bool} {o o' : Nat} {P P' : List Nat} {cd cd' : cD} {r : pR} {k : Term → Nat → pR} (hX : mpX sa d Q q M0 e σ0 b n t0 ρ qf o P cd (pB r k)) (h : ∀ a j, r = .inr (a, j) → mpX sa d Q q M0 e σ0 b n t0 ρ qf o P cd (k a j) → mpX sa d Q q M0 e σ0 b n t0 ρ' qf' o' P' cd' (.inr (a, j))) : mpX sa d Q q M0 e σ0 b n t0 ρ' qf' o' P' cd' r := by
  match r with
  | .inl (e, j) => exact hX
  | .inr (a, j) => exact h a j rfl hX
theorem mpX_B9 {ρ : Nat} {qf : Bool} {o k0 o' : Nat} {P P' : List Nat} {cd cd' : cD} {r : pR} {k : Term → Nat → pR} (hX : mpX sa d Q q M0 e σ0 b n t0 ρ qf o P cd (pB r k)) (h : ∀ a j, r = .inr (a, j) → mpX sa d Q q M0 e σ0 b n t0 ρ qf o P cd (k a j) → mpX9 sa d Q q M0 e σ0 b n t0 k0 o' P' cd' (.inr (a, j))) : mpX9 sa d Q q M0 e σ0 b n t0 k0 o' P' cd' r := by
  match r with
  | .inl (e, j) => exact hX
  | .inr (a, j) => exact h a j rfl hX
theorem mpX9_B {ρ' : Nat} {qf' : Bool} {o o' k0 : Nat} {P P' : List Nat} {cd cd' : cD} {r : pR} {k : Term → Nat → pR} (hX : mpX9 sa d Q q M0 e σ0 b n t0 k0 o' P' cd (pB r k)) (h : ∀ a j, r = .inr (a, j) → mpX9 sa d Q q M0 e σ0 b n t0 k0 o' P' cd (k a j) → mpX sa d Q q M0 e σ0 b n t0 ρ' qf' o P cd' (.inr (a, j))) : mpX sa d Q q M0 e σ0 b n t0 ρ' qf' o P cd' r := by
  match r with
  | .inl (e, j) => exact hX
  | .inr (a, j) => exact h a j rfl hX
theorem mpX9_B9 {k0 k1 o' o'' : Nat} {P P' : List Nat} {cd cd' : cD} {r : pR} {k : Term → Nat → pR} (hX : mpX9 sa d Q q M0 e σ0 b n t0 k0 o' P' cd (pB r k)) (h : ∀ a j, r = .inr (a, j) → mpX9 sa d Q q M0 e σ0 b n t0 k0 o' P' cd (k a j) → mpX9 sa d Q q M0 e σ0 b n t0 k1 o'' P cd' (.inr (a, j))) : mpX9 sa d Q q M0 e σ0 b n t0 k1 o'' P cd' r := by
  match r with
  | .inl (e, j) => exact hX
  | .inr (a, j) => exact h a j rfl hX
end MPS
