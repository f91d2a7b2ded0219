/-! the reference: what comes behind a part -/
theorem betN_lt {e : Bool} {P : List Nat} {T op : Nat} (h : betN e P T = some op) : op < 40 ∧ 1 ≤ rkN op := by
  unfold betN at h
  repeat' split at h
  all_goals first | contradiction | (have h := Option.some.inj h; subst h; first | decide | (rename_i hc; have hc := cmpK_r hc; refine ⟨by omega, ?_⟩; unfold rkN; rw [if_neg (by omega), if_neg (by omega), if_neg (by omega), if_neg (by omega), if_pos (by omega)]; omega))
section MH
variable {sa : Nat → Nat} {d : Nat} {Q : xQ} {q : Nat} {M0 M : xM} {σ0 σ : mS} {b : Nat → Nat} {n t0 : Nat} {P : List Nat} {cd : cD} {o i w : Nat} {e : Bool}
/-- the kind of the topmost marker, or none -/
def kdI (P : List Nat) : Int32 := if mkP P = -1 then -1 else nI (koN true P)
theorem koN_e {P : List Nat} (h : ¬ mkP P = -1) {e e' : Bool} : koN e P = koN e' P := by
  induction P with
  | nil => exact absurd rfl h
  | cons p P ih =>
    by_cases e4 : 40 ≤ p
    · rw [show koN e (p :: P) = p from if_pos e4, show koN e' (p :: P) = p from if_pos e4]
    · rw [show koN e (p :: P) = koN e P from if_neg e4, show koN e' (p :: P) = koN e' P from if_neg e4]
      exact ih (fun a => h ((if_neg e4).trans a))
theorem nI_m1 {k : Nat} (h : k < 2 ^ 31) : ¬ nI k = -1 := by
  intro a
  have := congrArg Int32.toInt a
  rw [nI_i h] at this
  have z : (-1 : Int32).toInt = -1 := rfl
  omega
theorem c_M_behind3 (hs : stM σ0 σ b n t0 P cd o i w) {o' : Int32} (h : K_M_behindOne sa (d + 3) Q 3 [some (.ref q), none, some (.int (oI (betN e P (tkT b n i)))), some (.int (mkP P)), none] [.int (kdI P)] (mM q M0 σ) (0, 0)) : xEv xP (xprim sa) (d + 4) m_M_behindOne [.ref q, .int (if e then 1 else 0)] (mM q M0 σ) Q := by
  refine t_M_behindOne ⟨mo_q, c_M_betweenOf hs ?_⟩
  rw [xrI_mk]
  refine ⟨mo_q, c_M_marker hs.2.2.1 ?_⟩
  rw [xrI_mk]
  unfold kdI at h
  rcases mk_cases (e := true) P hs.2.2.1 with ⟨g1, g2, g3⟩ | ⟨S, mk, P1, g1, g2, g3, g4, g5, g6, g7, g8⟩
  · rw [if_pos g1, g1] at h
    rw [g1, if_neg (by decide)]
    exact h
  · rw [if_neg (by rw [g5]; exact nI_m1 (by omega)), g6, g5] at h
    rw [g5, if_pos (nI_pos' (by omega)), mg_17, ma_5, nI_cl (by omega), g7]
    exact ⟨vp_in_nI g8 (by omega), h⟩
/-- an operation between two -/
theorem c_M_behind_op {op : Nat} {S P1 : List Nat} {o1 : Nat} (hs : stM σ0 σ b n t0 (S ++ P1) cd (o1 + cntO S) i w) (hb : betN e (S ++ P1) (tkT b n i) = some op) (hl : cd.length + S.length ≤ 301) (ho : o1 + cntO S ≤ 100) (hS : ∀ p, p ∈ S → rkN op ≤ rkN p) (ht : topB (rkN op) P1) (hP : P1.length < 160) (h : ∀ σ', stM σ0 σ' b n t0 (op :: P1) (cd ++ ops S) o1 (i + 1) 0 → Q (some (.int (nI 1))) (mM q M0 σ')) : xEv xP (xprim sa) (d + 4) m_M_behindOne [.ref q, .int (if e then 1 else 0)] (mM q M0 σ) Q := by
  refine c_M_behind3 (o' := 0) hs ?_
  have hop := betN_lt hb
  rw [hb]
  refine t_M_behindOne_3 ?_
  show (if nI op < 0 then _ else _)
  have hrk7 : rkN op < 10 := by
    unfold rkN
    repeat' split
    all_goals omega
  rw [if_neg (nI_pos (by omega))]
  refine c_M_rank (by omega) ?_
  rw [xrI_mk]
  refine ⟨mo_q, st_settle hrk7 hs hl ho hS ht (fun τ hτ => ?_)⟩
  rw [xrV_mk]
  refine ⟨mo_q, st_push hτ hP (by omega) (fun τ2 hτ2 => ?_)⟩
  rw [xrV_mk]
  refine ⟨Or.inl rfl, ?_⟩
  rw [mp_20]
  refine ⟨mo_q, st_next (st_F20 (v := 0) hτ2) (fun τ3 hτ3 => ?_)⟩
  rw [xrV_mk]
  exact ⟨Or.inr rfl, h τ3 hτ3⟩
/-- a close -/
theorem c_M_behind_cl {mk k : Nat} {S P1 : List Nat} {o1 : Nat} (hs : stM σ0 σ b n t0 (S ++ mk :: (rep2 k ++ P1)) cd (o1 + k + 1 + cntO S) i w) (hmk : (mk = 40 ∧ tkT b n i = 41) ∨ (mk = 43 ∧ tkT b n i = 406)) (hl : cd.length + S.length + 1 + k ≤ 301) (ho : o1 + k + 1 + cntO S ≤ 100) (hS : ∀ p, p ∈ S → 1 ≤ rkN p) (ht : topB 7 P1) (h : ∀ σ', stM σ0 σ' b n t0 P1 (cd ++ ops S ++ (if mk = 43 then [(23, 0)] else []) ++ ops (rep2 k)) o1 (i + 1) 1 → Q (some (.int (nI 1))) (mM q M0 σ')) : xEv xP (xprim sa) (d + 4) m_M_behindOne [.ref q, .int (if e then 1 else 0)] (mM q M0 σ) Q := by
  refine c_M_behind3 (o' := 0) (e := e) hs ?_
  have htk := hs.2.2.2.2.2.1
  have hp := hs.2.1
  have sg := fun c h1 h2 h3 => tk_sign htk hp (c := c) h1 h2 h3
  have hS40 : ∀ p, p ∈ S → p < 40 := fun p hp => rkN_40 (hS p hp)
  have em : mkP (S ++ mk :: (rep2 k ++ P1)) = nI (rep2 k ++ P1).length := by
    rw [mkP_a S hS40]
    exact if_pos (by omega)
  have ek : ∀ e, koN e (S ++ mk :: (rep2 k ++ P1)) = mk := by
    intro e
    rw [koN_a S hS40]
    exact if_pos (by omega)
  have hlen := hs.2.2.1.2.1
  rw [List.length_append, List.length_cons] at hlen
  have ekd : kdI (S ++ mk :: (rep2 k ++ P1)) = nI mk := by
    unfold kdI
    rw [em, if_neg (nI_m1 (by omega)), ek]
  have eb : betN e (S ++ mk :: (rep2 k ++ P1)) (tkT b n i) = none := by
    unfold betN
    rw [ek, if_neg (by omega), if_neg (by omega), if_neg (by omega), if_neg (by omega), if_neg (by omega)]
  rw [eb, ekd, em]
  -- the close itself
  have k9 : K_M_behindOne sa (d + 3) Q 9 [some (.ref q), none, none, none, some (.int (nI mk))] [] (mM q M0 σ) (0, 0) := by
    refine t_M_behindOne_9 ⟨mo_q, st_settle (r := 1) (by omega) hs (by omega) ho hS (by show rkN mk < 1; rcases hmk with ⟨g, _⟩ | ⟨g, _⟩ <;> subst g <;> decide) (fun τ hτ => ?_)⟩
    rw [xrV_mk]
    have h18 := hτ.2.2.1.1
    have h19 := hτ.2.2.2.2.1
    rw [List.length_cons] at h18
    rw [mg_18, h18, show nI ((rep2 k ++ P1).length + 1) - nI 1 = nI (rep2 k ++ P1).length from pk_sub (by omega), mp_18, mg_19, show (mF τ 18 (nI (rep2 k ++ P1).length)).1 19 = nI (o1 + k + 1) from h19, show nI (o1 + k + 1) - nI 1 = nI (o1 + k) from pk_sub (by omega), mp_19]
    have hs3 : stM σ0 (mF (mF τ 18 (nI (rep2 k ++ P1).length)) 19 (nI (o1 + k))) b n t0 (rep2 k ++ P1) (cd ++ ops S) (o1 + k) i w := by
      obtain ⟨h1, h2, h3, h4, h5, h6, h7⟩ := hτ
      exact ⟨frP_t h1 (frP_t (frP_F (by decide)) (frP_F (by decide))), h2, pile_F (pile_pop h3) (by decide), h4, rfl, h6, h7⟩
    have hlo : (cd ++ ops S).length = cd.length + S.length := by rw [List.length_append]; unfold ops; rw [List.length_map]
    have fin : ∀ (τ : mS) (cd2 : cD), stM σ0 τ b n t0 (rep2 k ++ P1) cd2 (o1 + k) i w → cd2.length + k ≤ 301 → (∀ σ', stM σ0 σ' b n t0 P1 (cd2 ++ ops (rep2 k)) o1 (i + 1) 1 → Q (some (.int (nI 1))) (mM q M0 σ')) → xobj (mM q M0 τ) q 12 ∧ xEv xP (xprim sa) (d + 3) m_M_whole [.ref q] (mM q M0 τ) (xrV fun M7 => xobj M7 q 12 ∧ xEv xP (xprim sa) (d + 3) m_M_nextToken [.ref q] M7 (xrV fun M8 => (nI 1 = 0 ∨ nI 1 = 1) ∧ Q (some (.int (nI 1))) M8)) := by
      intro τ cd2 hτ hl2 hq
      refine ⟨mo_q, st_whole hτ hl2 (by omega) ht (fun τ2 hτ2 => ?_)⟩
      rw [xrV_mk]
      refine ⟨mo_q, st_next hτ2 (fun τ3 hτ3 => ?_)⟩
      rw [xrV_mk]
      exact ⟨Or.inr rfl, hq τ3 hτ3⟩
    by_cases e43 : mk = 43
    · rw [e43, if_neg (not_not_intro rfl)]
      refine ⟨mo_q, st_emit hs3 (by omega) (fun τ2 hτ2 => ?_)⟩
      rw [xrV_mk]
      rw [if_pos e43] at h
      exact fin τ2 _ hτ2 (by rw [List.length_append, List.length_singleton]; omega) h
    · rw [if_pos (fun a => e43 ((nI_eq (by omega) (by omega)).mp a))]
      rw [if_neg e43, List.append_nil] at h
      exact fin _ _ hs3 (by omega) h
  refine t_M_behindOne_3 ?_
  rw [if_pos (show oI none < 0 from by decide), mg_10]
  rcases hmk with ⟨g1, g2⟩ | ⟨g1, g2⟩
  · subst g1
    rw [if_neg (not_not_intro ((sg 41 (by omega) (by omega) (by omega)).mpr g2)), if_pos rfl]
    exact k9
  · subst g1
    rw [if_pos (fun a => by have := (sg 41 (by omega) (by omega) (by omega)).mp a; omega)]
    refine t_M_behindOne_7 (kw_3 (k := 406) htk hp (by omega) (by omega) (by omega) (by omega) (by omega) (by omega) (by decide) ?_)
    rw [if_pos g2, if_neg (by decide), if_neg (not_not_intro rfl)]
    exact k9
/-- a turn: ? or : -/
theorem c_M_behind_tn {mk : Nat} {S P1 : List Nat} {o1 : Nat} (hs : stM σ0 σ b n t0 (S ++ mk :: P1) cd (o1 + cntO S) i w) (hmk : (mk = 41 ∧ tkT b n i = 63 ∧ cpB S = true) ∨ (mk = 42 ∧ tkT b n i = 58)) (hl : cd.length + S.length ≤ 301) (ho : o1 + cntO S ≤ 100) (hS : ∀ p, p ∈ S → 1 ≤ rkN p) (h : ∀ σ', stM σ0 σ' b n t0 ((mk + 1) :: P1) (cd ++ ops S) o1 (i + 1) 0 → Q (some (.int (nI 1))) (mM q M0 σ')) : xEv xP (xprim sa) (d + 4) m_M_behindOne [.ref q, .int (if e then 1 else 0)] (mM q M0 σ) Q := by
  refine c_M_behind3 (o' := 0) (e := e) hs ?_
  have htk := hs.2.2.2.2.2.1
  have hp := hs.2.1
  have sg := fun c h1 h2 h3 => tk_sign htk hp (c := c) h1 h2 h3
  have hS40 : ∀ p, p ∈ S → p < 40 := fun p hp => rkN_40 (hS p hp)
  have em : mkP (S ++ mk :: P1) = nI P1.length := by
    rw [mkP_a S hS40]
    exact if_pos (by omega)
  have ek : ∀ e, koN e (S ++ mk :: P1) = mk := by
    intro e
    rw [koN_a S hS40]
    exact if_pos (by omega)
  have hlen := hs.2.2.1.2.1
  rw [List.length_append, List.length_cons] at hlen
  have ekd : kdI (S ++ mk :: P1) = nI mk := by
    unfold kdI
    rw [em, if_neg (nI_m1 (by omega)), ek]
  have eb : betN e (S ++ mk :: P1) (tkT b n i) = none := by
    unfold betN
    rw [ek, if_neg (by omega), if_neg (by omega), if_neg (by omega), if_neg (by omega)]
    rcases hmk with ⟨g1, g2, g3⟩ | ⟨g1, g2⟩
    · rw [if_pos g1, if_pos (cpB_t S g3), if_neg (by omega), if_neg (by omega)]
    · rw [if_neg (by omega)]
  rw [eb, ekd, em]
  have nt : ∀ τ : mS, stM σ0 τ b n t0 (mk :: P1) (cd ++ ops S) o1 i w → (xgfR (mM q M0 τ) q 12 17 fun v2 => xsI (mM q M0 τ) v2 (nI P1.length) (nI mk + nI 1) fun M3 => (nI 0 = 0 ∨ nI 0 = 1) ∧ xpf M3 q 12 20 (.int (nI 0)) fun M4 => xobj M4 q 12 ∧ xEv xP (xprim sa) (d + 3) m_M_nextToken [.ref q] M4 (xrV fun M5 => (nI 1 = 0 ∨ nI 1 = 1) ∧ Q (some (.int (nI 1))) M5)) := by
    intro τ hτ
    rw [mg_17, ms_5, nI_cl (by omega), nI_add]
    refine ⟨vp_in_nI (by omega) (by omega), Or.inl rfl, ?_⟩
    rw [mp_20]
    have hs3 : stM σ0 (mA τ 5 (upd (τ.2.2.1 5) P1.length (nI (mk + 1)))) b n t0 ((mk + 1) :: P1) (cd ++ ops S) o1 i w := by
      obtain ⟨h1, h2, h3, h4, h5, h6, h7⟩ := hτ
      refine ⟨frP_t h1 frP_5, h2, ⟨h3.1, h3.2.1, fun j x hx => ?_⟩, h4, h5, h6, h7⟩
      show upd (τ.2.2.1 5) P1.length (nI (mk + 1)) (((mk + 1) :: P1).length - 1 - j) = _ ∧ _
      rw [List.length_cons]
      cases j with
      | zero =>
        have hx : mk + 1 = x := Option.some.inj hx
        rw [show P1.length + 1 - 1 - 0 = P1.length by omega, upd_s, hx]
        exact ⟨rfl, by omega⟩
      | succ j =>
        have := gt_lt (show P1[j]? = some x from hx)
        rw [upd_n (by omega)]
        have := h3.2.2 (j + 1) x hx
        rw [List.length_cons] at this
        exact this
    refine ⟨mo_q, st_next (st_F20 (v := 0) hs3) (fun τ3 hτ3 => ?_)⟩
    rw [xrV_mk]
    exact ⟨Or.inr rfl, h τ3 hτ3⟩
  have stl : ∀ (K : xM → Prop), (∀ τ : mS, stM σ0 τ b n t0 (mk :: P1) (cd ++ ops S) o1 i w → K (mM q M0 τ)) → xobj (mM q M0 σ) q 12 ∧ xEv xP (xprim sa) (d + 3) m_M_settle [.ref q, .int (nI 1)] (mM q M0 σ) (xrV K) := by
    intro K hK
    exact ⟨mo_q, st_settle (r := 1) (by omega) hs hl ho hS (by show rkN mk < 1; rcases hmk with ⟨g, _⟩ | ⟨g, _⟩ <;> subst g <;> decide) (fun τ hτ => hK τ hτ)⟩
  refine t_M_behindOne_3 ?_
  rw [if_pos (show oI none < 0 from by decide), mg_10, if_pos (fun a => by have := (sg 41 (by omega) (by omega) (by omega)).mp a; omega)]
  refine t_M_behindOne_7 (kw_3 (k := 406) htk hp (by omega) (by omega) (by omega) (by omega) (by omega) (by omega) (by decide) ?_)
  rw [if_neg (show ¬ tkT b n i = 406 by omega), if_pos (by decide)]
  refine t_M_behindOne_12 ?_
  rw [mg_10]
  rcases hmk with ⟨g1, g2, g3⟩ | ⟨g1, g2⟩
  · subst g1
    rw [if_neg (not_not_intro ((sg 63 (by omega) (by omega) (by omega)).mpr g2)), if_neg (not_not_intro rfl)]
    refine ⟨mo_q, c_M_isCompared hs.2.2.1 ?_⟩
    rw [xrI_mk, cpB_t S g3, if_pos rfl, if_pos (by decide)]
    exact stl _ nt
  · subst g1
    rw [if_pos (fun a => by have := (sg 63 (by omega) (by omega) (by omega)).mp a; omega)]
    refine t_M_behindOne_15 ?_
    rw [mg_10, if_neg (not_not_intro ((sg 58 (by omega) (by omega) (by omega)).mpr g2)), if_neg (not_not_intro rfl)]
    exact stl _ nt
/-- nothing fits -/
theorem c_M_behind_no (hs : stM σ0 σ b n t0 P cd o i w) (hb : betN e P (tkT b n i) = none) (h1 : tkT b n i = 41 → ¬ kdI P = nI 40) (h2 : tkT b n i = 406 → ¬ kdI P = nI 43) (h3 : tkT b n i = 63 → ¬ (kdI P = nI 41 ∧ cpB P = true)) (h4 : tkT b n i = 58 → ¬ kdI P = nI 42) (h : Q (some (.int (nI 0))) (mM q M0 σ)) : xEv xP (xprim sa) (d + 4) m_M_behindOne [.ref q, .int (if e then 1 else 0)] (mM q M0 σ) Q := by
  refine c_M_behind3 (o' := 0) (e := e) hs ?_
  have htk := hs.2.2.2.2.2.1
  have hp := hs.2.1
  have sg := fun c h1 h2 h3 => tk_sign htk hp (c := c) h1 h2 h3
  rw [hb]
  have k15 : K_M_behindOne sa (d + 3) Q 15 [some (.ref q), none, none, some (.int (mkP P)), some (.int (kdI P))] [] (mM q M0 σ) (0, 0) := by
    refine t_M_behindOne_15 ?_
    rw [mg_10]
    by_cases e58 : tkT b n i = 58
    · rw [if_neg (not_not_intro ((sg 58 (by omega) (by omega) (by omega)).mpr e58)), if_pos (h4 e58)]
      exact ⟨Or.inl rfl, h⟩
    · rw [if_pos (fun a => e58 ((sg 58 (by omega) (by omega) (by omega)).mp a))]
      exact ⟨Or.inl rfl, h⟩
  have k12 : K_M_behindOne sa (d + 3) Q 12 [some (.ref q), none, none, some (.int (mkP P)), some (.int (kdI P))] [] (mM q M0 σ) (0, 0) := by
    refine t_M_behindOne_12 ?_
    rw [mg_10]
    by_cases e63 : tkT b n i = 63
    · rw [if_neg (not_not_intro ((sg 63 (by omega) (by omega) (by omega)).mpr e63))]
      by_cases ek : kdI P = nI 41
      · rw [if_neg (not_not_intro ek)]
        refine ⟨mo_q, c_M_isCompared hs.2.2.1 ?_⟩
        rw [xrI_mk, if_neg (fun a => h3 e63 ⟨ek, a⟩), if_neg (by decide)]
        exact k15
      · rw [if_pos ek]
        exact k15
    · rw [if_pos (fun a => e63 ((sg 63 (by omega) (by omega) (by omega)).mp a))]
      exact k15
  have k7 : K_M_behindOne sa (d + 3) Q 7 [some (.ref q), none, none, some (.int (mkP P)), some (.int (kdI P))] [] (mM q M0 σ) (0, 0) := by
    refine t_M_behindOne_7 (kw_3 (k := 406) htk hp (by omega) (by omega) (by omega) (by omega) (by omega) (by omega) (by decide) ?_)
    by_cases e406 : tkT b n i = 406
    · rw [if_pos e406, if_neg (by decide), if_pos (h2 e406)]
      exact k12
    · rw [if_neg e406, if_pos (by decide)]
      exact k12
  refine t_M_behindOne_3 ?_
  rw [if_pos (show oI none < 0 from by decide), mg_10]
  by_cases e41 : tkT b n i = 41
  · rw [if_neg (not_not_intro ((sg 41 (by omega) (by omega) (by omega)).mpr e41)), if_neg (h1 e41)]
    exact k7
  · rw [if_pos (fun a => e41 ((sg 41 (by omega) (by omega) (by omega)).mp a))]
    exact k7
end MH
