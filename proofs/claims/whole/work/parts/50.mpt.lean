/-! the reference reads a part: the induction -/
section MPT
variable {sa : Nat → Nat} {d : Nat} {Q : xQ} {q : Nat} {M0 M : xM} {σ0 σ : mS} {b : Nat → Nat} {n t0 : Nat} {e : Bool}
theorem hs_tk : ∀ i, i ≤ tkP b n i → tkT b n i ≠ 0 → i + 1 ≤ tkP b n (i + 1) := fun _ => tk_i
theorem hn_tk : ∀ i, i ≤ tkP b n i → i ≤ n := fun _ => tk_n
/-- what a start gives -/
theorem ps_st {f m o i : Nat} {t a : Term} {j : Nat} (hm : m ≤ 9) (hl : lmB m = false) (hi : i ≤ tkP b n i) (hf : 10 * (n + 1 - i) + (9 - m) < f) (h : ps (tkT b n) (tkV b n) f m o i t = .inr (a, j)) : i < j ∧ j ≤ tkP b n j ∧ wf a (decide (m < 5)) ∧ (pf a).length + i ≤ j := by
  have g := ps_G (tk := tkT b n) (tv := tkV b n) hs_tk hn_tk f m o i t hm hi hf (fun q => by rw [hl] at q; exact nomatch q)
  rw [h] at g
  obtain ⟨g1, g2, g3, g4, g5⟩ := g
  have g6 := pf_cs a _ g4
  rw [hl] at g5
  have g5 : cs a + i ≤ 0 + j := g5
  exact ⟨g2 hl, g3, g4, by omega⟩
theorem pf_B {k : Nat} {x y : Term} : pf (tB k x y) = pf x ++ (pf y ++ [(k, 0)]) := rfl
theorem pf_U {k : Nat} {x : Term} : pf (tU k x) = pf x ++ [(k, 0)] := rfl
theorem pf_C {c x y : Term} : pf (tC c x y) = pf c ++ (pf x ++ (pf y ++ [(23, 0)])) := rfl
theorem ops_a {S S' : List Nat} : ops (S ++ S') = ops S ++ ops S' := List.map_append
theorem ops_len {S : List Nat} : (ops S).length = S.length := List.length_map _
/-- behind an operation and its right side: the same, one more pending -/
theorem hd_B {ρ k : Nat} {S S' : List Nat} {cd1 cd2 cd : cD} {t a : Term} (h1 : cd1 ++ ops S = cd ++ pf t) (h2 : hdM ρ S' cd2 (cd1 ++ ops S) a) {ρ' : Nat} (hr : ρ' ≤ ρ) (hk : ρ' ≤ rkN k) : hdM ρ' (S' ++ [k]) cd2 cd (tB k t a) := by
  refine ⟨fun p hp => ?_, ?_⟩
  · rw [List.mem_append, List.mem_singleton] at hp
    rcases hp with hp | hp
    · exact Nat.le_trans hr (h2.1 p hp)
    · rw [hp]; exact hk
  · rw [ops_a, ← List.append_assoc, h2.2, h1, pf_B]
    simp only [List.append_assoc]
    rfl
theorem mp_all (h300 : n ≤ 300) : ∀ f, mpS sa d Q q M0 e σ0 b n t0 f ∧ mpL sa d Q q M0 e σ0 b n t0 f ∧ mp9 sa d Q q M0 e σ0 b n t0 f := by
  intro f
  induction f with
  | zero => exact ⟨fun _ _ _ _ _ _ _ _ _ _ _ _ _ _ _ h => by omega, fun _ _ _ _ _ _ _ _ _ _ _ _ _ _ _ _ _ h => by omega, fun _ _ _ _ _ _ _ _ _ _ _ _ _ _ _ h => by omega⟩
  | succ f ih =>
    obtain ⟨ihS, ihL, ih9⟩ := ih
    refine ⟨?_, ?_, ?_⟩
    · -- the starts
      intro m o i t P cd σ hm hask hnot htop ho hlen hi hcd hf hs hX
      have hin := tk_n hi
      rcases hm with rfl | rfl | rfl | rfl | rfl
      · rw [ps_0] at hX
        refine ihS 2 o i t P cd σ (by omega) (fun _ => hask (by omega)) (fun q => by omega) (topB_m htop (by decide)) ho (by show _ ≤ 6 * o + 1; have : P.length ≤ 6 * o + 0 := hlen; omega) hi hcd (by omega) hs (mpX_B hX (fun a j hr hX' => ?_))
        have st := ps_st (by omega) rfl hi (by omega) hr
        have pp := ps_post f 2 o i t a j (by omega) (fun q => (nomatch q)) hr
        intro σ' S cd' hd hcp hoc hs'
        exact ihL 1 o j a P cd σ' S cd' (by omega) (fun _ => hask (by omega)) htop ho hlen st.2.1 (by omega) st.2.2.1 (by have := tk_n st.2.1; omega) ⟨fun p hp => Nat.le_trans (by decide) (hd.1 p hp), hd.2⟩ hcp hoc ⟨fun _ => pp.1 (by omega), fun _ => pp.2.1 (by omega), fun _ => pp.2.2.1 (by omega)⟩ hs' hX'
      · rw [ps_2] at hX
        refine ihS 4 o i t P cd σ (by omega) (fun _ => hask (by omega)) (fun q => by omega) (topB_m htop (by decide)) ho (by show _ ≤ 6 * o + 2; have : P.length ≤ 6 * o + 1 := hlen; omega) hi hcd (by omega) hs (mpX_B hX (fun a j hr hX' => ?_))
        have st := ps_st (by omega) rfl hi (by omega) hr
        have pp := ps_post f 4 o i t a j (by omega) (fun q => (nomatch q)) hr
        intro σ' S cd' hd hcp hoc hs'
        exact ihL 3 o j a P cd σ' S cd' (by omega) (fun _ => hask (by omega)) htop ho hlen st.2.1 (by omega) st.2.2.1 (by have := tk_n st.2.1; omega) ⟨fun p hp => Nat.le_trans (by decide) (hd.1 p hp), hd.2⟩ hcp hoc ⟨fun _ => pp.1 (by omega), fun _ => pp.2.1 (by omega), fun q => by omega⟩ hs' hX'
      · -- a question
        have hlen : P.length ≤ 6 * o + 2 := hlen
        have hask := hask (by omega)
        have hko := ask_ko hask
        have htop : topB 4 P := htop
        rw [ps_4] at hX
        by_cases e9 : tkT b n i = 409
        · rw [if_pos e9] at hX
          by_cases e8 : 8 ≤ o
          · rw [if_pos e8] at hX
            refine k_beg hs (c_M_beginOne (e := e) hs ho (by omega) (fun op v k o' P' hc => by omega) ⟨0, o, P, rfl, by omega, topB_m htop (by decide), by omega⟩ (fun g => by omega) (fun _ _ => ?_) (fun g => by omega) (fun g => absurd (Or.inr (Or.inr (Or.inr (Or.inr (Or.inr ⟨e9, hask⟩))))) g))
            rw [xrI_mk, if_neg (by decide)]
            exact hX σ (st_er hs)
          · rw [if_neg e8] at hX
            have hi1 := tk_i hi (show tkT b n i ≠ 0 by omega)
            have hin1 := tk_n hi1
            refine k_beg hs (c_M_beginOne (e := e) hs ho (by omega) (fun op v k o' P' hc => by omega) ⟨0, o, P, rfl, by omega, topB_m htop (by decide), by omega⟩ (fun g => by omega) (fun g => by omega) (fun _ op hc τ hτ => ?_) (fun g => absurd (Or.inr (Or.inr (Or.inr (Or.inr (Or.inr ⟨e9, hask⟩))))) g))
            have hop : op = 20 := by
              rcases hc with c | c | c | c
              · omega
              · omega
              · omega
              · exact c.2.2
            subst hop
            rw [xrI_mk, if_pos (by decide)]
            refine ihS 4 (o + 1) (i + 1) t (20 :: P) cd τ (by omega) (fun _ => ask_cons hko (by omega) (by decide) (by decide)) (fun g => by omega) (by show rkN 20 < 4; decide) (by omega) (by show P.length + 1 ≤ 6 * (o + 1) + 2; omega) hi1 (by omega) (by omega) hτ (mpX_B hX (fun a j hr hX' => ?_))
            intro σ' S cd' hd hcp hoc hs'
            have hcnt : cntO (S ++ [20]) = cntO S + 1 := cntO_a [20] S
            refine hX' σ' (S ++ [20]) cd' ⟨fun p hp => ?_, ?_⟩ (fun _ => cpB_t S (hcp rfl)) (by omega) ?_
            · rw [List.mem_append, List.mem_singleton] at hp
              rcases hp with hp | hp
              · exact hd.1 p hp
              · rw [hp]; decide
            · rw [ops_a, ← List.append_assoc, hd.2, pf_U, List.append_assoc]; rfl
            · rw [hcnt, List.append_assoc, show o + (cntO S + 1) = o + 1 + cntO S by omega]
              exact hs'
        · rw [if_neg e9] at hX
          refine ihS 5 o i t P cd σ (by omega) (fun q => by omega) (fun _ _ => e9) (topB_m htop (by decide)) ho (by show _ ≤ 6 * o + 3; omega) hi hcd (by omega) hs (mpX_B hX (fun a j hr hX' => ?_))
          have st := ps_st (by omega) rfl hi (by omega) hr
          have pp := ps_post f 5 o i t a j (by omega) (fun q => (nomatch q)) hr
          have hjn := tk_n st.2.1
          intro σ' S cd' hd hcp hoc hs'
          have hl := hd_len hd
          have hd1 : ∀ p, p ∈ S → 5 ≤ rkN p := hd.1
          have hcpf : cpB (S ++ P) = false := by
            rw [cpB_a S (fun p hp => Nat.lt_of_lt_of_le (by omega) (hd1 p hp))]
            exact cpB_top htop
          have hkoS : koN e (S ++ P) = 41 := by
            rw [koN_a S (fun p hp => rkN_40 (Nat.le_trans (by omega) (hd1 p hp)))]; exact hko
          by_cases ec : cmpK (tkT b n j) = 0
          · rw [if_pos ec] at hX'
            have hkd : ∀ c, c < 64 → c ≠ 41 → ¬ kdI (S ++ P) = nI c := by
              intro c hc hne g
              unfold kdI at g
              by_cases gm : mkP (S ++ P) = -1
              · rw [if_pos gm] at g
                exact nI_m1 (by omega) g.symm
              · rw [if_neg gm, koN_e gm (e := true) (e' := e), hkoS] at g
                exact hne ((nI_eq (by omega) (by omega)).mp g).symm
            refine k_err hs' ?_ (fun _ => hkd 40 (by omega) (by omega)) (fun _ => hkd 43 (by omega) (by omega)) (fun _ g => ?_) (fun _ => hkd 42 (by omega) (by omega)) ?_ (hX' σ' (st_er hs'))
            · rw [bet_4 (pp.2.1 (by omega)) (pp.1 (by omega)), if_pos hkoS, if_neg (by rw [hcpf]; decide), if_pos ec]
            · rw [hcpf] at g; exact nomatch g.2
            · by_cases gm : mkP (S ++ P) = -1
              · rcases mk_cases (e := e) (S ++ P) hs'.2.2.1 with ⟨g1, g2, g3⟩ | ⟨S', mk, P1, g1, g2, g3, g4, g5, g6, g7, g8⟩
                · refine Or.inr ⟨?_, hcpf⟩
                  rw [hkoS] at g2
                  cases e with
                  | true => rfl
                  | false => exact absurd g2 (by decide)
                · rw [g5] at gm; exact absurd gm (nI_m1 (by omega))
              · exact Or.inl gm
          · rw [if_neg ec] at hX'
            have hck := cmpK_r ec
            have hj1 := tk_i st.2.1 hck.2.2
            have hjn1 := tk_n hj1
            have hbet : betN e (S ++ P) (tkT b n j) = some (cmpK (tkT b n j)) := by
              rw [bet_4 (pp.2.1 (by omega)) (pp.1 (by omega)), if_pos hkoS, if_neg (by rw [hcpf]; decide), if_neg ec]
            refine k_beh hs' (c_M_behind_op hs' hbet (by omega) (by omega) (fun p hp => by rw [rk_cmp ec]; have := hd1 p hp; omega) (by rw [rk_cmp ec]; exact htop) (by omega) (fun τ hτ => ?_))
            rw [xrI_mk]
            refine ihS 5 o (j + 1) t (cmpK (tkT b n j) :: P) (cd' ++ ops S) τ (by omega) (fun q => by omega) (fun _ g => absurd g (ask_no (by omega) (by rw [rk_cmp ec]; omega))) (by show rkN _ < 5; rw [rk_cmp ec]; omega) ho (by show P.length + 1 ≤ 6 * o + 3; omega) hj1 (by rw [List.length_append, ops_len]; omega) (by omega) hτ (mpX_B hX' (fun a2 j2 hr2 hX2 => ?_))
            intro σ2 S2 cd2 hd2 hcp2 hoc2 hs2
            have hd21 : ∀ p, p ∈ S2 → 5 ≤ rkN p := hd2.1
            have hcm := cmpK_r ec
            have hcnt : cntO (S2 ++ [cmpK (tkT b n j)]) = cntO S2 := by
              rw [cntO_a]
              show cntO S2 + ((if cmpK (tkT b n j) = 2 ∨ cmpK (tkT b n j) = 20 then 1 else 0) + 0) = _
              rw [if_neg (by omega)]; rfl
            refine hX2 σ2 (S2 ++ [cmpK (tkT b n j)]) cd2 (hd_B hd.2 hd2 (by decide) (by rw [rk_cmp ec]; decide)) (fun _ => cpB_app (fun p hp => Nat.lt_of_lt_of_le (by omega) (hd21 p hp)) (rk_cmp ec)) (by omega) ?_
            rw [hcnt, List.append_assoc]
            exact hs2
      · rw [ps_5] at hX
        refine ihS 7 o i t P cd σ (by omega) (fun q => by omega) (fun _ => hnot (by omega)) (topB_m htop (by decide)) ho (by show _ ≤ 6 * o + 4; have : P.length ≤ 6 * o + 3 := hlen; omega) hi hcd (by omega) hs (mpX_B hX (fun a j hr hX' => ?_))
        have st := ps_st (by omega) rfl hi (by omega) hr
        have pp := ps_post f 7 o i t a j (by omega) (fun q => (nomatch q)) hr
        intro σ' S cd' hd hcp hoc hs'
        exact ihL 6 o j a P cd σ' S cd' (by omega) (fun q => by omega) htop ho hlen st.2.1 (by omega) st.2.2.1 (by have := tk_n st.2.1; omega) ⟨fun p hp => Nat.le_trans (by decide) (hd.1 p hp), hd.2⟩ hcp hoc ⟨fun _ => pp.1 (by omega), fun q => by omega, fun q => by omega⟩ hs' hX'
      · rw [ps_7] at hX
        refine ih9 o i t 0 o P cd σ (hnot (by omega)) (topB_m htop (by decide)) rfl ho (by show P.length ≤ 6 * o + 5; have : P.length ≤ 6 * o + 4 := hlen; omega) hi hcd (by omega) hs (mpX_B9 hX (fun a j hr hX' => ?_))
        have st := ps_st (by omega) rfl hi (by omega) hr
        intro σ' hs'
        have hs'' : stM σ0 σ' b n t0 P (cd ++ pf a) o j 1 := by
          rw [show cd ++ pf a ++ ops (rep2 0) = cd ++ pf a from List.append_nil _] at hs'
          exact hs'
        exact ihL 8 o j a P cd σ' [] (cd ++ pf a) (by omega) (fun q => by omega) htop ho hlen st.2.1 (by omega) st.2.2.1 (by have := tk_n st.2.1; omega) ⟨fun p hp => absurd hp List.not_mem_nil, List.append_nil _⟩ (fun q => (nomatch q)) (by show o + 0 ≤ 8; omega) ⟨fun q => by omega, fun q => by omega, fun q => by omega⟩ hs'' hX'
    · -- behind a first part
      intro m o i t P cd σ S cd' hm hask htop ho hlen hi hcd hw hf hd hcp hoc hpre hs hX
      have hin := tk_n hi
      have hl := hd_len hd
      rcases hm with rfl | rfl | rfl | rfl
      · rw [ps_1] at hX
        by_cases e7 : tkT b n i = 407
        · rw [if_pos e7] at hX
          have hask := hask (by omega)
          have hko := ask_ko hask
          have hi1 := tk_i hi (show tkT b n i ≠ 0 by omega)
          have hin1 := tk_n hi1
          have hd1 : ∀ p, p ∈ S → 1 ≤ rkN p := hd.1
          have hlen : P.length ≤ 6 * o + 0 := hlen
          have hkoS : koN e (S ++ P) = 41 := by rw [koN_a S (fun p hp => rkN_40 (hd1 p hp))]; exact hko
          have hbet : betN e (S ++ P) (tkT b n i) = some 22 := by
            rw [bet_4 (hpre.2.1 (by omega)) (hpre.1 (by omega)), if_pos hkoS, if_pos (cpB_t S (hcp rfl)), if_neg (by omega), if_pos e7]
          refine k_beh hs (c_M_behind_op hs hbet (by omega) (by omega) (fun p hp => hd1 p hp) htop (by omega) (fun τ hτ => ?_))
          rw [xrI_mk]
          refine ihS 2 o (i + 1) t (22 :: P) (cd' ++ ops S) τ (by omega) (fun _ => ask_cons hko (by omega) (by decide) (by decide)) (fun q => by omega) (by show rkN 22 < 2; decide) ho (by show P.length + 1 ≤ 6 * o + 1; omega) hi1 (by rw [List.length_append, ops_len]; omega) (by omega) hτ (mpX_B hX (fun a2 j2 hr2 hX2 => ?_))
          have st := ps_st (by omega) rfl hi1 (by omega) hr2
          have pp := ps_post f 2 o (i + 1) t a2 j2 (by omega) (fun q => (nomatch q)) hr2
          intro σ2 S2 cd2 hd2 hcp2 hoc2 hs2
          have hcnt : cntO (S2 ++ [22]) = cntO S2 := cntO_a [22] S2
          refine ihL 1 o j2 (tB 22 t a2) P cd σ2 (S2 ++ [22]) cd2 (by omega) (fun _ => hask) htop ho (by show _ ≤ 6 * o + 0; omega) st.2.1 (by rw [pf_B, List.length_append, List.length_append, List.length_singleton]; omega) (wf_lg (Or.inr rfl) hw st.2.2.1) (by have := tk_n st.2.1; omega) (hd_B hd.2 hd2 (by decide) (by decide)) (fun _ => cpB_t S2 (hcp2 rfl)) (by omega) ⟨fun _ => pp.1 (by omega), fun _ => pp.2.1 (by omega), fun _ => pp.2.2.1 (by omega)⟩ ?_ hX2
          rw [hcnt, List.append_assoc]; exact hs2
        · rw [if_neg e7] at hX
          exact hX σ S cd' hd hcp hoc hs
      · rw [ps_3] at hX
        by_cases e7 : tkT b n i = 408
        · rw [if_pos e7] at hX
          have hask := hask (by omega)
          have hko := ask_ko hask
          have hi1 := tk_i hi (show tkT b n i ≠ 0 by omega)
          have hin1 := tk_n hi1
          have hd1 : ∀ p, p ∈ S → 2 ≤ rkN p := hd.1
          have hlen : P.length ≤ 6 * o + 1 := hlen
          have hkoS : koN e (S ++ P) = 41 := by rw [koN_a S (fun p hp => rkN_40 (Nat.le_trans (by omega) (hd1 p hp)))]; exact hko
          have hbet : betN e (S ++ P) (tkT b n i) = some 21 := by
            rw [bet_4 (hpre.2.1 (by omega)) (hpre.1 (by omega)), if_pos hkoS, if_pos (cpB_t S (hcp rfl)), if_pos e7]
          refine k_beh hs (c_M_behind_op hs hbet (by omega) (by omega) (fun p hp => hd1 p hp) htop (by omega) (fun τ hτ => ?_))
          rw [xrI_mk]
          refine ihS 4 o (i + 1) t (21 :: P) (cd' ++ ops S) τ (by omega) (fun _ => ask_cons hko (by omega) (by decide) (by decide)) (fun q => by omega) (by show rkN 21 < 4; decide) ho (by show P.length + 1 ≤ 6 * o + 2; omega) hi1 (by rw [List.length_append, ops_len]; omega) (by omega) hτ (mpX_B hX (fun a2 j2 hr2 hX2 => ?_))
          have st := ps_st (by omega) rfl hi1 (by omega) hr2
          have pp := ps_post f 4 o (i + 1) t a2 j2 (by omega) (fun q => (nomatch q)) hr2
          intro σ2 S2 cd2 hd2 hcp2 hoc2 hs2
          have hcnt : cntO (S2 ++ [21]) = cntO S2 := cntO_a [21] S2
          refine ihL 3 o j2 (tB 21 t a2) P cd σ2 (S2 ++ [21]) cd2 (by omega) (fun _ => hask) htop ho (by show _ ≤ 6 * o + 1; omega) st.2.1 (by rw [pf_B, List.length_append, List.length_append, List.length_singleton]; omega) (wf_lg (Or.inl rfl) hw st.2.2.1) (by have := tk_n st.2.1; omega) (hd_B hd.2 hd2 (by decide) (by decide)) (fun _ => cpB_t S2 (hcp2 rfl)) (by omega) ⟨fun _ => pp.1 (by omega), fun _ => pp.2.1 (by omega), fun q => by omega⟩ ?_ hX2
          rw [hcnt, List.append_assoc]; exact hs2
        · rw [if_neg e7] at hX
          exact hX σ S cd' hd hcp hoc hs
      · rw [ps_6] at hX
        by_cases e7 : addK (tkT b n i) = 0
        · rw [if_pos e7] at hX
          exact hX σ S cd' hd hcp hoc hs
        · rw [if_neg e7] at hX
          have hk := addK_r e7
          have hrk := rk_add e7
          have hi1 := tk_i hi hk.2.2
          have hin1 := tk_n hi1
          have hd1 : ∀ p, p ∈ S → 5 ≤ rkN p := hd.1
          have hlen : P.length ≤ 6 * o + 3 := hlen
          refine k_beh hs (c_M_behind_op hs (bet_add e7) (by omega) (by omega) (fun p hp => by rw [hrk]; exact hd1 p hp) (by rw [hrk]; exact htop) (by omega) (fun τ hτ => ?_))
          rw [xrI_mk]
          refine ihS 7 o (i + 1) t (addK (tkT b n i) :: P) (cd' ++ ops S) τ (by omega) (fun q => by omega) (fun _ g => absurd g (ask_no (by omega) (by omega))) (by show rkN _ < 6; omega) ho (by show P.length + 1 ≤ 6 * o + 4; omega) hi1 (by rw [List.length_append, ops_len]; omega) (by omega) hτ (mpX_B hX (fun a2 j2 hr2 hX2 => ?_))
          have st := ps_st (by omega) rfl hi1 (by omega) hr2
          have pp := ps_post f 7 o (i + 1) t a2 j2 (by omega) (fun q => (nomatch q)) hr2
          intro σ2 S2 cd2 hd2 hcp2 hoc2 hs2
          have hcnt : cntO (S2 ++ [addK (tkT b n i)]) = cntO S2 := by
            rw [cntO_a]
            show cntO S2 + ((if addK (tkT b n i) = 2 ∨ addK (tkT b n i) = 20 then 1 else 0) + 0) = _
            rw [if_neg (by omega)]; rfl
          refine ihL 6 o j2 (tB (addK (tkT b n i)) t a2) P cd σ2 (S2 ++ [addK (tkT b n i)]) cd2 (by omega) (fun q => by omega) htop ho (by show _ ≤ 6 * o + 3; omega) st.2.1 (by rw [pf_B, List.length_append, List.length_append, List.length_singleton]; omega) (wf_ar hk.1 (by omega) hw st.2.2.1) (by have := tk_n st.2.1; omega) (hd_B hd.2 hd2 (by decide) (by rw [hrk]; decide)) (fun q => (nomatch q)) (by omega) ⟨fun _ => pp.1 (by omega), fun q => by omega, fun q => by omega⟩ ?_ hX2
          rw [hcnt, List.append_assoc]; exact hs2
      · rw [ps_8] at hX
        by_cases e7 : mulK (tkT b n i) = 0
        · rw [if_pos e7] at hX
          exact hX σ S cd' hd hcp hoc hs
        · rw [if_neg e7] at hX
          have hk := mulK_r e7
          have hrk := rk_mul e7
          have hi1 := tk_i hi hk.2.2
          have hin1 := tk_n hi1
          have hd1 : ∀ p, p ∈ S → 6 ≤ rkN p := hd.1
          have hlen : P.length ≤ 6 * o + 4 := hlen
          refine k_beh hs (c_M_behind_op hs (bet_mul e7) (by omega) (by omega) (fun p hp => by rw [hrk]; exact hd1 p hp) (by rw [hrk]; exact htop) (by omega) (fun τ hτ => ?_))
          rw [xrI_mk]
          refine ih9 o (i + 1) t 0 o (mulK (tkT b n i) :: P) (cd' ++ ops S) τ (fun g => absurd g (ask_no (by omega) (by omega))) (by show rkN _ < 7; omega) rfl ho (by show P.length + 1 ≤ 6 * o + 5; omega) hi1 (by rw [List.length_append, ops_len]; omega) (by omega) hτ (mpX_B9 hX (fun a2 j2 hr2 hX2 => ?_))
          have st := ps_st (by omega) rfl hi1 (by omega) hr2
          intro σ2 hs2
          have hs2' : stM σ0 σ2 b n t0 (mulK (tkT b n i) :: P) (cd' ++ ops S ++ pf a2) o j2 1 := by
            rw [show cd' ++ ops S ++ pf a2 ++ ops (rep2 0) = cd' ++ ops S ++ pf a2 from List.append_nil _] at hs2
            exact hs2
          have hcnt : cntO [mulK (tkT b n i)] = 0 := by
            show (if mulK (tkT b n i) = 2 ∨ mulK (tkT b n i) = 20 then 1 else 0) + 0 = _
            rw [if_neg (by omega)]
          refine ihL 8 o j2 (tB (mulK (tkT b n i)) t a2) P cd σ2 [mulK (tkT b n i)] (cd' ++ ops S ++ pf a2) (by omega) (fun q => by omega) htop ho (by show _ ≤ 6 * o + 4; omega) st.2.1 (by rw [pf_B, List.length_append, List.length_append, List.length_singleton]; omega) (wf_ar (by omega) (by omega) hw st.2.2.1) (by have := tk_n st.2.1; omega) ⟨fun p hp => ?_, ?_⟩ (fun q => (nomatch q)) (by omega) ⟨fun q => by omega, fun q => by omega, fun q => by omega⟩ ?_ hX2
          · rw [List.mem_singleton] at hp
            rw [hp, hrk]; decide
          · rw [hd.2, pf_B]
            simp only [List.append_assoc]
            rfl
          · rw [hcnt]; exact hs2'
    · -- one
      intro o i t k o' P' cd σ hnot htop hok ho hlen hi hcd hf hs hX
      have hin := tk_n hi
      rw [ps_9] at hX
      have h28 : ∀ T : Nat, tkT b n i = T → tkT b n i = T := fun _ h => h
      have hno9 : ¬ (tkT b n i = 409 ∧ askB e (rep2 k ++ P') = true) := fun a => hnot a.2 a.1
      have dec : ∃ (k1 o1 : Nat) (P1 : List Nat), rep2 k ++ P' = rep2 k1 ++ P1 ∧ o = o1 + k1 ∧ topB 7 P1 ∧ cd.length + k1 ≤ 300 := ⟨k, o', P', rfl, hok, htop, by omega⟩
      have uni : ∀ (k1 k2 : Nat) (P1 P2 : List Nat), topB 7 P1 → topB 7 P2 → rep2 k1 ++ P1 = rep2 k2 ++ P2 → k1 = k2 ∧ P1 = P2 := by
        intro k1
        induction k1 with
        | zero =>
          intro k2 P1 P2 h1 h2 he
          cases k2 with
          | zero => exact ⟨rfl, he⟩
          | succ k2 =>
            have he : P1 = 2 :: (rep2 k2 ++ P2) := he
            rw [he] at h1
            exact absurd h1 (by show ¬ rkN 2 < 7; decide)
        | succ k1 ihk =>
          intro k2 P1 P2 h1 h2 he
          cases k2 with
          | zero =>
            have he : 2 :: (rep2 k1 ++ P1) = P2 := he
            rw [← he] at h2
            exact absurd h2 (by show ¬ rkN 2 < 7; decide)
          | succ k2 =>
            have he : 2 :: (rep2 k1 ++ P1) = 2 :: (rep2 k2 ++ P2) := he
            have := ihk k2 P1 P2 h1 h2 (List.cons.inj he).2
            exact ⟨by omega, this.2⟩
      by_cases e1 : tkT b n i = 1
      · rw [if_pos e1] at hX
        by_cases ev : 9999 < tkV b n i
        · rw [if_pos ev] at hX
          refine k_beg hs (c_M_beginOne (e := e) hs ho (by omega) (fun op v k o' P' hc => by omega) dec (fun _ _ => ?_) (fun _ g => by omega) (fun _ op g => by omega) (fun g => absurd (Or.inl e1) g))
          rw [xrI_mk, if_neg (by decide)]
          exact hX σ (st_er hs)
        · rw [if_neg ev] at hX
          refine k_beg hs (c_M_beginOne (e := e) hs ho (by omega) (fun op v k1 o1 P1 hc he1 he2 ht1 τ hτ => ?_) dec (fun _ g => absurd g ev) (fun _ g => by omega) (fun _ op g => by omega) (fun g => absurd (Or.inl e1) g))
          obtain ⟨u1, u2⟩ := uni k k1 P' P1 htop ht1 he1
          subst u1 u2
          have u3 : o' = o1 := by omega
          subst u3
          rcases hc with c | c
          · obtain ⟨_, _, c1, c2⟩ := c
            subst c1 c2
            rw [xrI_mk, if_pos (by decide)]
            exact hX τ hτ
          · omega
      · rw [if_neg e1] at hX
        by_cases en : 410 ≤ tkT b n i ∧ tkT b n i ≤ 417
        · rw [if_pos en] at hX
          refine k_beg hs (c_M_beginOne (e := e) hs ho (by omega) (fun op v k1 o1 P1 hc he1 he2 ht1 τ hτ => ?_) dec (fun g => absurd g e1) (fun _ g => by omega) (fun _ op g => by omega) (fun g => absurd (Or.inr (Or.inl en)) g))
          obtain ⟨u1, u2⟩ := uni k k1 P' P1 htop ht1 he1
          subst u1 u2
          have u3 : o' = o1 := by omega
          subst u3
          rcases hc with c | c
          · omega
          · obtain ⟨_, _, c1, c2⟩ := c
            subst c1 c2
            rw [xrI_mk, if_pos (by decide)]
            exact hX τ hτ
        · rw [if_neg en] at hX
          by_cases eo : tkT b n i = 40 ∨ tkT b n i = 45 ∨ tkT b n i = 405
          · rw [if_pos eo] at hX
            by_cases e8 : 8 ≤ o
            · rw [if_pos e8] at hX
              refine k_beg hs (c_M_beginOne (e := e) hs ho (by omega) (fun op v k1 o1 P1 hc => by omega) dec (fun g => absurd g e1) (fun _ _ => ?_) (fun g => by omega) (fun g => ?_))
              · rw [xrI_mk, if_neg (by decide)]
                exact hX σ (st_er hs)
              · exfalso
                refine g ?_
                rcases eo with g | g | g
                · exact Or.inr (Or.inr (Or.inl g))
                · exact Or.inr (Or.inr (Or.inr (Or.inl g)))
                · exact Or.inr (Or.inr (Or.inr (Or.inr (Or.inl g))))
            · rw [if_neg e8] at hX
              have hi1 := tk_i hi (show tkT b n i ≠ 0 by omega)
              have hin1 := tk_n hi1
              -- an open
              have opn : ∀ op, (tkT b n i = 40 ∧ op = 40) ∨ (tkT b n i = 45 ∧ op = 2) ∨ (tkT b n i = 405 ∧ op = 41) → (∀ τ : mS, stM σ0 τ b n t0 (op :: (rep2 k ++ P')) cd (o + 1) (i + 1) 0 → K1 sa d Q q M0 e τ) → K1 sa d Q q M0 e σ := by
                intro op hop hK
                refine k_beg hs (c_M_beginOne (e := e) hs ho (by omega) (fun op v k1 o1 P1 hc => by omega) dec (fun g => absurd g e1) (fun g => absurd g e8) (fun _ op2 hc τ hτ => ?_) (fun g => ?_))
                · have : op2 = op := by
                    rcases hc with c | c | c | c
                    · omega
                    · omega
                    · omega
                    · exact absurd ⟨c.1, c.2.1⟩ hno9
                  subst this
                  rw [xrI_mk, if_pos (by decide)]
                  exact hK τ hτ
                · exfalso
                  refine g ?_
                  rcases eo with g | g | g
                  · exact Or.inr (Or.inr (Or.inl g))
                  · exact Or.inr (Or.inr (Or.inr (Or.inl g)))
                  · exact Or.inr (Or.inr (Or.inr (Or.inr (Or.inl g))))
              by_cases e40 : tkT b n i = 40
              · rw [if_pos e40] at hX
                refine opn 40 (Or.inl ⟨e40, rfl⟩) (fun τ hτ => ?_)
                refine ihS 5 (o + 1) (i + 1) t (40 :: (rep2 k ++ P')) cd τ (by omega) (fun q => by omega) (fun _ g => absurd g (ask_no (by omega) (by decide))) (by show rkN 40 < 5; decide) (by omega) (by show (rep2 k ++ P').length + 1 ≤ 6 * (o + 1) + 3; omega) hi1 (by omega) (by omega) hτ (mpX9_B hX (fun a j hr hX' => ?_))
                have st := ps_st (by omega) rfl hi1 (by omega) hr
                have pp := ps_post f 5 (o + 1) (i + 1) t a j (by omega) (fun q => (nomatch q)) hr
                have hjn := tk_n st.2.1
                intro σ' S cd' hd hcp hoc hs'
                have hl := hd_len hd
                have hd1 : ∀ p, p ∈ S → 5 ≤ rkN p := hd.1
                by_cases ec : tkT b n j = 41
                · rw [if_pos ec] at hX'
                  have hj1 := tk_i st.2.1 (show tkT b n j ≠ 0 by omega)
                  have hs2 : stM σ0 σ' b n t0 (S ++ 40 :: (rep2 k ++ P')) cd' (o' + k + 1 + cntO S) j 1 := by rw [← hok]; exact hs'
                  refine k_beh hs' (c_M_behind_cl hs2 (Or.inl ⟨rfl, ec⟩) (by have := tk_n hj1; omega) (by omega) (fun p hp => Nat.le_trans (by omega) (hd1 p hp)) htop (fun τ2 hτ2 => ?_))
                  rw [xrI_mk]
                  refine hX' τ2 ?_
                  rw [if_neg (by decide), List.append_nil, hd.2] at hτ2
                  exact hτ2
                · rw [if_neg ec] at hX'
                  exact k_err2 hs' (by omega) (fun p hp => Nat.le_trans (by omega) (hd1 p hp)) (pp.2.1 (by omega)) (pp.1 (by omega)) (fun g => by omega) (fun _ => ec) (fun g => by omega) (fun g => by omega) (hX' σ' (st_er hs'))
              · rw [if_neg e40] at hX
                by_cases e45 : tkT b n i = 45
                · rw [if_pos e45] at hX
                  refine opn 2 (Or.inr (Or.inl ⟨e45, rfl⟩)) (fun τ hτ => ?_)
                  refine ih9 (o + 1) (i + 1) t (k + 1) o' P' cd τ (fun g => absurd g (ask_no (by omega) (by decide))) htop (by omega) (by omega) (by show (rep2 k ++ P').length + 1 ≤ 6 * (o + 1) + 5; omega) hi1 (by omega) (by omega) hτ (mpX9_B9 hX (fun a j hr hX' => ?_))
                  intro σ' hs'
                  refine hX' σ' ?_
                  rw [show cd ++ pf a ++ ops (rep2 (k + 1)) = cd ++ pf (tU 2 a) ++ ops (rep2 k) by rw [pf_U]; simp only [List.append_assoc]; rfl] at hs'
                  exact hs'
                · rw [if_neg e45] at hX
                  refine opn 41 (Or.inr (Or.inr ⟨by omega, rfl⟩)) (fun τ hτ => ?_)
                  refine ihS 0 (o + 1) (i + 1) t (41 :: (rep2 k ++ P')) cd τ (by omega) (fun _ => ask_41) (fun q => by omega) (by show rkN 41 < 1; decide) (by omega) (by show (rep2 k ++ P').length + 1 ≤ 6 * (o + 1) + 0; omega) hi1 (by omega) (by omega) hτ (mpX9_B hX (fun c j hr hX' => ?_))
                  have st := ps_st (by omega) rfl hi1 (by omega) hr
                  have pp := ps_post f 0 (o + 1) (i + 1) t c j (by omega) (fun q => (nomatch q)) hr
                  have hjn := tk_n st.2.1
                  intro σ' S cd' hd hcp hoc hs'
                  have hl := hd_len hd
                  have hd1 : ∀ p, p ∈ S → 1 ≤ rkN p := hd.1
                  by_cases ec : tkT b n j = 63
                  · rw [if_pos ec] at hX'
                    have hj1 := tk_i st.2.1 (show tkT b n j ≠ 0 by omega)
                    have hjn1 := tk_n hj1
                    refine k_beh hs' (c_M_behind_tn hs' (Or.inl ⟨rfl, ec, hcp rfl⟩) (by omega) (by omega) hd1 (fun τ2 hτ2 => ?_))
                    rw [xrI_mk]
                    refine ihS 5 (o + 1) (j + 1) t (42 :: (rep2 k ++ P')) (cd' ++ ops S) τ2 (by omega) (fun q => by omega) (fun _ g => absurd g (ask_no (by omega) (by decide))) (by show rkN 42 < 5; decide) (by omega) (by show (rep2 k ++ P').length + 1 ≤ 6 * (o + 1) + 3; omega) hj1 (by rw [List.length_append, ops_len]; omega) (by omega) hτ2 (mpX9_B hX' (fun a u hr2 hX2 => ?_))
                    have st2 := ps_st (by omega) rfl hj1 (by omega) hr2
                    have pp2 := ps_post f 5 (o + 1) (j + 1) t a u (by omega) (fun q => (nomatch q)) hr2
                    have hun := tk_n st2.2.1
                    intro σ2 S2 cd2 hd2 hcp2 hoc2 hs2
                    have hl2 := hd_len hd2
                    rw [List.length_append, ops_len] at hl2
                    have hd21 : ∀ p, p ∈ S2 → 5 ≤ rkN p := hd2.1
                    by_cases ec2 : tkT b n u = 58
                    · rw [if_pos ec2] at hX2
                      have hu1 := tk_i st2.2.1 (show tkT b n u ≠ 0 by omega)
                      have hun1 := tk_n hu1
                      refine k_beh hs2 (c_M_behind_tn hs2 (Or.inr ⟨rfl, ec2⟩) (by omega) (by omega) (fun p hp => Nat.le_trans (by omega) (hd21 p hp)) (fun τ3 hτ3 => ?_))
                      rw [xrI_mk]
                      refine ihS 5 (o + 1) (u + 1) t (43 :: (rep2 k ++ P')) (cd2 ++ ops S2) τ3 (by omega) (fun q => by omega) (fun _ g => absurd g (ask_no (by omega) (by decide))) (by show rkN 43 < 5; decide) (by omega) (by show (rep2 k ++ P').length + 1 ≤ 6 * (o + 1) + 3; omega) hu1 (by rw [List.length_append, ops_len]; omega) (by omega) hτ3 (mpX9_B hX2 (fun y v hr3 hX3 => ?_))
                      have st3 := ps_st (by omega) rfl hu1 (by omega) hr3
                      have pp3 := ps_post f 5 (o + 1) (u + 1) t y v (by omega) (fun q => (nomatch q)) hr3
                      have hvn := tk_n st3.2.1
                      intro σ3 S3 cd3 hd3 hcp3 hoc3 hs3
                      have hl3 := hd_len hd3
                      rw [List.length_append, ops_len] at hl3
                      have hd31 : ∀ p, p ∈ S3 → 5 ≤ rkN p := hd3.1
                      by_cases ec3 : tkT b n v = 406
                      · rw [if_pos ec3] at hX3
                        have hv1 := tk_i st3.2.1 (show tkT b n v ≠ 0 by omega)
                        have hs4 : stM σ0 σ3 b n t0 (S3 ++ 43 :: (rep2 k ++ P')) cd3 (o' + k + 1 + cntO S3) v 1 := by rw [← hok]; exact hs3
                        refine k_beh hs3 (c_M_behind_cl hs4 (Or.inr ⟨rfl, ec3⟩) (by have := tk_n hv1; omega) (by omega) (fun p hp => Nat.le_trans (by omega) (hd31 p hp)) htop (fun τ5 hτ5 => ?_))
                        rw [xrI_mk]
                        refine hX3 τ5 ?_
                        rw [if_pos rfl, hd3.2, hd2.2, hd.2] at hτ5
                        rw [pf_C]
                        simp only [List.append_assoc] at hτ5 ⊢
                        exact hτ5
                      · rw [if_neg ec3] at hX3
                        exact k_err2 hs3 (by omega) (fun p hp => Nat.le_trans (by omega) (hd31 p hp)) (pp3.2.1 (by omega)) (pp3.1 (by omega)) (fun g => by omega) (fun g => by omega) (fun g => by omega) (fun _ => ec3) (hX3 σ3 (st_er hs3))
                    · rw [if_neg ec2] at hX2
                      exact k_err2 hs2 (by omega) (fun p hp => Nat.le_trans (by omega) (hd21 p hp)) (pp2.2.1 (by omega)) (pp2.1 (by omega)) (fun g => by omega) (fun g => by omega) (fun _ => ec2) (fun g => by omega) (hX2 σ2 (st_er hs2))
                  · rw [if_neg ec] at hX'
                    exact k_err2 hs' (by omega) hd1 (pp.2.1 (by omega)) (pp.1 (by omega)) (fun _ => ⟨hcp rfl, pp.2.2.1 (by omega), pp.2.2.2 (by omega), ec⟩) (fun g => by omega) (fun g => by omega) (fun g => by omega) (hX' σ' (st_er hs'))
          · rw [if_neg eo] at hX
            refine k_beg hs (c_M_beginOne (e := e) hs ho (by omega) (fun op v k1 o1 P1 hc => by omega) dec (fun g => absurd g e1) (fun _ g => ?_) (fun _ op g => ?_) (fun _ => ?_))
            · exfalso
              rcases g with g | g | g | g
              · omega
              · omega
              · omega
              · exact hno9 g
            · exfalso
              rcases g with g | g | g | g
              · omega
              · omega
              · omega
              · exact hno9 ⟨g.1, g.2.1⟩
            · rw [xrI_mk, if_neg (by decide)]
              exact hX σ (st_er hs)
end MPT
