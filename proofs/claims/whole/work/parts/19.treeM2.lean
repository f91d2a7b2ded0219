/-! printed by gent.py: what follows from an entry or a loop's head, up to the next -/
set_option maxRecDepth 100000 in
theorem t_M_sumOf_0 {sa : Nat → Nat} {d : Nat} {Q : xQ} {l0 : Nat} {l1 : Int32} {l2 : Int32} {l3 : Int32} {l4 : Int32} {M : xM} {u : xU} (h : K_M_sumOf sa d Q 1 [some (.ref l0), some (.int l1), some (.int l2), some (.int l3), some (.int l4), some (.int (nI 0))] [] M u) : K_M_sumOf sa d Q 0 [some (.ref l0), some (.int l1), some (.int l2), some (.int l3), some (.int l4), none] [] M u := b_M_sumOf_0 h
set_option maxRecDepth 100000 in
theorem t_M_sumOf_1 {sa : Nat → Nat} {d : Nat} {Q : xQ} {l0 : Nat} {l1 : Int32} {l2 : Int32} {l3 : Int32} {l4 : Int32} {l5 : Int32} {M : xM} {u : xU} (h : xobj M l0 12 ∧ xEv xP (xprim sa) d m_M_clauses [.ref l0] M (xrI fun r1 M1 => if r1 ≤ l5 then (Q (some (.int l4)) M1) else (xobj M1 l0 12 ∧ xEv xP (xprim sa) d m_M_sortAt [.ref l0, .int l5] M1 (xrI fun r2 M2 => if r2 = l1 then (xobj M2 l0 12 ∧ xEv xP (xprim sa) d m_M_work [.ref l0, .int l5] M2 (xrV fun M3 => xgfR M3 l0 12 23 fun v1 => (xaL M3 v1 (nI 0) fun v2 => (xEv xP (xprim sa) d m_M_held [.long v2, .int l2, .int l3] M3 (xrI fun r3 M4 => Q (some (.int r3)) M4))))) else K_M_sumOf sa d Q 1 [some (.ref l0), some (.int l1), some (.int l2), some (.int l3), some (.int l4), some (.int (l5 + (nI 1)))] [] M2 u)))) : K_M_sumOf sa d Q 1 [some (.ref l0), some (.int l1), some (.int l2), some (.int l3), some (.int l4), some (.int l5)] [] M u := by
  refine b_M_sumOf_1 ?_
  obtain ⟨hz, h⟩ := h
  refine ⟨hz, ?_⟩
  refine xEv_post' _ _ _ _ _ (xrI_mono (fun _ _ h => ?_)) h
  refine xite_mono (fun h => ?_) (fun h => ?_) h
  · exact b_M_sumOf_6 h
  · refine b_M_sumOf_2 ?_
    obtain ⟨hz, h⟩ := h
    refine ⟨hz, ?_⟩
    refine xEv_post' _ _ _ _ _ (xrI_mono (fun _ _ h => ?_)) h
    refine xite_mono (fun h => ?_) (fun h => ?_) h
    · exact b_M_sumOf_4 h
    · refine b_M_sumOf_3 ?_
      exact b_M_sumOf_5 h
theorem t_M_sumOf {sa : Nat → Nat} {d : Nat} {Q : xQ} {l0 : Nat} {l1 : Int32} {l2 : Int32} {l3 : Int32} {l4 : Int32} {M : xM} (h : K_M_sumOf sa d Q 1 [some (.ref l0), some (.int l1), some (.int l2), some (.int l3), some (.int l4), some (.int (nI 0))] [] M (0, 0)) : xEv xP (xprim sa) (d + 1) m_M_sumOf [.ref l0, .int l1, .int l2, .int l3, .int l4] M Q := e_M_sumOf (t_M_sumOf_0 h)
set_option maxRecDepth 100000 in
theorem t_M_pulls_0 {sa : Nat → Nat} {d : Nat} {Q : xQ} {l0 : Nat} {M : xM} {u : xU} (h : K_M_pulls sa d Q 1 [some (.ref l0), some (.int (nI 0))] [] M u) : K_M_pulls sa d Q 0 [some (.ref l0), none] [] M u := b_M_pulls_0 h
set_option maxRecDepth 100000 in
theorem t_M_pulls_1 {sa : Nat → Nat} {d : Nat} {Q : xQ} {l0 : Nat} {l1 : Int32} {M : xM} {u : xU} (h : xobj M l0 12 ∧ xEv xP (xprim sa) d m_M_clauses [.ref l0] M (xrI fun r1 M1 => if r1 ≤ l1 then (((nI 0) = 0 ∨ (nI 0) = 1) ∧ Q (some (.int (nI 0))) M1) else (xobj M1 l0 12 ∧ xEv xP (xprim sa) d m_M_sortAt [.ref l0, .int l1] M1 (xrI fun r2 M2 => if r2 = (nI 4) then (xobj M2 l0 12 ∧ xEv xP (xprim sa) d m_M_work [.ref l0, .int l1] M2 (xrV fun M3 => xgfR M3 l0 12 24 fun v1 => (xaZ M3 v1 (nI 0) fun v2 => (if v2 = 0 then K_M_pulls sa d Q 1 [some (.ref l0), some (.int (l1 + (nI 1)))] [] M3 u else (((nI 1) = 0 ∨ (nI 1) = 1) ∧ Q (some (.int (nI 1))) M3))))) else K_M_pulls sa d Q 1 [some (.ref l0), some (.int (l1 + (nI 1)))] [] M2 u)))) : K_M_pulls sa d Q 1 [some (.ref l0), some (.int l1)] [] M u := by
  refine b_M_pulls_1 ?_
  obtain ⟨hz, h⟩ := h
  refine ⟨hz, ?_⟩
  refine xEv_post' _ _ _ _ _ (xrI_mono (fun _ _ h => ?_)) h
  refine xite_mono (fun h => ?_) (fun h => ?_) h
  · exact b_M_pulls_7 h
  · refine b_M_pulls_2 ?_
    obtain ⟨hz, h⟩ := h
    refine ⟨hz, ?_⟩
    refine xEv_post' _ _ _ _ _ (xrI_mono (fun _ _ h => ?_)) h
    refine xite_mono (fun h => ?_) (fun h => ?_) h
    · refine b_M_pulls_4 ?_
      obtain ⟨hz, h⟩ := h
      refine ⟨hz, ?_⟩
      refine xEv_post' _ _ _ _ _ (xrV_mono (fun _ h => ?_)) h
      refine xgfR_mono (fun _ h => ?_) h
      refine xaZ_mono (fun _ h => ?_) h
      refine xite_mono (fun h => ?_) (fun h => ?_) h
      · exact b_M_pulls_6 h
      · exact b_M_pulls_5 h
    · refine b_M_pulls_3 ?_
      exact b_M_pulls_6 h
theorem t_M_pulls {sa : Nat → Nat} {d : Nat} {Q : xQ} {l0 : Nat} {M : xM} (h : K_M_pulls sa d Q 1 [some (.ref l0), some (.int (nI 0))] [] M (0, 0)) : xEv xP (xprim sa) (d + 1) m_M_pulls [.ref l0] M Q := e_M_pulls (t_M_pulls_0 h)
set_option maxRecDepth 100000 in
theorem t_M_asTold_0 {sa : Nat → Nat} {d : Nat} {Q : xQ} {l0 : Nat} {M : xM} {u : xU} (h : K_M_asTold sa d Q 1 [some (.ref l0), some (.int (nI 0))] [] M u) : K_M_asTold sa d Q 0 [some (.ref l0), none] [] M u := b_M_asTold_0 h
set_option maxRecDepth 100000 in
theorem t_M_asTold_1 {sa : Nat → Nat} {d : Nat} {Q : xQ} {l0 : Nat} {l1 : Int32} {M : xM} {u : xU} (h : if (nI 9) ≤ l1 then (Q none M) else (xgfR M l0 12 25 fun v1 => (xgfR M l0 12 0 fun v2 => (xaI M v2 ((nI 20) + l1) fun v3 => (xsI M v1 l1 v3 fun M1 => (xgfR M1 l0 12 26 fun v4 => (xgfR M1 l0 12 0 fun v5 => (xaI M1 v5 ((nI 10) + l1) fun v6 => (xsI M1 v4 l1 v6 fun M2 => (K_M_asTold sa d Q 1 [some (.ref l0), some (.int (l1 + (nI 1)))] [] M2 u)))))))))) : K_M_asTold sa d Q 1 [some (.ref l0), some (.int l1)] [] M u := by
  refine b_M_asTold_1 ?_
  refine xite_mono (fun h => ?_) (fun h => ?_) h
  · exact b_M_asTold_3 h
  · exact b_M_asTold_2 h
theorem t_M_asTold {sa : Nat → Nat} {d : Nat} {Q : xQ} {l0 : Nat} {M : xM} (h : K_M_asTold sa d Q 1 [some (.ref l0), some (.int (nI 0))] [] M (0, 0)) : xEv xP (xprim sa) (d + 1) m_M_asTold [.ref l0] M Q := e_M_asTold (t_M_asTold_0 h)
set_option maxRecDepth 100000 in
theorem t_M_name_0 {sa : Nat → Nat} {d : Nat} {Q : xQ} {l0 : Nat} {l1 : Nat} {l2 : Int32} {l3 : Int32} {M : xM} {u : xU} (h : xgfR M l0 12 22 fun v1 => (xsI M v1 (nI 0) l3 fun M1 => (xgfR M1 l0 12 22 fun v2 => (xaI M1 l1 ((l2 + (nI 2)) + l3) fun v3 => (xsI M1 v2 (nI 1) v3 fun M2 => (xgfR M2 l0 12 22 fun v4 => (xaI M2 l1 ((l2 + (nI 11)) + l3) fun v5 => (xsI M2 v4 (nI 2) v5 fun M3 => (xgfR M3 l0 12 22 fun v6 => (xaI M3 l1 ((l2 + (nI 20)) + l3) fun v7 => (xsI M3 v6 (nI 3) v7 fun M4 => (xgfR M4 l0 12 22 fun v8 => (xaI M4 l1 (l2 + (nI 1)) fun v9 => (xsI M4 v8 (nI 4) v9 fun M5 => (xgfR M5 l0 12 22 fun v10 => (xaI M5 l1 (l2 + (nI 0)) fun v11 => (xsI M5 v10 (nI 5) v11 fun M6 => (xgfR M6 l0 12 22 fun v12 => (xgfR M6 l0 12 25 fun v13 => (xaI M6 v13 l3 fun v14 => (xsI M6 v12 (nI 6) v14 fun M7 => (xgfR M7 l0 12 22 fun v15 => (xgfI M7 l0 12 2 fun v16 => (xsI M7 v15 (nI 7) v16 fun M8 => (Q none M8))))))))))))))))))))))))) : K_M_name sa d Q 0 [some (.ref l0), some (.ref l1), some (.int l2), some (.int l3)] [] M u := b_M_name_0 h
theorem t_M_name {sa : Nat → Nat} {d : Nat} {Q : xQ} {l0 : Nat} {l1 : Nat} {l2 : Int32} {l3 : Int32} {M : xM} (h : xgfR M l0 12 22 fun v1 => (xsI M v1 (nI 0) l3 fun M1 => (xgfR M1 l0 12 22 fun v2 => (xaI M1 l1 ((l2 + (nI 2)) + l3) fun v3 => (xsI M1 v2 (nI 1) v3 fun M2 => (xgfR M2 l0 12 22 fun v4 => (xaI M2 l1 ((l2 + (nI 11)) + l3) fun v5 => (xsI M2 v4 (nI 2) v5 fun M3 => (xgfR M3 l0 12 22 fun v6 => (xaI M3 l1 ((l2 + (nI 20)) + l3) fun v7 => (xsI M3 v6 (nI 3) v7 fun M4 => (xgfR M4 l0 12 22 fun v8 => (xaI M4 l1 (l2 + (nI 1)) fun v9 => (xsI M4 v8 (nI 4) v9 fun M5 => (xgfR M5 l0 12 22 fun v10 => (xaI M5 l1 (l2 + (nI 0)) fun v11 => (xsI M5 v10 (nI 5) v11 fun M6 => (xgfR M6 l0 12 22 fun v12 => (xgfR M6 l0 12 25 fun v13 => (xaI M6 v13 l3 fun v14 => (xsI M6 v12 (nI 6) v14 fun M7 => (xgfR M7 l0 12 22 fun v15 => (xgfI M7 l0 12 2 fun v16 => (xsI M7 v15 (nI 7) v16 fun M8 => (Q none M8))))))))))))))))))))))))) : xEv xP (xprim sa) (d + 1) m_M_name [.ref l0, .ref l1, .int l2, .int l3] M Q := e_M_name (t_M_name_0 h)
set_option maxRecDepth 100000 in
theorem t_M_says_0 {sa : Nat → Nat} {d : Nat} {Q : xQ} {l0 : Nat} {l1 : Nat} {l2 : Int32} {l3 : Int32} {M : xM} {u : xU} (h : xobj M l0 12 ∧ xEv xP (xprim sa) d m_M_name [.ref l0, .ref l1, .int l2, .int l3] M (xrV fun M1 => xgfR M1 l0 12 22 fun v1 => (xaI M1 v1 (nI 1) fun v2 => (if v2 ≤ (nI 9) then (xgfR M1 l0 12 22 fun v3 => (xaI M1 v3 (nI 1) fun v4 => (xobj M1 l0 12 ∧ xEv xP (xprim sa) d m_M_sumOf [.ref l0, .int (nI 3), .int (nI 0), .int (nI 9), .int v4] M1 (xrI fun r1 M2 => Q (some (.int r1)) M2)))) else (xobj M1 l0 12 ∧ xEv xP (xprim sa) d m_M_sumOf [.ref l0, .int (nI 3), .int (nI 0), .int (nI 9), .int (nI 9)] M1 (xrI fun r2 M3 => Q (some (.int r2)) M3)))))) : K_M_says sa d Q 0 [some (.ref l0), some (.ref l1), some (.int l2), some (.int l3)] [] M u := by
  refine b_M_says_0 ?_
  obtain ⟨hz, h⟩ := h
  refine ⟨hz, ?_⟩
  refine xEv_post' _ _ _ _ _ (xrV_mono (fun _ h => ?_)) h
  refine xgfR_mono (fun _ h => ?_) h
  refine xaI_mono (fun _ h => ?_) h
  refine xite_mono (fun h => ?_) (fun h => ?_) h
  · refine b_M_says_2 ?_
    refine xgfR_mono (fun _ h => ?_) h
    refine xaI_mono (fun _ h => ?_) h
    exact b_M_says_3 h
  · refine b_M_says_1 ?_
    exact b_M_says_3 h
theorem t_M_says {sa : Nat → Nat} {d : Nat} {Q : xQ} {l0 : Nat} {l1 : Nat} {l2 : Int32} {l3 : Int32} {M : xM} (h : xobj M l0 12 ∧ xEv xP (xprim sa) d m_M_name [.ref l0, .ref l1, .int l2, .int l3] M (xrV fun M1 => xgfR M1 l0 12 22 fun v1 => (xaI M1 v1 (nI 1) fun v2 => (if v2 ≤ (nI 9) then (xgfR M1 l0 12 22 fun v3 => (xaI M1 v3 (nI 1) fun v4 => (xobj M1 l0 12 ∧ xEv xP (xprim sa) d m_M_sumOf [.ref l0, .int (nI 3), .int (nI 0), .int (nI 9), .int v4] M1 (xrI fun r1 M2 => Q (some (.int r1)) M2)))) else (xobj M1 l0 12 ∧ xEv xP (xprim sa) d m_M_sumOf [.ref l0, .int (nI 3), .int (nI 0), .int (nI 9), .int (nI 9)] M1 (xrI fun r2 M3 => Q (some (.int r2)) M3)))))) : xEv xP (xprim sa) (d + 1) m_M_says [.ref l0, .ref l1, .int l2, .int l3] M Q := e_M_says (t_M_says_0 h)
set_option maxRecDepth 100000 in
theorem t_M_areOne_0 {sa : Nat → Nat} {d : Nat} {Q : xQ} {l0 : Nat} {l1 : Nat} {l2 : Int32} {M : xM} {u : xU} (h : K_M_areOne sa d Q 1 [some (.ref l0), some (.ref l1), some (.int l2), some (.int (-1 : Int32)), some (.int (nI 0)), none] [] M u) : K_M_areOne sa d Q 0 [some (.ref l0), some (.ref l1), some (.int l2), none, none, none] [] M u := b_M_areOne_0 h
set_option maxRecDepth 100000 in
theorem t_M_areOne_1 {sa : Nat → Nat} {d : Nat} {Q : xQ} {l0 : Nat} {l1 : Nat} {l2 : Int32} {l3 : Int32} {l4 : Int32} {M : xM} {u : xU} (h : xgfI M l0 12 2 fun v1 => (if v1 ≤ l4 then (((nI 1) = 0 ∨ (nI 1) = 1) ∧ Q (some (.int (nI 1))) M) else (xgfR M l0 12 26 fun v2 => (xaI M v2 l4 fun v3 => (if v3 = 0 then (xobj M l0 12 ∧ xEv xP (xprim sa) d m_M_says [.ref l0, .ref l1, .int l2, .int l4] M (xrI fun r1 M1 => if l3 < 0 then K_M_areOne sa d Q 1 [some (.ref l0), some (.ref l1), some (.int l2), some (.int r1), some (.int (l4 + (nI 1))), none] [] M1 u else (if r1 = l3 then K_M_areOne sa d Q 1 [some (.ref l0), some (.ref l1), some (.int l2), some (.int r1), some (.int (l4 + (nI 1))), none] [] M1 u else (((nI 0) = 0 ∨ (nI 0) = 1) ∧ Q (some (.int (nI 0))) M1)))) else K_M_areOne sa d Q 1 [some (.ref l0), some (.ref l1), some (.int l2), some (.int l3), some (.int (l4 + (nI 1))), none] [] M u))))) : K_M_areOne sa d Q 1 [some (.ref l0), some (.ref l1), some (.int l2), some (.int l3), some (.int l4), none] [] M u := by
  refine b_M_areOne_1 ?_
  refine xgfI_mono (fun _ h => ?_) h
  refine xite_mono (fun h => ?_) (fun h => ?_) h
  · exact b_M_areOne_9 h
  · refine b_M_areOne_2 ?_
    refine xgfR_mono (fun _ h => ?_) h
    refine xaI_mono (fun _ h => ?_) h
    refine xite_mono (fun h => ?_) (fun h => ?_) h
    · refine b_M_areOne_4 ?_
      obtain ⟨hz, h⟩ := h
      refine ⟨hz, ?_⟩
      refine xEv_post' _ _ _ _ _ (xrI_mono (fun _ _ h => ?_)) h
      refine xite_mono (fun h => ?_) (fun h => ?_) h
      · refine b_M_areOne_7 ?_
        exact b_M_areOne_8 h
      · refine b_M_areOne_5 ?_
        refine xite_mono (fun h => ?_) (fun h => ?_) h
        · refine b_M_areOne_7 ?_
          exact b_M_areOne_8 h
        · exact b_M_areOne_6 h
    · refine b_M_areOne_3 ?_
      exact b_M_areOne_8 h
theorem t_M_areOne {sa : Nat → Nat} {d : Nat} {Q : xQ} {l0 : Nat} {l1 : Nat} {l2 : Int32} {M : xM} (h : K_M_areOne sa d Q 1 [some (.ref l0), some (.ref l1), some (.int l2), some (.int (-1 : Int32)), some (.int (nI 0)), none] [] M (0, 0)) : xEv xP (xprim sa) (d + 1) m_M_areOne [.ref l0, .ref l1, .int l2] M Q := e_M_areOne (t_M_areOne_0 h)
set_option maxRecDepth 100000 in
theorem t_M_put_0 {sa : Nat → Nat} {d : Nat} {Q : xQ} {l0 : Nat} {l1 : Int32} {M : xM} {u : xU} (h : if l1 < 0 then (Q (some (.int (-1 : Int32))) M) else (xgfR M l0 12 0 fun v1 => (xaI M v1 ((nI 70) + l1) fun v2 => (if ¬ v2 = (nI 1) then (Q (some (.int l1)) M) else (Q (some (.int (-1 : Int32))) M))))) : K_M_put sa d Q 0 [some (.ref l0), some (.int l1)] [] M u := by
  refine b_M_put_0 ?_
  refine xite_mono (fun h => ?_) (fun h => ?_) h
  · refine b_M_put_2 ?_
    exact b_M_put_4 h
  · refine b_M_put_1 ?_
    refine xgfR_mono (fun _ h => ?_) h
    refine xaI_mono (fun _ h => ?_) h
    refine xite_mono (fun h => ?_) (fun h => ?_) h
    · refine b_M_put_3 ?_
      exact b_M_put_4 h
    · refine b_M_put_2 ?_
      exact b_M_put_4 h
theorem t_M_put {sa : Nat → Nat} {d : Nat} {Q : xQ} {l0 : Nat} {l1 : Int32} {M : xM} (h : if l1 < 0 then (Q (some (.int (-1 : Int32))) M) else (xgfR M l0 12 0 fun v1 => (xaI M v1 ((nI 70) + l1) fun v2 => (if ¬ v2 = (nI 1) then (Q (some (.int l1)) M) else (Q (some (.int (-1 : Int32))) M))))) : xEv xP (xprim sa) (d + 1) m_M_put [.ref l0, .int l1] M Q := e_M_put (t_M_put_0 h)
set_option maxRecDepth 100000 in
theorem t_M_write_0 {sa : Nat → Nat} {d : Nat} {Q : xQ} {l0 : Nat} {l1 : Nat} {l2 : Int32} {l3 : Int32} {l4 : Int32} {l5 : Int32} {l6 : Int32} {M : xM} {u : xU} (h : xobj M l0 12 ∧ xEv xP (xprim sa) d m_M_leftOf [.ref l0, .int l3] M (xrI fun r1 M1 => xobj M1 l0 12 ∧ xEv xP (xprim sa) d m_M_put [.ref l0, .int l4] M1 (xrI fun r2 M2 => xsI M2 l1 ((l2 + (nI 20)) + r1) r2 fun M3 => (xobj M3 l0 12 ∧ xEv xP (xprim sa) d m_M_rightOf [.ref l0, .int l3] M3 (xrI fun r3 M4 => xobj M4 l0 12 ∧ xEv xP (xprim sa) d m_M_put [.ref l0, .int l5] M4 (xrI fun r4 M5 => xsI M5 l1 ((l2 + (nI 11)) + r3) r4 fun M6 => (xaI M6 l1 (l2 + (nI 1)) fun v1 => (if l6 = 0 then (xsI M6 l1 (l2 + (nI 1)) (v1 + (nI 0)) fun M7 => (Q none M7)) else (xgfR M6 l0 12 0 fun v2 => (xaI M6 v2 ((nI 30) + l3) fun v3 => (if ¬ v3 = 0 then (xsI M6 l1 (l2 + (nI 1)) (v1 + (nI 0)) fun M8 => (Q none M8)) else (xsI M6 l1 (l2 + (nI 1)) (v1 + (nI 1)) fun M9 => (Q none M9))))))))))))) : K_M_write sa d Q 0 [some (.ref l0), some (.ref l1), some (.int l2), some (.int l3), some (.int l4), some (.int l5), some (.int l6)] [] M u := by
  refine b_M_write_0 ?_
  obtain ⟨hz, h⟩ := h
  refine ⟨hz, ?_⟩
  refine xEv_post' _ _ _ _ _ (xrI_mono (fun _ _ h => ?_)) h
  obtain ⟨hz, h⟩ := h
  refine ⟨hz, ?_⟩
  refine xEv_post' _ _ _ _ _ (xrI_mono (fun _ _ h => ?_)) h
  refine xsI_mono (fun _ h => ?_) h
  obtain ⟨hz, h⟩ := h
  refine ⟨hz, ?_⟩
  refine xEv_post' _ _ _ _ _ (xrI_mono (fun _ _ h => ?_)) h
  obtain ⟨hz, h⟩ := h
  refine ⟨hz, ?_⟩
  refine xEv_post' _ _ _ _ _ (xrI_mono (fun _ _ h => ?_)) h
  refine xsI_mono (fun _ h => ?_) h
  refine xaI_mono (fun _ h => ?_) h
  refine xite_mono (fun h => ?_) (fun h => ?_) h
  · refine b_M_write_3 ?_
    exact b_M_write_4 h
  · refine b_M_write_1 ?_
    refine xgfR_mono (fun _ h => ?_) h
    refine xaI_mono (fun _ h => ?_) h
    refine xite_mono (fun h => ?_) (fun h => ?_) h
    · refine b_M_write_3 ?_
      exact b_M_write_4 h
    · refine b_M_write_2 ?_
      exact b_M_write_4 h
theorem t_M_write {sa : Nat → Nat} {d : Nat} {Q : xQ} {l0 : Nat} {l1 : Nat} {l2 : Int32} {l3 : Int32} {l4 : Int32} {l5 : Int32} {l6 : Int32} {M : xM} (h : xobj M l0 12 ∧ xEv xP (xprim sa) d m_M_leftOf [.ref l0, .int l3] M (xrI fun r1 M1 => xobj M1 l0 12 ∧ xEv xP (xprim sa) d m_M_put [.ref l0, .int l4] M1 (xrI fun r2 M2 => xsI M2 l1 ((l2 + (nI 20)) + r1) r2 fun M3 => (xobj M3 l0 12 ∧ xEv xP (xprim sa) d m_M_rightOf [.ref l0, .int l3] M3 (xrI fun r3 M4 => xobj M4 l0 12 ∧ xEv xP (xprim sa) d m_M_put [.ref l0, .int l5] M4 (xrI fun r4 M5 => xsI M5 l1 ((l2 + (nI 11)) + r3) r4 fun M6 => (xaI M6 l1 (l2 + (nI 1)) fun v1 => (if l6 = 0 then (xsI M6 l1 (l2 + (nI 1)) (v1 + (nI 0)) fun M7 => (Q none M7)) else (xgfR M6 l0 12 0 fun v2 => (xaI M6 v2 ((nI 30) + l3) fun v3 => (if ¬ v3 = 0 then (xsI M6 l1 (l2 + (nI 1)) (v1 + (nI 0)) fun M8 => (Q none M8)) else (xsI M6 l1 (l2 + (nI 1)) (v1 + (nI 1)) fun M9 => (Q none M9))))))))))))) : xEv xP (xprim sa) (d + 1) m_M_write [.ref l0, .ref l1, .int l2, .int l3, .int l4, .int l5, .int l6] M Q := e_M_write (t_M_write_0 h)
set_option maxRecDepth 100000 in
theorem t_M_go_0 {sa : Nat → Nat} {d : Nat} {Q : xQ} {l0 : Nat} {l1 : Nat} {l2 : Int32} {l3 : Nat} {l4 : Int32} {M : xM} {u : xU} (h : xaI M l1 (l2 + (nI 0)) fun v1 => (xsI M l3 (l4 + (nI 0)) (v1 + (nI 1)) fun M1 => (xsI M1 l3 (l4 + (nI 1)) (nI 0) fun M2 => (K_M_go sa d Q 1 [some (.ref l0), some (.ref l1), some (.int l2), some (.ref l3), some (.int l4), some (.int (nI 0)), none] [] M2 u)))) : K_M_go sa d Q 0 [some (.ref l0), some (.ref l1), some (.int l2), some (.ref l3), some (.int l4), none, none] [] M u := b_M_go_0 h
set_option maxRecDepth 100000 in
theorem t_M_go_1 {sa : Nat → Nat} {d : Nat} {Q : xQ} {l0 : Nat} {l1 : Nat} {l2 : Int32} {l3 : Nat} {l4 : Int32} {l5 : Int32} {M : xM} {u : xU} (h : if (nI 9) ≤ l5 then K_M_go sa d Q 4 [some (.ref l0), some (.ref l1), some (.int l2), some (.ref l3), some (.int l4), some (.int (nI 0)), none] [] M u else (xaI M l1 ((l2 + (nI 2)) + l5) fun v1 => (xsI M l3 ((l4 + (nI 2)) + l5) v1 fun M1 => (xsI M1 l3 ((l4 + (nI 11)) + l5) (-1 : Int32) fun M2 => (xsI M2 l3 ((l4 + (nI 20)) + l5) (-1 : Int32) fun M3 => (K_M_go sa d Q 1 [some (.ref l0), some (.ref l1), some (.int l2), some (.ref l3), some (.int l4), some (.int (l5 + (nI 1))), none] [] M3 u)))))) : K_M_go sa d Q 1 [some (.ref l0), some (.ref l1), some (.int l2), some (.ref l3), some (.int l4), some (.int l5), none] [] M u := by
  refine b_M_go_1 ?_
  refine xite_mono (fun h => ?_) (fun h => ?_) h
  · exact b_M_go_3 h
  · exact b_M_go_2 h
set_option maxRecDepth 100000 in
theorem t_M_go_4 {sa : Nat → Nat} {d : Nat} {Q : xQ} {l0 : Nat} {l1 : Nat} {l2 : Int32} {l3 : Nat} {l4 : Int32} {l5 : Int32} {M : xM} {u : xU} (h : xgfI M l0 12 2 fun v1 => (if v1 ≤ l5 then (Q none M) else (xgfR M l0 12 26 fun v2 => (xaI M v2 l5 fun v3 => (if ¬ v3 = (nI 1) then (xgfR M l0 12 26 fun v4 => (xaI M v4 l5 fun v5 => (if ¬ v5 = 0 then K_M_go sa d Q 4 [some (.ref l0), some (.ref l1), some (.int l2), some (.ref l3), some (.int l4), some (.int (l5 + (nI 1))), none] [] M u else (xobj M l0 12 ∧ xEv xP (xprim sa) d m_M_name [.ref l0, .ref l1, .int l2, .int l5] M (xrV fun M1 => xgfR M1 l0 12 22 fun v6 => (xaI M1 v6 (nI 1) fun v7 => (xobj M1 l0 12 ∧ xEv xP (xprim sa) d m_M_sumOf [.ref l0, .int (nI 0), .int (nI 0), .int (nI 99), .int v7] M1 (xrI fun r1 M2 => xsI M2 l3 ((l4 + (nI 2)) + l5) r1 fun M3 => (xobj M3 l0 12 ∧ xEv xP (xprim sa) d m_M_sumOf [.ref l0, .int (nI 1), .int (-1 : Int32), .int (nI 99), .int (-1 : Int32)] M3 (xrI fun r2 M4 => xobj M4 l0 12 ∧ xEv xP (xprim sa) d m_M_sumOf [.ref l0, .int (nI 2), .int (-1 : Int32), .int (nI 99), .int (-1 : Int32)] M4 (xrI fun r3 M5 => xobj M5 l0 12 ∧ xEv xP (xprim sa) d m_M_pulls [.ref l0] M5 (xrI fun r4 M6 => xobj M6 l0 12 ∧ xEv xP (xprim sa) d m_M_write [.ref l0, .ref l3, .int l4, .int l5, .int r2, .int r3, .int r4] M6 (xrV fun M7 => K_M_go sa d Q 4 [some (.ref l0), some (.ref l1), some (.int l2), some (.ref l3), some (.int l4), some (.int (l5 + (nI 1))), none] [] M7 u))))))))))))) else (xgfR M l0 12 0 fun v8 => (xaI M v8 ((nI 40) + ((nI 3) * l5)) fun v9 => (xgfR M l0 12 0 fun v10 => (xaI M v10 (((nI 40) + ((nI 3) * l5)) + (nI 1)) fun v11 => (xgfR M l0 12 0 fun v12 => (xaI M v12 (((nI 40) + ((nI 3) * l5)) + (nI 2)) fun v13 => (if ¬ v13 = (nI 1) then (xobj M l0 12 ∧ xEv xP (xprim sa) d m_M_write [.ref l0, .ref l3, .int l4, .int l5, .int v9, .int v11, .int (nI 0)] M (xrV fun M8 => K_M_go sa d Q 4 [some (.ref l0), some (.ref l1), some (.int l2), some (.ref l3), some (.int l4), some (.int (l5 + (nI 1))), none] [] M8 u)) else (xobj M l0 12 ∧ xEv xP (xprim sa) d m_M_write [.ref l0, .ref l3, .int l4, .int l5, .int v9, .int v11, .int (nI 1)] M (xrV fun M9 => K_M_go sa d Q 4 [some (.ref l0), some (.ref l1), some (.int l2), some (.ref l3), some (.int l4), some (.int (l5 + (nI 1))), none] [] M9 u)))))))))))))) : K_M_go sa d Q 4 [some (.ref l0), some (.ref l1), some (.int l2), some (.ref l3), some (.int l4), some (.int l5), none] [] M u := by
  refine b_M_go_4 ?_
  refine xgfI_mono (fun _ h => ?_) h
  refine xite_mono (fun h => ?_) (fun h => ?_) h
  · exact b_M_go_13 h
  · refine b_M_go_5 ?_
    refine xgfR_mono (fun _ h => ?_) h
    refine xaI_mono (fun _ h => ?_) h
    refine xite_mono (fun h => ?_) (fun h => ?_) h
    · refine b_M_go_10 ?_
      refine xgfR_mono (fun _ h => ?_) h
      refine xaI_mono (fun _ h => ?_) h
      refine xite_mono (fun h => ?_) (fun h => ?_) h
      · exact b_M_go_12 h
      · refine b_M_go_11 ?_
        obtain ⟨hz, h⟩ := h
        refine ⟨hz, ?_⟩
        refine xEv_post' _ _ _ _ _ (xrV_mono (fun _ h => ?_)) h
        refine xgfR_mono (fun _ h => ?_) h
        refine xaI_mono (fun _ h => ?_) h
        obtain ⟨hz, h⟩ := h
        refine ⟨hz, ?_⟩
        refine xEv_post' _ _ _ _ _ (xrI_mono (fun _ _ h => ?_)) h
        refine xsI_mono (fun _ h => ?_) h
        obtain ⟨hz, h⟩ := h
        refine ⟨hz, ?_⟩
        refine xEv_post' _ _ _ _ _ (xrI_mono (fun _ _ h => ?_)) h
        obtain ⟨hz, h⟩ := h
        refine ⟨hz, ?_⟩
        refine xEv_post' _ _ _ _ _ (xrI_mono (fun _ _ h => ?_)) h
        obtain ⟨hz, h⟩ := h
        refine ⟨hz, ?_⟩
        refine xEv_post' _ _ _ _ _ (xrI_mono (fun _ _ h => ?_)) h
        obtain ⟨hz, h⟩ := h
        refine ⟨hz, ?_⟩
        refine xEv_post' _ _ _ _ _ (xrV_mono (fun _ h => ?_)) h
        exact b_M_go_12 h
    · refine b_M_go_6 ?_
      refine xgfR_mono (fun _ h => ?_) h
      refine xaI_mono (fun _ h => ?_) h
      refine xgfR_mono (fun _ h => ?_) h
      refine xaI_mono (fun _ h => ?_) h
      refine xgfR_mono (fun _ h => ?_) h
      refine xaI_mono (fun _ h => ?_) h
      refine xite_mono (fun h => ?_) (fun h => ?_) h
      · refine b_M_go_8 ?_
        refine b_M_go_9 ?_
        obtain ⟨hz, h⟩ := h
        refine ⟨hz, ?_⟩
        refine xEv_post' _ _ _ _ _ (xrV_mono (fun _ h => ?_)) h
        exact b_M_go_12 h
      · refine b_M_go_7 ?_
        refine b_M_go_9 ?_
        obtain ⟨hz, h⟩ := h
        refine ⟨hz, ?_⟩
        refine xEv_post' _ _ _ _ _ (xrV_mono (fun _ h => ?_)) h
        exact b_M_go_12 h
theorem t_M_go {sa : Nat → Nat} {d : Nat} {Q : xQ} {l0 : Nat} {l1 : Nat} {l2 : Int32} {l3 : Nat} {l4 : Int32} {M : xM} (h : xaI M l1 (l2 + (nI 0)) fun v1 => (xsI M l3 (l4 + (nI 0)) (v1 + (nI 1)) fun M1 => (xsI M1 l3 (l4 + (nI 1)) (nI 0) fun M2 => (K_M_go sa d Q 1 [some (.ref l0), some (.ref l1), some (.int l2), some (.ref l3), some (.int l4), some (.int (nI 0)), none] [] M2 (0, 0))))) : xEv xP (xprim sa) (d + 1) m_M_go [.ref l0, .ref l1, .int l2, .ref l3, .int l4] M Q := e_M_go (t_M_go_0 h)
set_option maxRecDepth 100000 in
theorem t_M_goOn_0 {sa : Nat → Nat} {d : Nat} {Q : xQ} {l0 : Nat} {M : xM} {u : xU} (h : xgfR M l0 12 27 fun v1 => (xgfR M l0 12 27 fun v2 => (xobj M l0 12 ∧ xEv xP (xprim sa) d m_M_go [.ref l0, .ref v1, .int (nI 0), .ref v2, .int (nI 30)] M (xrV fun M1 => K_M_goOn sa d Q 1 [some (.ref l0), some (.int (nI 0))] [] M1 u)))) : K_M_goOn sa d Q 0 [some (.ref l0), none] [] M u := b_M_goOn_0 h
set_option maxRecDepth 100000 in
theorem t_M_goOn_1 {sa : Nat → Nat} {d : Nat} {Q : xQ} {l0 : Nat} {l1 : Int32} {M : xM} {u : xU} (h : if (nI 30) ≤ l1 then (Q none M) else (xgfR M l0 12 27 fun v1 => (xgfR M l0 12 27 fun v2 => (xaI M v2 ((nI 30) + l1) fun v3 => (xsI M v1 l1 v3 fun M1 => (K_M_goOn sa d Q 1 [some (.ref l0), some (.int (l1 + (nI 1)))] [] M1 u)))))) : K_M_goOn sa d Q 1 [some (.ref l0), some (.int l1)] [] M u := by
  refine b_M_goOn_1 ?_
  refine xite_mono (fun h => ?_) (fun h => ?_) h
  · exact b_M_goOn_3 h
  · exact b_M_goOn_2 h
theorem t_M_goOn {sa : Nat → Nat} {d : Nat} {Q : xQ} {l0 : Nat} {M : xM} (h : xgfR M l0 12 27 fun v1 => (xgfR M l0 12 27 fun v2 => (xobj M l0 12 ∧ xEv xP (xprim sa) d m_M_go [.ref l0, .ref v1, .int (nI 0), .ref v2, .int (nI 30)] M (xrV fun M1 => K_M_goOn sa d Q 1 [some (.ref l0), some (.int (nI 0))] [] M1 (0, 0))))) : xEv xP (xprim sa) (d + 1) m_M_goOn [.ref l0] M Q := e_M_goOn (t_M_goOn_0 h)
set_option maxRecDepth 100000 in
theorem t_M_start_0 {sa : Nat → Nat} {d : Nat} {Q : xQ} {l0 : Nat} {M : xM} {u : xU} (h : xgfR M l0 12 0 fun v1 => (xaI M v1 (nI 190) fun v2 => (xgfR M l0 12 0 fun v3 => (xsI M v3 (nI 2) (nI 0) fun M1 => (xgfR M1 l0 12 0 fun v4 => (xobj M1 l0 12 ∧ xEv xP (xprim sa) d m_M_begin [.ref l0, .ref v4, .int (nI 190)] M1 (xrV fun M2 => Q (some (.int v2)) M2))))))) : K_M_start sa d Q 0 [some (.ref l0), none] [] M u := b_M_start_0 h
theorem t_M_start {sa : Nat → Nat} {d : Nat} {Q : xQ} {l0 : Nat} {M : xM} (h : xgfR M l0 12 0 fun v1 => (xaI M v1 (nI 190) fun v2 => (xgfR M l0 12 0 fun v3 => (xsI M v3 (nI 2) (nI 0) fun M1 => (xgfR M1 l0 12 0 fun v4 => (xobj M1 l0 12 ∧ xEv xP (xprim sa) d m_M_begin [.ref l0, .ref v4, .int (nI 190)] M1 (xrV fun M2 => Q (some (.int v2)) M2))))))) : xEv xP (xprim sa) (d + 1) m_M_start [.ref l0] M Q := e_M_start (t_M_start_0 h)
set_option maxRecDepth 100000 in
theorem t_M_keepHour_0 {sa : Nat → Nat} {d : Nat} {Q : xQ} {l0 : Nat} {M : xM} {u : xU} (h : xgfR M l0 12 0 fun v1 => (xaI M v1 (nI 2) fun v2 => (if ¬ v2 = (nI 40) then K_M_keepHour sa d Q 6 [some (.ref l0), some (.int (nI 0))] [] M u else K_M_keepHour sa d Q 2 [some (.ref l0), some (.int (nI 0))] [] M u))) : K_M_keepHour sa d Q 0 [some (.ref l0), none] [] M u := by
  refine b_M_keepHour_0 ?_
  refine xgfR_mono (fun _ h => ?_) h
  refine xaI_mono (fun _ h => ?_) h
  refine xite_mono (fun h => ?_) (fun h => ?_) h
  · exact b_M_keepHour_5 h
  · exact b_M_keepHour_1 h
set_option maxRecDepth 100000 in
theorem t_M_keepHour_2 {sa : Nat → Nat} {d : Nat} {Q : xQ} {l0 : Nat} {l1 : Int32} {M : xM} {u : xU} (h : if (nI 1170) ≤ l1 then (xgfR M l0 12 0 fun v1 => (xaI M v1 (nI 2) fun v2 => (xsI M v1 (nI 2) (v2 - (nI 1)) fun M1 => (K_M_keepHour sa d Q 6 [some (.ref l0), some (.int (nI 0))] [] M1 u)))) else (xgfR M l0 12 0 fun v3 => (xgfR M l0 12 0 fun v4 => (xaI M v4 ((nI 250) + l1) fun v5 => (xsI M v3 ((nI 220) + l1) v5 fun M2 => (K_M_keepHour sa d Q 2 [some (.ref l0), some (.int (l1 + (nI 1)))] [] M2 u)))))) : K_M_keepHour sa d Q 2 [some (.ref l0), some (.int l1)] [] M u := by
  refine b_M_keepHour_2 ?_
  refine xite_mono (fun h => ?_) (fun h => ?_) h
  · refine b_M_keepHour_4 ?_
    refine xgfR_mono (fun _ h => ?_) h
    refine xaI_mono (fun _ h => ?_) h
    refine xsI_mono (fun _ h => ?_) h
    exact b_M_keepHour_5 h
  · exact b_M_keepHour_3 h
set_option maxRecDepth 100000 in
theorem t_M_keepHour_6 {sa : Nat → Nat} {d : Nat} {Q : xQ} {l0 : Nat} {l1 : Int32} {M : xM} {u : xU} (h : if (nI 30) ≤ l1 then (xgfR M l0 12 0 fun v1 => (xaI M v1 (nI 2) fun v2 => (xsI M v1 (nI 2) (v2 + (nI 1)) fun M1 => (Q none M1)))) else (xgfR M l0 12 0 fun v3 => (xgfR M l0 12 0 fun v4 => (xaI M v4 (nI 2) fun v5 => (xgfR M l0 12 0 fun v6 => (xaI M v6 ((nI 190) + l1) fun v7 => (xsI M v3 (((nI 220) + ((nI 30) * v5)) + l1) v7 fun M2 => (K_M_keepHour sa d Q 6 [some (.ref l0), some (.int (l1 + (nI 1)))] [] M2 u)))))))) : K_M_keepHour sa d Q 6 [some (.ref l0), some (.int l1)] [] M u := by
  refine b_M_keepHour_6 ?_
  refine xite_mono (fun h => ?_) (fun h => ?_) h
  · exact b_M_keepHour_8 h
  · exact b_M_keepHour_7 h
theorem t_M_keepHour {sa : Nat → Nat} {d : Nat} {Q : xQ} {l0 : Nat} {M : xM} (h : xgfR M l0 12 0 fun v1 => (xaI M v1 (nI 2) fun v2 => (if ¬ v2 = (nI 40) then K_M_keepHour sa d Q 6 [some (.ref l0), some (.int (nI 0))] [] M (0, 0) else K_M_keepHour sa d Q 2 [some (.ref l0), some (.int (nI 0))] [] M (0, 0)))) : xEv xP (xprim sa) (d + 1) m_M_keepHour [.ref l0] M Q := e_M_keepHour (t_M_keepHour_0 h)
set_option maxRecDepth 100000 in
theorem t_M_hours_0 {sa : Nat → Nat} {d : Nat} {Q : xQ} {l0 : Nat} {l1 : Int32} {M : xM} {u : xU} (h : xEv xP (xprim sa) d m_M_isIn [.int l1, .int (nI 1), .int (nI 99)] M (xrI fun r1 M1 => if r1 = 0 then (Q (some (.int (-1 : Int32))) M1) else (xgfR M1 l0 12 0 fun v1 => (xaI M1 v1 (nI 190) fun v2 => (if (v2 + l1) ≤ (nI 999) then (xobj M1 l0 12 ∧ xEv xP (xprim sa) d m_M_asTold [.ref l0] M1 (xrV fun M2 => K_M_hours sa d Q 4 [some (.ref l0), some (.int l1), some (.int (nI 0)), none] [] M2 u)) else (Q (some (.int (-1 : Int32))) M1)))))) : K_M_hours sa d Q 0 [some (.ref l0), some (.int l1), none, none] [] M u := by
  refine b_M_hours_0 ?_
  refine xEv_post' _ _ _ _ _ (xrI_mono (fun _ _ h => ?_)) h
  refine xite_mono (fun h => ?_) (fun h => ?_) h
  · exact b_M_hours_2 h
  · refine b_M_hours_1 ?_
    refine xgfR_mono (fun _ h => ?_) h
    refine xaI_mono (fun _ h => ?_) h
    refine xite_mono (fun h => ?_) (fun h => ?_) h
    · exact b_M_hours_3 h
    · exact b_M_hours_2 h
set_option maxRecDepth 100000 in
theorem t_M_hours_4 {sa : Nat → Nat} {d : Nat} {Q : xQ} {l0 : Nat} {l1 : Int32} {l2 : Int32} {M : xM} {u : xU} (h : if l1 ≤ l2 then (xgfR M l0 12 0 fun v1 => (xaI M v1 (nI 190) fun v2 => (Q (some (.int v2)) M))) else (xobj M l0 12 ∧ xEv xP (xprim sa) d m_M_keepHour [.ref l0] M (xrV fun M1 => xgfR M1 l0 12 0 fun v3 => (xgfR M1 l0 12 27 fun v4 => (xobj M1 l0 12 ∧ xEv xP (xprim sa) d m_M_go [.ref l0, .ref v3, .int (nI 190), .ref v4, .int (nI 30)] M1 (xrV fun M2 => K_M_hours sa d Q 6 [some (.ref l0), some (.int l1), some (.int l2), some (.int (nI 0))] [] M2 u)))))) : K_M_hours sa d Q 4 [some (.ref l0), some (.int l1), some (.int l2), none] [] M u := by
  refine b_M_hours_4 ?_
  refine xite_mono (fun h => ?_) (fun h => ?_) h
  · exact b_M_hours_9 h
  · exact b_M_hours_5 h
set_option maxRecDepth 100000 in
theorem t_M_hours_6 {sa : Nat → Nat} {d : Nat} {Q : xQ} {l0 : Nat} {l1 : Int32} {l2 : Int32} {l3 : Int32} {M : xM} {u : xU} (h : if (nI 30) ≤ l3 then K_M_hours sa d Q 4 [some (.ref l0), some (.int l1), some (.int (l2 + (nI 1))), none] [] M u else (xgfR M l0 12 0 fun v1 => (xgfR M l0 12 27 fun v2 => (xaI M v2 ((nI 30) + l3) fun v3 => (xsI M v1 ((nI 190) + l3) v3 fun M1 => (K_M_hours sa d Q 6 [some (.ref l0), some (.int l1), some (.int l2), some (.int (l3 + (nI 1)))] [] M1 u)))))) : K_M_hours sa d Q 6 [some (.ref l0), some (.int l1), some (.int l2), some (.int l3)] [] M u := by
  refine b_M_hours_6 ?_
  refine xite_mono (fun h => ?_) (fun h => ?_) h
  · exact b_M_hours_8 h
  · exact b_M_hours_7 h
theorem t_M_hours {sa : Nat → Nat} {d : Nat} {Q : xQ} {l0 : Nat} {l1 : Int32} {M : xM} (h : xEv xP (xprim sa) d m_M_isIn [.int l1, .int (nI 1), .int (nI 99)] M (xrI fun r1 M1 => if r1 = 0 then (Q (some (.int (-1 : Int32))) M1) else (xgfR M1 l0 12 0 fun v1 => (xaI M1 v1 (nI 190) fun v2 => (if (v2 + l1) ≤ (nI 999) then (xobj M1 l0 12 ∧ xEv xP (xprim sa) d m_M_asTold [.ref l0] M1 (xrV fun M2 => K_M_hours sa d Q 4 [some (.ref l0), some (.int l1), some (.int (nI 0)), none] [] M2 (0, 0))) else (Q (some (.int (-1 : Int32))) M1)))))) : xEv xP (xprim sa) (d + 1) m_M_hours [.ref l0, .int l1] M Q := e_M_hours (t_M_hours_0 h)
set_option maxRecDepth 100000 in
theorem t_M_undo_0 {sa : Nat → Nat} {d : Nat} {Q : xQ} {l0 : Nat} {M : xM} {u : xU} (h : xgfR M l0 12 0 fun v1 => (xaI M v1 (nI 2) fun v2 => (if ¬ v2 = 0 then (xgfR M l0 12 0 fun v3 => (xaI M v3 (nI 2) fun v4 => (xsI M v3 (nI 2) (v4 - (nI 1)) fun M1 => (K_M_undo sa d Q 3 [some (.ref l0), some (.int (nI 0))] [] M1 u)))) else (Q (some (.int (-1 : Int32))) M)))) : K_M_undo sa d Q 0 [some (.ref l0), none] [] M u := by
  refine b_M_undo_0 ?_
  refine xgfR_mono (fun _ h => ?_) h
  refine xaI_mono (fun _ h => ?_) h
  refine xite_mono (fun h => ?_) (fun h => ?_) h
  · exact b_M_undo_2 h
  · exact b_M_undo_1 h
set_option maxRecDepth 100000 in
theorem t_M_undo_3 {sa : Nat → Nat} {d : Nat} {Q : xQ} {l0 : Nat} {l1 : Int32} {M : xM} {u : xU} (h : if (nI 30) ≤ l1 then (xgfR M l0 12 0 fun v1 => (xaI M v1 (nI 190) fun v2 => (Q (some (.int v2)) M))) else (xgfR M l0 12 0 fun v3 => (xgfR M l0 12 0 fun v4 => (xgfR M l0 12 0 fun v5 => (xaI M v5 (nI 2) fun v6 => (xaI M v4 (((nI 220) + ((nI 30) * v6)) + l1) fun v7 => (xsI M v3 ((nI 190) + l1) v7 fun M1 => (K_M_undo sa d Q 3 [some (.ref l0), some (.int (l1 + (nI 1)))] [] M1 u)))))))) : K_M_undo sa d Q 3 [some (.ref l0), some (.int l1)] [] M u := by
  refine b_M_undo_3 ?_
  refine xite_mono (fun h => ?_) (fun h => ?_) h
  · exact b_M_undo_5 h
  · exact b_M_undo_4 h
theorem t_M_undo {sa : Nat → Nat} {d : Nat} {Q : xQ} {l0 : Nat} {M : xM} (h : xgfR M l0 12 0 fun v1 => (xaI M v1 (nI 2) fun v2 => (if ¬ v2 = 0 then (xgfR M l0 12 0 fun v3 => (xaI M v3 (nI 2) fun v4 => (xsI M v3 (nI 2) (v4 - (nI 1)) fun M1 => (K_M_undo sa d Q 3 [some (.ref l0), some (.int (nI 0))] [] M1 (0, 0))))) else (Q (some (.int (-1 : Int32))) M)))) : xEv xP (xprim sa) (d + 1) m_M_undo [.ref l0] M Q := e_M_undo (t_M_undo_0 h)
set_option maxRecDepth 100000 in
theorem t_M_of_0 {sa : Nat → Nat} {d : Nat} {Q : xQ} {l0 : Nat} {l1 : Int32} {l2 : Int32} {M : xM} {u : xU} (h : xobj M l0 12 ∧ xEv xP (xprim sa) d m_M_isRoom [.ref l0, .int l1] M (xrI fun r1 M1 => if ¬ r1 = 0 then (xobj M1 l0 12 ∧ xEv xP (xprim sa) d m_M_asTold [.ref l0] M1 (xrV fun M2 => if l2 = (nI 0) then (xgfR M2 l0 12 0 fun v1 => (xaI M2 v1 ((nI 192) + l1) fun v2 => (Q (some (.int v2)) M2))) else (if l2 = (nI 1) then (xgfR M2 l0 12 0 fun v3 => (xaI M2 v3 ((nI 201) + l1) fun v4 => (Q (some (.int v4)) M2))) else (if l2 = (nI 2) then (xgfR M2 l0 12 0 fun v5 => (xaI M2 v5 ((nI 210) + l1) fun v6 => (Q (some (.int v6)) M2))) else (if l2 = (nI 3) then (xgfR M2 l0 12 0 fun v7 => (xobj M2 l0 12 ∧ xEv xP (xprim sa) d m_M_says [.ref l0, .ref v7, .int (nI 190), .int l1] M2 (xrI fun r2 M3 => Q (some (.int r2)) M3))) else (if l2 = (nI 4) then (xgfR M2 l0 12 0 fun v8 => (xaI M2 v8 ((nI 10) + l1) fun v9 => (Q (some (.int v9)) M2))) else (if l2 = (nI 5) then (xgfR M2 l0 12 0 fun v10 => (xaI M2 v10 ((nI 20) + l1) fun v11 => (Q (some (.int v11)) M2))) else (if l2 = (nI 6) then (xgfR M2 l0 12 0 fun v12 => (xaI M2 v12 ((nI 30) + l1) fun v13 => (Q (some (.int v13)) M2))) else (Q (some (.int (-2 : Int32))) M2))))))))) else (Q (some (.int (-2 : Int32))) M1))) : K_M_of sa d Q 0 [some (.ref l0), some (.int l1), some (.int l2)] [] M u := by
  refine b_M_of_0 ?_
  obtain ⟨hz, h⟩ := h
  refine ⟨hz, ?_⟩
  refine xEv_post' _ _ _ _ _ (xrI_mono (fun _ _ h => ?_)) h
  refine xite_mono (fun h => ?_) (fun h => ?_) h
  · refine b_M_of_2 ?_
    obtain ⟨hz, h⟩ := h
    refine ⟨hz, ?_⟩
    refine xEv_post' _ _ _ _ _ (xrV_mono (fun _ h => ?_)) h
    refine xite_mono (fun h => ?_) (fun h => ?_) h
    · exact b_M_of_3 h
    · refine xite_mono (fun h => ?_) (fun h => ?_) h
      · exact b_M_of_4 h
      · refine xite_mono (fun h => ?_) (fun h => ?_) h
        · exact b_M_of_5 h
        · refine xite_mono (fun h => ?_) (fun h => ?_) h
          · exact b_M_of_6 h
          · refine xite_mono (fun h => ?_) (fun h => ?_) h
            · exact b_M_of_7 h
            · refine xite_mono (fun h => ?_) (fun h => ?_) h
              · exact b_M_of_8 h
              · refine xite_mono (fun h => ?_) (fun h => ?_) h
                · exact b_M_of_9 h
                · exact b_M_of_10 h
  · exact b_M_of_1 h
theorem t_M_of {sa : Nat → Nat} {d : Nat} {Q : xQ} {l0 : Nat} {l1 : Int32} {l2 : Int32} {M : xM} (h : xobj M l0 12 ∧ xEv xP (xprim sa) d m_M_isRoom [.ref l0, .int l1] M (xrI fun r1 M1 => if ¬ r1 = 0 then (xobj M1 l0 12 ∧ xEv xP (xprim sa) d m_M_asTold [.ref l0] M1 (xrV fun M2 => if l2 = (nI 0) then (xgfR M2 l0 12 0 fun v1 => (xaI M2 v1 ((nI 192) + l1) fun v2 => (Q (some (.int v2)) M2))) else (if l2 = (nI 1) then (xgfR M2 l0 12 0 fun v3 => (xaI M2 v3 ((nI 201) + l1) fun v4 => (Q (some (.int v4)) M2))) else (if l2 = (nI 2) then (xgfR M2 l0 12 0 fun v5 => (xaI M2 v5 ((nI 210) + l1) fun v6 => (Q (some (.int v6)) M2))) else (if l2 = (nI 3) then (xgfR M2 l0 12 0 fun v7 => (xobj M2 l0 12 ∧ xEv xP (xprim sa) d m_M_says [.ref l0, .ref v7, .int (nI 190), .int l1] M2 (xrI fun r2 M3 => Q (some (.int r2)) M3))) else (if l2 = (nI 4) then (xgfR M2 l0 12 0 fun v8 => (xaI M2 v8 ((nI 10) + l1) fun v9 => (Q (some (.int v9)) M2))) else (if l2 = (nI 5) then (xgfR M2 l0 12 0 fun v10 => (xaI M2 v10 ((nI 20) + l1) fun v11 => (Q (some (.int v11)) M2))) else (if l2 = (nI 6) then (xgfR M2 l0 12 0 fun v12 => (xaI M2 v12 ((nI 30) + l1) fun v13 => (Q (some (.int v13)) M2))) else (Q (some (.int (-2 : Int32))) M2))))))))) else (Q (some (.int (-2 : Int32))) M1))) : xEv xP (xprim sa) (d + 1) m_M_of [.ref l0, .int l1, .int l2] M Q := e_M_of (t_M_of_0 h)
set_option maxRecDepth 100000 in
theorem t_M_agree_0 {sa : Nat → Nat} {d : Nat} {Q : xQ} {l0 : Nat} {M : xM} {u : xU} (h : xobj M l0 12 ∧ xEv xP (xprim sa) d m_M_asTold [.ref l0] M (xrV fun M1 => xgfR M1 l0 12 0 fun v1 => (xobj M1 l0 12 ∧ xEv xP (xprim sa) d m_M_areOne [.ref l0, .ref v1, .int (nI 190)] M1 (xrI fun r1 M2 => (r1 = 0 ∨ r1 = 1) ∧ Q (some (.int r1)) M2)))) : K_M_agree sa d Q 0 [some (.ref l0)] [] M u := b_M_agree_0 h
theorem t_M_agree {sa : Nat → Nat} {d : Nat} {Q : xQ} {l0 : Nat} {M : xM} (h : xobj M l0 12 ∧ xEv xP (xprim sa) d m_M_asTold [.ref l0] M (xrV fun M1 => xgfR M1 l0 12 0 fun v1 => (xobj M1 l0 12 ∧ xEv xP (xprim sa) d m_M_areOne [.ref l0, .ref v1, .int (nI 190)] M1 (xrI fun r1 M2 => (r1 = 0 ∨ r1 = 1) ∧ Q (some (.int r1)) M2)))) : xEv xP (xprim sa) (d + 1) m_M_agree [.ref l0] M Q := e_M_agree (t_M_agree_0 h)
set_option maxRecDepth 100000 in
theorem t_M_notesIn_0 {sa : Nat → Nat} {d : Nat} {Q : xQ} {l0 : Nat} {l1 : Nat} {l2 : Int32} {M : xM} {u : xU} (h : K_M_notesIn sa d Q 1 [some (.ref l0), some (.ref l1), some (.int l2), some (.int (nI 0)), some (.int (nI 0))] [] M u) : K_M_notesIn sa d Q 0 [some (.ref l0), some (.ref l1), some (.int l2), none, none] [] M u := b_M_notesIn_0 h
set_option maxRecDepth 100000 in
theorem t_M_notesIn_1 {sa : Nat → Nat} {d : Nat} {Q : xQ} {l0 : Nat} {l1 : Nat} {l2 : Int32} {l3 : Int32} {l4 : Int32} {M : xM} {u : xU} (h : xgfI M l0 12 2 fun v1 => (if v1 ≤ l4 then (Q (some (.int l3)) M) else (xaI M l1 ((l2 + (nI 11)) + l4) fun v2 => (if v2 < 0 then (xaI M l1 ((l2 + (nI 20)) + l4) fun v3 => (if v3 < 0 then K_M_notesIn sa d Q 1 [some (.ref l0), some (.ref l1), some (.int l2), some (.int (l3 + ((nI 0) + (nI 0)))), some (.int (l4 + (nI 1)))] [] M u else K_M_notesIn sa d Q 1 [some (.ref l0), some (.ref l1), some (.int l2), some (.int (l3 + ((nI 0) + (nI 1)))), some (.int (l4 + (nI 1)))] [] M u)) else (xaI M l1 ((l2 + (nI 20)) + l4) fun v4 => (if v4 < 0 then K_M_notesIn sa d Q 1 [some (.ref l0), some (.ref l1), some (.int l2), some (.int (l3 + ((nI 1) + (nI 0)))), some (.int (l4 + (nI 1)))] [] M u else K_M_notesIn sa d Q 1 [some (.ref l0), some (.ref l1), some (.int l2), some (.int (l3 + ((nI 1) + (nI 1)))), some (.int (l4 + (nI 1)))] [] M u)))))) : K_M_notesIn sa d Q 1 [some (.ref l0), some (.ref l1), some (.int l2), some (.int l3), some (.int l4)] [] M u := by
  refine b_M_notesIn_1 ?_
  refine xgfI_mono (fun _ h => ?_) h
  refine xite_mono (fun h => ?_) (fun h => ?_) h
  · exact b_M_notesIn_9 h
  · refine b_M_notesIn_2 ?_
    refine xaI_mono (fun _ h => ?_) h
    refine xite_mono (fun h => ?_) (fun h => ?_) h
    · refine b_M_notesIn_4 ?_
      refine b_M_notesIn_5 ?_
      refine xaI_mono (fun _ h => ?_) h
      refine xite_mono (fun h => ?_) (fun h => ?_) h
      · refine b_M_notesIn_7 ?_
        exact b_M_notesIn_8 h
      · refine b_M_notesIn_6 ?_
        exact b_M_notesIn_8 h
    · refine b_M_notesIn_3 ?_
      refine b_M_notesIn_5 ?_
      refine xaI_mono (fun _ h => ?_) h
      refine xite_mono (fun h => ?_) (fun h => ?_) h
      · refine b_M_notesIn_7 ?_
        exact b_M_notesIn_8 h
      · refine b_M_notesIn_6 ?_
        exact b_M_notesIn_8 h
theorem t_M_notesIn {sa : Nat → Nat} {d : Nat} {Q : xQ} {l0 : Nat} {l1 : Nat} {l2 : Int32} {M : xM} (h : K_M_notesIn sa d Q 1 [some (.ref l0), some (.ref l1), some (.int l2), some (.int (nI 0)), some (.int (nI 0))] [] M (0, 0)) : xEv xP (xprim sa) (d + 1) m_M_notesIn [.ref l0, .ref l1, .int l2] M Q := e_M_notesIn (t_M_notesIn_0 h)
set_option maxRecDepth 100000 in
theorem t_M_agrees_0 {sa : Nat → Nat} {d : Nat} {Q : xQ} {l0 : Nat} {l1 : Int32} {M : xM} {u : xU} (h : xEv xP (xprim sa) d m_M_isIn [.int l1, .int (nI 0), .int (nI 1)] M (xrI fun r1 M1 => if ¬ r1 = 0 then (xobj M1 l0 12 ∧ xEv xP (xprim sa) d m_M_asTold [.ref l0] M1 (xrV fun M2 => xgfR M2 l0 12 27 fun v1 => (xobj M2 l0 12 ∧ xEv xP (xprim sa) d m_M_begin [.ref l0, .ref v1, .int (nI 0)] M2 (xrV fun M3 => K_M_agrees sa d Q 3 [some (.ref l0), some (.int l1), some (.int (-1 : Int32)), some (.int (nI 0)), some (.int (nI 0)), some (.int (nI 0))] [] M3 u)))) else (Q (some (.int (-1 : Int32))) M1))) : K_M_agrees sa d Q 0 [some (.ref l0), some (.int l1), none, none, none, none] [] M u := by
  refine b_M_agrees_0 ?_
  refine xEv_post' _ _ _ _ _ (xrI_mono (fun _ _ h => ?_)) h
  refine xite_mono (fun h => ?_) (fun h => ?_) h
  · exact b_M_agrees_2 h
  · exact b_M_agrees_1 h
set_option maxRecDepth 100000 in
theorem t_M_agrees_3 {sa : Nat → Nat} {d : Nat} {Q : xQ} {l0 : Nat} {l1 : Int32} {l2 : Int32} {l3 : Int32} {l4 : Int32} {l5 : Int32} {M : xM} {u : xU} (h : if (nI 40) < l5 then (if 0 ≤ l2 then (if ¬ l1 = 0 then (Q (some (.int l4)) M) else (Q (some (.int l2)) M)) else (Q (some (.int (-1 : Int32))) M)) else (xgfR M l0 12 27 fun v1 => (xobj M l0 12 ∧ xEv xP (xprim sa) d m_M_notesIn [.ref l0, .ref v1, .int (nI 0)] M (xrI fun r1 M1 => xgfR M1 l0 12 27 fun v2 => (xobj M1 l0 12 ∧ xEv xP (xprim sa) d m_M_areOne [.ref l0, .ref v2, .int (nI 0)] M1 (xrI fun r2 M2 => if ¬ r2 = 0 then (if 0 ≤ l2 then K_M_agrees sa d Q 8 [some (.ref l0), some (.int l1), some (.int l2), some (.int (l3 + r1)), some (.int l4), some (.int l5)] [] M2 u else K_M_agrees sa d Q 8 [some (.ref l0), some (.int l1), some (.int l5), some (.int (l3 + r1)), some (.int (l3 + r1)), some (.int l5)] [] M2 u) else K_M_agrees sa d Q 8 [some (.ref l0), some (.int l1), some (.int (-1 : Int32)), some (.int (l3 + r1)), some (.int l4), some (.int l5)] [] M2 u)))))) : K_M_agrees sa d Q 3 [some (.ref l0), some (.int l1), some (.int l2), some (.int l3), some (.int l4), some (.int l5)] [] M u := by
  refine b_M_agrees_3 ?_
  refine xite_mono (fun h => ?_) (fun h => ?_) h
  · refine b_M_agrees_11 ?_
    refine xite_mono (fun h => ?_) (fun h => ?_) h
    · refine b_M_agrees_13 ?_
      refine xite_mono (fun h => ?_) (fun h => ?_) h
      · refine b_M_agrees_15 ?_
        exact b_M_agrees_16 h
      · refine b_M_agrees_14 ?_
        exact b_M_agrees_16 h
    · refine b_M_agrees_12 ?_
      exact b_M_agrees_16 h
  · refine b_M_agrees_4 ?_
    refine xgfR_mono (fun _ h => ?_) h
    obtain ⟨hz, h⟩ := h
    refine ⟨hz, ?_⟩
    refine xEv_post' _ _ _ _ _ (xrI_mono (fun _ _ h => ?_)) h
    refine xgfR_mono (fun _ h => ?_) h
    obtain ⟨hz, h⟩ := h
    refine ⟨hz, ?_⟩
    refine xEv_post' _ _ _ _ _ (xrI_mono (fun _ _ h => ?_)) h
    refine xite_mono (fun h => ?_) (fun h => ?_) h
    · refine b_M_agrees_6 ?_
      refine xite_mono (fun h => ?_) (fun h => ?_) h
      · exact h
      · exact b_M_agrees_7 h
    · exact b_M_agrees_5 h
set_option maxRecDepth 100000 in
theorem t_M_agrees_8 {sa : Nat → Nat} {d : Nat} {Q : xQ} {l0 : Nat} {l1 : Int32} {l2 : Int32} {l3 : Int32} {l4 : Int32} {l5 : Int32} {M : xM} {u : xU} (h : if (nI 40) ≤ l5 then K_M_agrees sa d Q 3 [some (.ref l0), some (.int l1), some (.int l2), some (.int l3), some (.int l4), some (.int (l5 + (nI 1)))] [] M u else (xobj M l0 12 ∧ xEv xP (xprim sa) d m_M_goOn [.ref l0] M (xrV fun M1 => K_M_agrees sa d Q 3 [some (.ref l0), some (.int l1), some (.int l2), some (.int l3), some (.int l4), some (.int (l5 + (nI 1)))] [] M1 u))) : K_M_agrees sa d Q 8 [some (.ref l0), some (.int l1), some (.int l2), some (.int l3), some (.int l4), some (.int l5)] [] M u := by
  refine b_M_agrees_8 ?_
  refine xite_mono (fun h => ?_) (fun h => ?_) h
  · exact b_M_agrees_10 h
  · refine b_M_agrees_9 ?_
    obtain ⟨hz, h⟩ := h
    refine ⟨hz, ?_⟩
    refine xEv_post' _ _ _ _ _ (xrV_mono (fun _ h => ?_)) h
    exact b_M_agrees_10 h
theorem t_M_agrees {sa : Nat → Nat} {d : Nat} {Q : xQ} {l0 : Nat} {l1 : Int32} {M : xM} (h : xEv xP (xprim sa) d m_M_isIn [.int l1, .int (nI 0), .int (nI 1)] M (xrI fun r1 M1 => if ¬ r1 = 0 then (xobj M1 l0 12 ∧ xEv xP (xprim sa) d m_M_asTold [.ref l0] M1 (xrV fun M2 => xgfR M2 l0 12 27 fun v1 => (xobj M2 l0 12 ∧ xEv xP (xprim sa) d m_M_begin [.ref l0, .ref v1, .int (nI 0)] M2 (xrV fun M3 => K_M_agrees sa d Q 3 [some (.ref l0), some (.int l1), some (.int (-1 : Int32)), some (.int (nI 0)), some (.int (nI 0)), some (.int (nI 0))] [] M3 (0, 0))))) else (Q (some (.int (-1 : Int32))) M1))) : xEv xP (xprim sa) (d + 1) m_M_agrees [.ref l0, .int l1] M Q := e_M_agrees (t_M_agrees_0 h)
set_option maxRecDepth 100000 in
theorem t_M_stateAt_0 {sa : Nat → Nat} {d : Nat} {Q : xQ} {l0 : Int32} {l1 : Int32} {M : xM} {u : xU} (h : Q (some (.int ((nI 30) * (((nI 2000) * l0) + l1)))) M) : K_M_stateAt sa d Q 0 [some (.int l0), some (.int l1)] [] M u := b_M_stateAt_0 h
theorem t_M_stateAt {sa : Nat → Nat} {d : Nat} {Q : xQ} {l0 : Int32} {l1 : Int32} {M : xM} (h : Q (some (.int ((nI 30) * (((nI 2000) * l0) + l1)))) M) : xEv xP (xprim sa) (d + 1) m_M_stateAt [.int l0, .int l1] M Q := e_M_stateAt (t_M_stateAt_0 h)
set_option maxRecDepth 100000 in
theorem t_M_sumOfRow_0 {sa : Nat → Nat} {d : Nat} {Q : xQ} {l0 : Nat} {l1 : Int32} {M : xM} {u : xU} (h : K_M_sumOfRow sa d Q 1 [some (.ref l0), some (.int l1), some (.int (nI 3)), some (.int (nI 1))] [] M u) : K_M_sumOfRow sa d Q 0 [some (.ref l0), some (.int l1), none, none] [] M u := b_M_sumOfRow_0 h
set_option maxRecDepth 100000 in
theorem t_M_sumOfRow_1 {sa : Nat → Nat} {d : Nat} {Q : xQ} {l0 : Nat} {l1 : Int32} {l2 : Int32} {l3 : Int32} {M : xM} {u : xU} (h : if (nI 29) ≤ l3 then (Q (some (.int (l2 &&& (nI 4095)))) M) else (xaI M l0 (l1 + l3) fun v1 => (K_M_sumOfRow sa d Q 1 [some (.ref l0), some (.int l1), some (.int ((((nI 31) * l2) + v1) + (nI 1))), some (.int (l3 + (nI 1)))] [] M u))) : K_M_sumOfRow sa d Q 1 [some (.ref l0), some (.int l1), some (.int l2), some (.int l3)] [] M u := by
  refine b_M_sumOfRow_1 ?_
  refine xite_mono (fun h => ?_) (fun h => ?_) h
  · exact b_M_sumOfRow_3 h
  · exact b_M_sumOfRow_2 h
theorem t_M_sumOfRow {sa : Nat → Nat} {d : Nat} {Q : xQ} {l0 : Nat} {l1 : Int32} {M : xM} (h : K_M_sumOfRow sa d Q 1 [some (.ref l0), some (.int l1), some (.int (nI 3)), some (.int (nI 1))] [] M (0, 0)) : xEv xP (xprim sa) (d + 1) m_M_sumOfRow [.ref l0, .int l1] M Q := e_M_sumOfRow (t_M_sumOfRow_0 h)
set_option maxRecDepth 100000 in
theorem t_M_isLike_0 {sa : Nat → Nat} {d : Nat} {Q : xQ} {l0 : Nat} {l1 : Int32} {l2 : Nat} {l3 : Int32} {M : xM} {u : xU} (h : K_M_isLike sa d Q 1 [some (.ref l0), some (.int l1), some (.ref l2), some (.int l3), some (.int (nI 1))] [] M u) : K_M_isLike sa d Q 0 [some (.ref l0), some (.int l1), some (.ref l2), some (.int l3), none] [] M u := b_M_isLike_0 h
set_option maxRecDepth 100000 in
theorem t_M_isLike_1 {sa : Nat → Nat} {d : Nat} {Q : xQ} {l0 : Nat} {l1 : Int32} {l2 : Nat} {l3 : Int32} {l4 : Int32} {M : xM} {u : xU} (h : if (nI 29) ≤ l4 then (((nI 1) = 0 ∨ (nI 1) = 1) ∧ Q (some (.int (nI 1))) M) else (xgfR M l0 12 28 fun v1 => (xaI M v1 (l1 + l4) fun v2 => (xaI M l2 (l3 + l4) fun v3 => (if v2 = v3 then K_M_isLike sa d Q 1 [some (.ref l0), some (.int l1), some (.ref l2), some (.int l3), some (.int (l4 + (nI 1)))] [] M u else (((nI 0) = 0 ∨ (nI 0) = 1) ∧ Q (some (.int (nI 0))) M)))))) : K_M_isLike sa d Q 1 [some (.ref l0), some (.int l1), some (.ref l2), some (.int l3), some (.int l4)] [] M u := by
  refine b_M_isLike_1 ?_
  refine xite_mono (fun h => ?_) (fun h => ?_) h
  · exact b_M_isLike_5 h
  · refine b_M_isLike_2 ?_
    refine xgfR_mono (fun _ h => ?_) h
    refine xaI_mono (fun _ h => ?_) h
    refine xaI_mono (fun _ h => ?_) h
    refine xite_mono (fun h => ?_) (fun h => ?_) h
    · exact b_M_isLike_4 h
    · exact b_M_isLike_3 h
theorem t_M_isLike {sa : Nat → Nat} {d : Nat} {Q : xQ} {l0 : Nat} {l1 : Int32} {l2 : Nat} {l3 : Int32} {M : xM} (h : K_M_isLike sa d Q 1 [some (.ref l0), some (.int l1), some (.ref l2), some (.int l3), some (.int (nI 1))] [] M (0, 0)) : xEv xP (xprim sa) (d + 1) m_M_isLike [.ref l0, .int l1, .ref l2, .int l3] M Q := e_M_isLike (t_M_isLike_0 h)
set_option maxRecDepth 100000 in
theorem t_M_isFound_0 {sa : Nat → Nat} {d : Nat} {Q : xQ} {l0 : Nat} {l1 : Int32} {l2 : Int32} {l3 : Nat} {l4 : Int32} {M : xM} {u : xU} (h : xgfR M l0 12 33 fun v1 => (xaI M v1 l2 fun v2 => (K_M_isFound sa d Q 1 [some (.ref l0), some (.int l1), none, some (.ref l3), some (.int l4), some (.int v2)] [] M u))) : K_M_isFound sa d Q 0 [some (.ref l0), some (.int l1), some (.int l2), some (.ref l3), some (.int l4), none] [] M u := b_M_isFound_0 h
set_option maxRecDepth 100000 in
theorem t_M_isFound_1 {sa : Nat → Nat} {d : Nat} {Q : xQ} {l0 : Nat} {l1 : Int32} {l3 : Nat} {l4 : Int32} {l5 : Int32} {M : xM} {u : xU} (h : if l5 < 0 then (((nI 0) = 0 ∨ (nI 0) = 1) ∧ Q (some (.int (nI 0))) M) else (xEv xP (xprim sa) d m_M_stateAt [.int l1, .int l5] M (xrI fun r1 M1 => xobj M1 l0 12 ∧ xEv xP (xprim sa) d m_M_isLike [.ref l0, .int r1, .ref l3, .int l4] M1 (xrI fun r2 M2 => if r2 = 0 then (xgfR M2 l0 12 32 fun v1 => (xaI M2 v1 l5 fun v2 => (K_M_isFound sa d Q 1 [some (.ref l0), some (.int l1), none, some (.ref l3), some (.int l4), some (.int v2)] [] M2 u))) else (((nI 1) = 0 ∨ (nI 1) = 1) ∧ Q (some (.int (nI 1))) M2))))) : K_M_isFound sa d Q 1 [some (.ref l0), some (.int l1), none, some (.ref l3), some (.int l4), some (.int l5)] [] M u := by
  refine b_M_isFound_1 ?_
  refine xite_mono (fun h => ?_) (fun h => ?_) h
  · exact b_M_isFound_5 h
  · refine b_M_isFound_2 ?_
    refine xEv_post' _ _ _ _ _ (xrI_mono (fun _ _ h => ?_)) h
    obtain ⟨hz, h⟩ := h
    refine ⟨hz, ?_⟩
    refine xEv_post' _ _ _ _ _ (xrI_mono (fun _ _ h => ?_)) h
    refine xite_mono (fun h => ?_) (fun h => ?_) h
    · exact b_M_isFound_4 h
    · exact b_M_isFound_3 h
theorem t_M_isFound {sa : Nat → Nat} {d : Nat} {Q : xQ} {l0 : Nat} {l1 : Int32} {l2 : Int32} {l3 : Nat} {l4 : Int32} {M : xM} (h : xgfR M l0 12 33 fun v1 => (xaI M v1 l2 fun v2 => (K_M_isFound sa d Q 1 [some (.ref l0), some (.int l1), none, some (.ref l3), some (.int l4), some (.int v2)] [] M (0, 0)))) : xEv xP (xprim sa) (d + 1) m_M_isFound [.ref l0, .int l1, .int l2, .ref l3, .int l4] M Q := e_M_isFound (t_M_isFound_0 h)
set_option maxRecDepth 100000 in
theorem t_M_doings_0 {sa : Nat → Nat} {d : Nat} {Q : xQ} {l0 : Nat} {M : xM} {u : xU} (h : xgfI M l0 12 36 fun v1 => (xgfI M l0 12 36 fun v2 => (Q (some (.int (((v1 + (nI 2)) * (v2 + (nI 2))) * (nI 2)))) M))) : K_M_doings sa d Q 0 [some (.ref l0)] [] M u := b_M_doings_0 h
theorem t_M_doings {sa : Nat → Nat} {d : Nat} {Q : xQ} {l0 : Nat} {M : xM} (h : xgfI M l0 12 36 fun v1 => (xgfI M l0 12 36 fun v2 => (Q (some (.int (((v1 + (nI 2)) * (v2 + (nI 2))) * (nI 2)))) M))) : xEv xP (xprim sa) (d + 1) m_M_doings [.ref l0] M Q := e_M_doings (t_M_doings_0 h)
set_option maxRecDepth 100000 in
theorem t_M_partOf_0 {sa : Nat → Nat} {d : Nat} {Q : xQ} {l0 : Nat} {l1 : Int32} {l2 : Int32} {M : xM} {u : xU} (h : xgfI M l0 12 36 fun v1 => (if ¬ l2 = (nI 2) then (if ¬ l2 = (nI 1) then (¬ (nI 2) = 0 ∧ ¬ (v1 + (nI 2)) = 0 ∧ Q (some (.int (((l1 / (nI 2)) / (v1 + (nI 2))) - (nI 1)))) M) else (¬ (nI 2) = 0 ∧ ¬ (v1 + (nI 2)) = 0 ∧ Q (some (.int (((l1 / (nI 2)) - (l1 / (nI 2)) / (v1 + (nI 2)) * (v1 + (nI 2))) - (nI 1)))) M)) else (¬ (nI 2) = 0 ∧ Q (some (.int (l1 - l1 / (nI 2) * (nI 2)))) M))) : K_M_partOf sa d Q 0 [some (.ref l0), some (.int l1), some (.int l2), none] [] M u := by
  refine b_M_partOf_0 ?_
  refine xgfI_mono (fun _ h => ?_) h
  refine xite_mono (fun h => ?_) (fun h => ?_) h
  · refine b_M_partOf_2 ?_
    refine xite_mono (fun h => ?_) (fun h => ?_) h
    · refine b_M_partOf_4 ?_
      obtain ⟨hz, h⟩ := h
      refine ⟨hz, ?_⟩
      obtain ⟨hz, h⟩ := h
      refine ⟨hz, ?_⟩
      exact b_M_partOf_5 h
    · refine b_M_partOf_3 ?_
      obtain ⟨hz, h⟩ := h
      refine ⟨hz, ?_⟩
      obtain ⟨hz, h⟩ := h
      refine ⟨hz, ?_⟩
      exact b_M_partOf_5 h
  · refine b_M_partOf_1 ?_
    obtain ⟨hz, h⟩ := h
    refine ⟨hz, ?_⟩
    exact b_M_partOf_5 h
theorem t_M_partOf {sa : Nat → Nat} {d : Nat} {Q : xQ} {l0 : Nat} {l1 : Int32} {l2 : Int32} {M : xM} (h : xgfI M l0 12 36 fun v1 => (if ¬ l2 = (nI 2) then (if ¬ l2 = (nI 1) then (¬ (nI 2) = 0 ∧ ¬ (v1 + (nI 2)) = 0 ∧ Q (some (.int (((l1 / (nI 2)) / (v1 + (nI 2))) - (nI 1)))) M) else (¬ (nI 2) = 0 ∧ ¬ (v1 + (nI 2)) = 0 ∧ Q (some (.int (((l1 / (nI 2)) - (l1 / (nI 2)) / (v1 + (nI 2)) * (v1 + (nI 2))) - (nI 1)))) M)) else (¬ (nI 2) = 0 ∧ Q (some (.int (l1 - l1 / (nI 2) * (nI 2)))) M))) : xEv xP (xprim sa) (d + 1) m_M_partOf [.ref l0, .int l1, .int l2] M Q := e_M_partOf (t_M_partOf_0 h)
set_option maxRecDepth 100000 in
theorem t_M_doAs_0 {sa : Nat → Nat} {d : Nat} {Q : xQ} {l0 : Nat} {l1 : Int32} {l2 : Int32} {l3 : Nat} {l4 : Int32} {M : xM} {u : xU} (h : xobj M l0 12 ∧ xEv xP (xprim sa) d m_M_partOf [.ref l0, .int l2, .int (nI 0)] M (xrI fun r1 M1 => xobj M1 l0 12 ∧ xEv xP (xprim sa) d m_M_partOf [.ref l0, .int l2, .int (nI 1)] M1 (xrI fun r2 M2 => xobj M2 l0 12 ∧ xEv xP (xprim sa) d m_M_partOf [.ref l0, .int l2, .int (nI 2)] M2 (xrI fun r3 M3 => if ¬ r3 = (nI 1) then (xobj M3 l0 12 ∧ xEv xP (xprim sa) d m_M_write [.ref l0, .ref l3, .int l4, .int l1, .int r1, .int r2, .int (nI 0)] M3 (xrV fun M4 => Q none M4)) else (xobj M3 l0 12 ∧ xEv xP (xprim sa) d m_M_write [.ref l0, .ref l3, .int l4, .int l1, .int r1, .int r2, .int (nI 1)] M3 (xrV fun M5 => Q none M5)))))) : K_M_doAs sa d Q 0 [some (.ref l0), some (.int l1), some (.int l2), some (.ref l3), some (.int l4)] [] M u := by
  refine b_M_doAs_0 ?_
  obtain ⟨hz, h⟩ := h
  refine ⟨hz, ?_⟩
  refine xEv_post' _ _ _ _ _ (xrI_mono (fun _ _ h => ?_)) h
  obtain ⟨hz, h⟩ := h
  refine ⟨hz, ?_⟩
  refine xEv_post' _ _ _ _ _ (xrI_mono (fun _ _ h => ?_)) h
  obtain ⟨hz, h⟩ := h
  refine ⟨hz, ?_⟩
  refine xEv_post' _ _ _ _ _ (xrI_mono (fun _ _ h => ?_)) h
  refine xite_mono (fun h => ?_) (fun h => ?_) h
  · refine b_M_doAs_2 ?_
    exact b_M_doAs_3 h
  · refine b_M_doAs_1 ?_
    exact b_M_doAs_3 h
theorem t_M_doAs {sa : Nat → Nat} {d : Nat} {Q : xQ} {l0 : Nat} {l1 : Int32} {l2 : Int32} {l3 : Nat} {l4 : Int32} {M : xM} (h : xobj M l0 12 ∧ xEv xP (xprim sa) d m_M_partOf [.ref l0, .int l2, .int (nI 0)] M (xrI fun r1 M1 => xobj M1 l0 12 ∧ xEv xP (xprim sa) d m_M_partOf [.ref l0, .int l2, .int (nI 1)] M1 (xrI fun r2 M2 => xobj M2 l0 12 ∧ xEv xP (xprim sa) d m_M_partOf [.ref l0, .int l2, .int (nI 2)] M2 (xrI fun r3 M3 => if ¬ r3 = (nI 1) then (xobj M3 l0 12 ∧ xEv xP (xprim sa) d m_M_write [.ref l0, .ref l3, .int l4, .int l1, .int r1, .int r2, .int (nI 0)] M3 (xrV fun M4 => Q none M4)) else (xobj M3 l0 12 ∧ xEv xP (xprim sa) d m_M_write [.ref l0, .ref l3, .int l4, .int l1, .int r1, .int r2, .int (nI 1)] M3 (xrV fun M5 => Q none M5)))))) : xEv xP (xprim sa) (d + 1) m_M_doAs [.ref l0, .int l1, .int l2, .ref l3, .int l4] M Q := e_M_doAs (t_M_doAs_0 h)
set_option maxRecDepth 100000 in
theorem t_M_doingOf_0 {sa : Nat → Nat} {d : Nat} {Q : xQ} {l0 : Nat} {l1 : Int32} {l2 : Int32} {M : xM} {u : xU} (h : xgfI M l0 12 35 fun v1 => (if ¬ v1 = (nI 2) then (Q (some (.int l1)) M) else (if ¬ l2 = 0 then (xobj M l0 12 ∧ xEv xP (xprim sa) d m_M_doings [.ref l0] M (xrI fun r1 M1 => ¬ r1 = 0 ∧ Q (some (.int (l1 - l1 / r1 * r1))) M1)) else (xobj M l0 12 ∧ xEv xP (xprim sa) d m_M_doings [.ref l0] M (xrI fun r2 M2 => ¬ r2 = 0 ∧ Q (some (.int (l1 / r2))) M2))))) : K_M_doingOf sa d Q 0 [some (.ref l0), some (.int l1), some (.int l2)] [] M u := by
  refine b_M_doingOf_0 ?_
  refine xgfI_mono (fun _ h => ?_) h
  refine xite_mono (fun h => ?_) (fun h => ?_) h
  · refine b_M_doingOf_4 ?_
    exact b_M_doingOf_5 h
  · refine b_M_doingOf_1 ?_
    refine xite_mono (fun h => ?_) (fun h => ?_) h
    · refine b_M_doingOf_3 ?_
      obtain ⟨hz, h⟩ := h
      refine ⟨hz, ?_⟩
      refine xEv_post' _ _ _ _ _ (xrI_mono (fun _ _ h => ?_)) h
      obtain ⟨hz, h⟩ := h
      refine ⟨hz, ?_⟩
      exact b_M_doingOf_5 h
    · refine b_M_doingOf_2 ?_
      obtain ⟨hz, h⟩ := h
      refine ⟨hz, ?_⟩
      refine xEv_post' _ _ _ _ _ (xrI_mono (fun _ _ h => ?_)) h
      obtain ⟨hz, h⟩ := h
      refine ⟨hz, ?_⟩
      exact b_M_doingOf_5 h
theorem t_M_doingOf {sa : Nat → Nat} {d : Nat} {Q : xQ} {l0 : Nat} {l1 : Int32} {l2 : Int32} {M : xM} (h : xgfI M l0 12 35 fun v1 => (if ¬ v1 = (nI 2) then (Q (some (.int l1)) M) else (if ¬ l2 = 0 then (xobj M l0 12 ∧ xEv xP (xprim sa) d m_M_doings [.ref l0] M (xrI fun r1 M1 => ¬ r1 = 0 ∧ Q (some (.int (l1 - l1 / r1 * r1))) M1)) else (xobj M l0 12 ∧ xEv xP (xprim sa) d m_M_doings [.ref l0] M (xrI fun r2 M2 => ¬ r2 = 0 ∧ Q (some (.int (l1 / r2))) M2))))) : xEv xP (xprim sa) (d + 1) m_M_doingOf [.ref l0, .int l1, .int l2] M Q := e_M_doingOf (t_M_doingOf_0 h)
set_option maxRecDepth 100000 in
theorem t_M_findNext_0 {sa : Nat → Nat} {d : Nat} {Q : xQ} {l0 : Nat} {l1 : Int32} {l2 : Int32} {l3 : Int32} {M : xM} {u : xU} (h : K_M_findNext sa d Q 1 [some (.ref l0), some (.int l1), some (.int l2), some (.int l3), some (.int (nI 0)), none, none, none] [] M u) : K_M_findNext sa d Q 0 [some (.ref l0), some (.int l1), some (.int l2), some (.int l3), none, none, none, none] [] M u := b_M_findNext_0 h
set_option maxRecDepth 100000 in
theorem t_M_findNext_1 {sa : Nat → Nat} {d : Nat} {Q : xQ} {l0 : Nat} {l1 : Int32} {l2 : Int32} {l3 : Int32} {l4 : Int32} {M : xM} {u : xU} (h : if (nI 4096) ≤ l4 then (xgfR M l0 12 29 fun v1 => (xsI M v1 (l1 + (nI 1)) (nI 0) fun M1 => (K_M_findNext sa d Q 4 [some (.ref l0), some (.int l1), some (.int l2), some (.int l3), some (.int (nI 1)), some (.int (nI 0)), none, none] [] M1 u))) else (xgfR M l0 12 33 fun v2 => (xsI M v2 l4 (-1 : Int32) fun M2 => (K_M_findNext sa d Q 1 [some (.ref l0), some (.int l1), some (.int l2), some (.int l3), some (.int (l4 + (nI 1))), none, none, none] [] M2 u)))) : K_M_findNext sa d Q 1 [some (.ref l0), some (.int l1), some (.int l2), some (.int l3), some (.int l4), none, none, none] [] M u := by
  refine b_M_findNext_1 ?_
  refine xite_mono (fun h => ?_) (fun h => ?_) h
  · exact b_M_findNext_3 h
  · exact b_M_findNext_2 h
set_option maxRecDepth 100000 in
theorem t_M_findNext_4 {sa : Nat → Nat} {d : Nat} {Q : xQ} {l0 : Nat} {l1 : Int32} {l2 : Int32} {l3 : Int32} {l4 : Int32} {l5 : Int32} {M : xM} {u : xU} (h : xgfI M l0 12 35 fun v1 => (if v1 ≤ l5 then K_M_findNext sa d Q 7 [some (.ref l0), some (.int l1), some (.int l2), some (.int l3), some (.int l4), some (.int (nI 0)), none, none] [] M u else (xobj M l0 12 ∧ xEv xP (xprim sa) d m_M_doings [.ref l0] M (xrI fun r1 M1 => K_M_findNext sa d Q 4 [some (.ref l0), some (.int l1), some (.int l2), some (.int l3), some (.int (l4 * r1)), some (.int (l5 + (nI 1))), none, none] [] M1 u)))) : K_M_findNext sa d Q 4 [some (.ref l0), some (.int l1), some (.int l2), some (.int l3), some (.int l4), some (.int l5), none, none] [] M u := by
  refine b_M_findNext_4 ?_
  refine xgfI_mono (fun _ h => ?_) h
  refine xite_mono (fun h => ?_) (fun h => ?_) h
  · exact b_M_findNext_6 h
  · exact b_M_findNext_5 h
set_option maxRecDepth 100000 in
theorem t_M_findNext_7 {sa : Nat → Nat} {d : Nat} {Q : xQ} {l0 : Nat} {l1 : Int32} {l2 : Int32} {l3 : Int32} {l4 : Int32} {l5 : Int32} {M : xM} {u : xU} (h : xgfR M l0 12 29 fun v1 => (xaI M v1 l1 fun v2 => (if v2 ≤ l5 then (((nI 1) = 0 ∨ (nI 1) = 1) ∧ Q (some (.int (nI 1))) M) else (xgfR M l0 12 28 fun v3 => (xEv xP (xprim sa) d m_M_stateAt [.int l1, .int l5] M (xrI fun r1 M1 => xgfR M1 l0 12 37 fun v4 => (xobj M1 l0 12 ∧ xEv xP (xprim sa) d m_M_go [.ref l0, .ref v3, .int r1, .ref v4, .int (nI 0)] M1 (xrV fun M2 => K_M_findNext sa d Q 9 [some (.ref l0), some (.int l1), some (.int l2), some (.int l3), some (.int l4), some (.int l5), some (.int (nI 0)), none] [] M2 u)))))))) : K_M_findNext sa d Q 7 [some (.ref l0), some (.int l1), some (.int l2), some (.int l3), some (.int l4), some (.int l5), none, none] [] M u := by
  refine b_M_findNext_7 ?_
  refine xgfR_mono (fun _ h => ?_) h
  refine xaI_mono (fun _ h => ?_) h
  refine xite_mono (fun h => ?_) (fun h => ?_) h
  · exact b_M_findNext_27 h
  · exact b_M_findNext_8 h
set_option maxRecDepth 100000 in
theorem t_M_findNext_9 {sa : Nat → Nat} {d : Nat} {Q : xQ} {l0 : Nat} {l1 : Int32} {l2 : Int32} {l3 : Int32} {l4 : Int32} {l5 : Int32} {l6 : Int32} {M : xM} {u : xU} (h : if l4 ≤ l6 then K_M_findNext sa d Q 7 [some (.ref l0), some (.int l1), some (.int l2), some (.int l3), some (.int l4), some (.int (l5 + (nI 1))), none, none] [] M u else K_M_findNext sa d Q 11 [some (.ref l0), some (.int l1), some (.int l2), some (.int l3), some (.int l4), some (.int l5), some (.int l6), some (.int (nI 0))] [] M u) : K_M_findNext sa d Q 9 [some (.ref l0), some (.int l1), some (.int l2), some (.int l3), some (.int l4), some (.int l5), some (.int l6), none] [] M u := by
  refine b_M_findNext_9 ?_
  refine xite_mono (fun h => ?_) (fun h => ?_) h
  · exact b_M_findNext_26 h
  · exact b_M_findNext_10 h
set_option maxRecDepth 100000 in
theorem t_M_findNext_11 {sa : Nat → Nat} {d : Nat} {Q : xQ} {l0 : Nat} {l1 : Int32} {l2 : Int32} {l3 : Int32} {l4 : Int32} {l5 : Int32} {l6 : Int32} {l7 : Int32} {M : xM} {u : xU} (h : if (nI 30) ≤ l7 then K_M_findNext sa d Q 14 [some (.ref l0), some (.int l1), some (.int l2), some (.int l3), some (.int l4), some (.int l5), some (.int l6), some (.int (nI 0))] [] M u else (xgfR M l0 12 38 fun v1 => (xgfR M l0 12 37 fun v2 => (xaI M v2 l7 fun v3 => (xsI M v1 l7 v3 fun M1 => (K_M_findNext sa d Q 11 [some (.ref l0), some (.int l1), some (.int l2), some (.int l3), some (.int l4), some (.int l5), some (.int l6), some (.int (l7 + (nI 1)))] [] M1 u)))))) : K_M_findNext sa d Q 11 [some (.ref l0), some (.int l1), some (.int l2), some (.int l3), some (.int l4), some (.int l5), some (.int l6), some (.int l7)] [] M u := by
  refine b_M_findNext_11 ?_
  refine xite_mono (fun h => ?_) (fun h => ?_) h
  · exact b_M_findNext_13 h
  · exact b_M_findNext_12 h
set_option maxRecDepth 100000 in
theorem t_M_findNext_14 {sa : Nat → Nat} {d : Nat} {Q : xQ} {l0 : Nat} {l1 : Int32} {l2 : Int32} {l3 : Int32} {l4 : Int32} {l5 : Int32} {l6 : Int32} {l7 : Int32} {M : xM} {u : xU} (h : xgfI M l0 12 35 fun v1 => (if v1 ≤ l7 then (if l2 < 0 then K_M_findNext sa d Q 20 [some (.ref l0), some (.int l1), some (.int l2), some (.int l3), some (.int l4), some (.int l5), some (.int l6), none] [] M u else (xgfR M l0 12 38 fun v2 => (xaI M v2 ((nI 11) + l2) fun v3 => (xgfR M l0 12 0 fun v4 => (xaI M v4 l3 fun v5 => (if ¬ v3 = v5 then K_M_findNext sa d Q 9 [some (.ref l0), some (.int l1), some (.int l2), some (.int l3), some (.int l4), some (.int l5), some (.int (l6 + (nI 1))), none] [] M u else (xgfR M l0 12 38 fun v6 => (xaI M v6 ((nI 20) + l2) fun v7 => (xgfR M l0 12 0 fun v8 => (xaI M v8 (l3 + (nI 1)) fun v9 => (if v7 = v9 then K_M_findNext sa d Q 20 [some (.ref l0), some (.int l1), some (.int l2), some (.int l3), some (.int l4), some (.int l5), some (.int l6), none] [] M u else K_M_findNext sa d Q 9 [some (.ref l0), some (.int l1), some (.int l2), some (.int l3), some (.int l4), some (.int l5), some (.int (l6 + (nI 1))), none] [] M u))))))))))) else (xgfR M l0 12 34 fun v10 => (xaI M v10 l7 fun v11 => (xobj M l0 12 ∧ xEv xP (xprim sa) d m_M_doingOf [.ref l0, .int l6, .int l7] M (xrI fun r1 M1 => xgfR M1 l0 12 38 fun v12 => (xobj M1 l0 12 ∧ xEv xP (xprim sa) d m_M_doAs [.ref l0, .int v11, .int r1, .ref v12, .int (nI 0)] M1 (xrV fun M2 => K_M_findNext sa d Q 14 [some (.ref l0), some (.int l1), some (.int l2), some (.int l3), some (.int l4), some (.int l5), some (.int l6), some (.int (l7 + (nI 1)))] [] M2 u)))))))) : K_M_findNext sa d Q 14 [some (.ref l0), some (.int l1), some (.int l2), some (.int l3), some (.int l4), some (.int l5), some (.int l6), some (.int l7)] [] M u := by
  refine b_M_findNext_14 ?_
  refine xgfI_mono (fun _ h => ?_) h
  refine xite_mono (fun h => ?_) (fun h => ?_) h
  · refine b_M_findNext_16 ?_
    refine xite_mono (fun h => ?_) (fun h => ?_) h
    · exact h
    · refine b_M_findNext_17 ?_
      refine xgfR_mono (fun _ h => ?_) h
      refine xaI_mono (fun _ h => ?_) h
      refine xgfR_mono (fun _ h => ?_) h
      refine xaI_mono (fun _ h => ?_) h
      refine xite_mono (fun h => ?_) (fun h => ?_) h
      · exact b_M_findNext_25 h
      · refine b_M_findNext_18 ?_
        refine xgfR_mono (fun _ h => ?_) h
        refine xaI_mono (fun _ h => ?_) h
        refine xgfR_mono (fun _ h => ?_) h
        refine xaI_mono (fun _ h => ?_) h
        refine xite_mono (fun h => ?_) (fun h => ?_) h
        · exact h
        · refine b_M_findNext_19 ?_
          exact b_M_findNext_25 h
  · exact b_M_findNext_15 h
set_option maxRecDepth 100000 in
theorem t_M_findNext_20 {sa : Nat → Nat} {d : Nat} {Q : xQ} {l0 : Nat} {l1 : Int32} {l2 : Int32} {l3 : Int32} {l4 : Int32} {l5 : Int32} {l6 : Int32} {M : xM} {u : xU} (h : xgfR M l0 12 38 fun v1 => (xEv xP (xprim sa) d m_M_sumOfRow [.ref v1, .int (nI 0)] M (xrI fun r1 M1 => xgfR M1 l0 12 38 fun v2 => (xobj M1 l0 12 ∧ xEv xP (xprim sa) d m_M_isFound [.ref l0, .int (l1 + (nI 1)), .int r1, .ref v2, .int (nI 0)] M1 (xrI fun r2 M2 => if r2 = 0 then (xgfR M2 l0 12 29 fun v3 => (xaI M2 v3 (l1 + (nI 1)) fun v4 => (if ¬ v4 = (nI 2000) then (xobj M2 l0 12 ∧ xEv xP (xprim sa) d m_M_add [.ref l0, .int (l1 + (nI 1)), .int r1, .int l5, .int l6] M2 (xrV fun M3 => K_M_findNext sa d Q 9 [some (.ref l0), some (.int l1), some (.int l2), some (.int l3), some (.int l4), some (.int l5), some (.int (l6 + (nI 1))), none] [] M3 u)) else (((nI 0) = 0 ∨ (nI 0) = 1) ∧ Q (some (.int (nI 0))) M2)))) else K_M_findNext sa d Q 9 [some (.ref l0), some (.int l1), some (.int l2), some (.int l3), some (.int l4), some (.int l5), some (.int (l6 + (nI 1))), none] [] M2 u))))) : K_M_findNext sa d Q 20 [some (.ref l0), some (.int l1), some (.int l2), some (.int l3), some (.int l4), some (.int l5), some (.int l6), none] [] M u := by
  refine b_M_findNext_20 ?_
  refine xgfR_mono (fun _ h => ?_) h
  refine xEv_post' _ _ _ _ _ (xrI_mono (fun _ _ h => ?_)) h
  refine xgfR_mono (fun _ h => ?_) h
  obtain ⟨hz, h⟩ := h
  refine ⟨hz, ?_⟩
  refine xEv_post' _ _ _ _ _ (xrI_mono (fun _ _ h => ?_)) h
  refine xite_mono (fun h => ?_) (fun h => ?_) h
  · refine b_M_findNext_22 ?_
    refine xgfR_mono (fun _ h => ?_) h
    refine xaI_mono (fun _ h => ?_) h
    refine xite_mono (fun h => ?_) (fun h => ?_) h
    · refine b_M_findNext_24 ?_
      obtain ⟨hz, h⟩ := h
      refine ⟨hz, ?_⟩
      refine xEv_post' _ _ _ _ _ (xrV_mono (fun _ h => ?_)) h
      exact b_M_findNext_25 h
    · exact b_M_findNext_23 h
  · refine b_M_findNext_21 ?_
    exact b_M_findNext_25 h
theorem t_M_findNext {sa : Nat → Nat} {d : Nat} {Q : xQ} {l0 : Nat} {l1 : Int32} {l2 : Int32} {l3 : Int32} {M : xM} (h : K_M_findNext sa d Q 1 [some (.ref l0), some (.int l1), some (.int l2), some (.int l3), some (.int (nI 0)), none, none, none] [] M (0, 0)) : xEv xP (xprim sa) (d + 1) m_M_findNext [.ref l0, .int l1, .int l2, .int l3] M Q := e_M_findNext (t_M_findNext_0 h)
set_option maxRecDepth 100000 in
theorem t_M_add_0 {sa : Nat → Nat} {d : Nat} {Q : xQ} {l0 : Nat} {l1 : Int32} {l2 : Int32} {l3 : Int32} {l4 : Int32} {M : xM} {u : xU} (h : xgfR M l0 12 29 fun v1 => (xaI M v1 l1 fun v2 => (K_M_add sa d Q 1 [some (.ref l0), some (.int l1), some (.int l2), some (.int l3), some (.int l4), some (.int v2), some (.int (nI 0))] [] M u))) : K_M_add sa d Q 0 [some (.ref l0), some (.int l1), some (.int l2), some (.int l3), some (.int l4), none, none] [] M u := b_M_add_0 h
set_option maxRecDepth 100000 in
theorem t_M_add_1 {sa : Nat → Nat} {d : Nat} {Q : xQ} {l0 : Nat} {l1 : Int32} {l2 : Int32} {l3 : Int32} {l4 : Int32} {l5 : Int32} {l6 : Int32} {M : xM} {u : xU} (h : if (nI 30) ≤ l6 then (xgfR M l0 12 30 fun v1 => (xsI M v1 (((nI 2000) * l1) + l5) l3 fun M1 => (xgfR M1 l0 12 31 fun v2 => (xsI M1 v2 (((nI 2000) * l1) + l5) l4 fun M2 => (xgfR M2 l0 12 32 fun v3 => (xgfR M2 l0 12 33 fun v4 => (xaI M2 v4 l2 fun v5 => (xsI M2 v3 l5 v5 fun M3 => (xgfR M3 l0 12 33 fun v6 => (xsI M3 v6 l2 l5 fun M4 => (xgfR M4 l0 12 29 fun v7 => (xaI M4 v7 l1 fun v8 => (xsI M4 v7 l1 (v8 + (nI 1)) fun M5 => (Q none M5)))))))))))))) else (xgfR M l0 12 28 fun v9 => (xEv xP (xprim sa) d m_M_stateAt [.int l1, .int l5] M (xrI fun r1 M6 => xgfR M6 l0 12 38 fun v10 => (xaI M6 v10 l6 fun v11 => (xsI M6 v9 (r1 + l6) v11 fun M7 => (K_M_add sa d Q 1 [some (.ref l0), some (.int l1), some (.int l2), some (.int l3), some (.int l4), some (.int l5), some (.int (l6 + (nI 1)))] [] M7 u))))))) : K_M_add sa d Q 1 [some (.ref l0), some (.int l1), some (.int l2), some (.int l3), some (.int l4), some (.int l5), some (.int l6)] [] M u := by
  refine b_M_add_1 ?_
  refine xite_mono (fun h => ?_) (fun h => ?_) h
  · exact b_M_add_3 h
  · exact b_M_add_2 h
theorem t_M_add {sa : Nat → Nat} {d : Nat} {Q : xQ} {l0 : Nat} {l1 : Int32} {l2 : Int32} {l3 : Int32} {l4 : Int32} {M : xM} (h : xgfR M l0 12 29 fun v1 => (xaI M v1 l1 fun v2 => (K_M_add sa d Q 1 [some (.ref l0), some (.int l1), some (.int l2), some (.int l3), some (.int l4), some (.int v2), some (.int (nI 0))] [] M (0, 0)))) : xEv xP (xprim sa) (d + 1) m_M_add [.ref l0, .int l1, .int l2, .int l3, .int l4] M Q := e_M_add (t_M_add_0 h)
set_option maxRecDepth 100000 in
theorem t_M_beginRuns_0 {sa : Nat → Nat} {d : Nat} {Q : xQ} {l0 : Nat} {M : xM} {u : xU} (h : xgfR M l0 12 28 fun v1 => (xobj M l0 12 ∧ xEv xP (xprim sa) d m_M_begin [.ref l0, .ref v1, .int (nI 0)] M (xrV fun M1 => xgfR M1 l0 12 28 fun v2 => (xsI M1 v2 (nI 29) (nI 0) fun M2 => (xgfR M2 l0 12 29 fun v3 => (xsI M2 v3 (nI 0) (nI 1) fun M3 => (Q none M3))))))) : K_M_beginRuns sa d Q 0 [some (.ref l0)] [] M u := b_M_beginRuns_0 h
theorem t_M_beginRuns {sa : Nat → Nat} {d : Nat} {Q : xQ} {l0 : Nat} {M : xM} (h : xgfR M l0 12 28 fun v1 => (xobj M l0 12 ∧ xEv xP (xprim sa) d m_M_begin [.ref l0, .ref v1, .int (nI 0)] M (xrV fun M1 => xgfR M1 l0 12 28 fun v2 => (xsI M1 v2 (nI 29) (nI 0) fun M2 => (xgfR M2 l0 12 29 fun v3 => (xsI M2 v3 (nI 0) (nI 1) fun M3 => (Q none M3))))))) : xEv xP (xprim sa) (d + 1) m_M_beginRuns [.ref l0] M Q := e_M_beginRuns (t_M_beginRuns_0 h)
set_option maxRecDepth 100000 in
theorem t_M_liars_0 {sa : Nat → Nat} {d : Nat} {Q : xQ} {l0 : Nat} {M : xM} {u : xU} (h : K_M_liars sa d Q 1 [some (.ref l0), some (.int (nI 0)), some (.int (nI 0))] [] M u) : K_M_liars sa d Q 0 [some (.ref l0), none, none] [] M u := b_M_liars_0 h
set_option maxRecDepth 100000 in
theorem t_M_liars_1 {sa : Nat → Nat} {d : Nat} {Q : xQ} {l0 : Nat} {l1 : Int32} {l2 : Int32} {M : xM} {u : xU} (h : xgfI M l0 12 2 fun v1 => (if v1 ≤ l2 then (Q (some (.int l1)) M) else (xgfR M l0 12 0 fun v2 => (xaI M v2 ((nI 10) + l2) fun v3 => (if ¬ v3 = (nI 1) then K_M_liars sa d Q 1 [some (.ref l0), some (.int (l1 + (nI 0))), some (.int (l2 + (nI 1)))] [] M u else K_M_liars sa d Q 1 [some (.ref l0), some (.int (l1 + (nI 1))), some (.int (l2 + (nI 1)))] [] M u))))) : K_M_liars sa d Q 1 [some (.ref l0), some (.int l1), some (.int l2)] [] M u := by
  refine b_M_liars_1 ?_
  refine xgfI_mono (fun _ h => ?_) h
  refine xite_mono (fun h => ?_) (fun h => ?_) h
  · exact b_M_liars_6 h
  · refine b_M_liars_2 ?_
    refine xgfR_mono (fun _ h => ?_) h
    refine xaI_mono (fun _ h => ?_) h
    refine xite_mono (fun h => ?_) (fun h => ?_) h
    · refine b_M_liars_4 ?_
      exact b_M_liars_5 h
    · refine b_M_liars_3 ?_
      exact b_M_liars_5 h
theorem t_M_liars {sa : Nat → Nat} {d : Nat} {Q : xQ} {l0 : Nat} {M : xM} (h : K_M_liars sa d Q 1 [some (.ref l0), some (.int (nI 0)), some (.int (nI 0))] [] M (0, 0)) : xEv xP (xprim sa) (d + 1) m_M_liars [.ref l0] M Q := e_M_liars (t_M_liars_0 h)
set_option maxRecDepth 100000 in
theorem t_M_areRuns_0 {sa : Nat → Nat} {d : Nat} {Q : xQ} {l0 : Nat} {l1 : Int32} {l2 : Int32} {M : xM} {u : xU} (h : xEv xP (xprim sa) d m_M_isIn [.int l1, .int (nI 0), .int (nI 6)] M (xrI fun r1 M1 => if r1 = 0 then (((nI 0) = 0 ∨ (nI 0) = 1) ∧ Q (some (.int (nI 0))) M1) else (xEv xP (xprim sa) d m_M_isIn [.int l2, .int (nI 0), .int (nI 2)] M1 (xrI fun r2 M2 => if r2 = 0 then (((nI 0) = 0 ∨ (nI 0) = 1) ∧ Q (some (.int (nI 0))) M2) else (xobj M2 l0 12 ∧ xEv xP (xprim sa) d m_M_liars [.ref l0] M2 (xrI fun r3 M3 => if (nI 2) < r3 then (((nI 0) = 0 ∨ (nI 0) = 1) ∧ Q (some (.int (nI 0))) M3) else (((nI 1) = 0 ∨ (nI 1) = 1) ∧ Q (some (.int (nI 1))) M3))))))) : K_M_areRuns sa d Q 0 [some (.ref l0), some (.int l1), some (.int l2)] [] M u := by
  refine b_M_areRuns_0 ?_
  refine xEv_post' _ _ _ _ _ (xrI_mono (fun _ _ h => ?_)) h
  refine xite_mono (fun h => ?_) (fun h => ?_) h
  · refine b_M_areRuns_4 ?_
    exact b_M_areRuns_5 h
  · refine b_M_areRuns_1 ?_
    refine xEv_post' _ _ _ _ _ (xrI_mono (fun _ _ h => ?_)) h
    refine xite_mono (fun h => ?_) (fun h => ?_) h
    · refine b_M_areRuns_4 ?_
      exact b_M_areRuns_5 h
    · refine b_M_areRuns_2 ?_
      obtain ⟨hz, h⟩ := h
      refine ⟨hz, ?_⟩
      refine xEv_post' _ _ _ _ _ (xrI_mono (fun _ _ h => ?_)) h
      refine xite_mono (fun h => ?_) (fun h => ?_) h
      · refine b_M_areRuns_4 ?_
        exact b_M_areRuns_5 h
      · refine b_M_areRuns_3 ?_
        exact b_M_areRuns_5 h
theorem t_M_areRuns {sa : Nat → Nat} {d : Nat} {Q : xQ} {l0 : Nat} {l1 : Int32} {l2 : Int32} {M : xM} (h : xEv xP (xprim sa) d m_M_isIn [.int l1, .int (nI 0), .int (nI 6)] M (xrI fun r1 M1 => if r1 = 0 then (((nI 0) = 0 ∨ (nI 0) = 1) ∧ Q (some (.int (nI 0))) M1) else (xEv xP (xprim sa) d m_M_isIn [.int l2, .int (nI 0), .int (nI 2)] M1 (xrI fun r2 M2 => if r2 = 0 then (((nI 0) = 0 ∨ (nI 0) = 1) ∧ Q (some (.int (nI 0))) M2) else (xobj M2 l0 12 ∧ xEv xP (xprim sa) d m_M_liars [.ref l0] M2 (xrI fun r3 M3 => if (nI 2) < r3 then (((nI 0) = 0 ∨ (nI 0) = 1) ∧ Q (some (.int (nI 0))) M3) else (((nI 1) = 0 ∨ (nI 1) = 1) ∧ Q (some (.int (nI 1))) M3))))))) : xEv xP (xprim sa) (d + 1) m_M_areRuns [.ref l0, .int l1, .int l2] M Q := e_M_areRuns (t_M_areRuns_0 h)
set_option maxRecDepth 100000 in
theorem t_M_findRuns_0 {sa : Nat → Nat} {d : Nat} {Q : xQ} {l0 : Nat} {l1 : Int32} {l2 : Int32} {M : xM} {u : xU} (h : xobj M l0 12 ∧ xEv xP (xprim sa) d m_M_asTold [.ref l0] M (xrV fun M1 => xpf M1 l0 12 36 (.int l2) fun M2 => (xpf M2 l0 12 35 (.int (nI 0)) fun M3 => (K_M_findRuns sa d Q 1 [some (.ref l0), some (.int l1), none, some (.int (nI 0))] [] M3 u)))) : K_M_findRuns sa d Q 0 [some (.ref l0), some (.int l1), some (.int l2), none] [] M u := b_M_findRuns_0 h
set_option maxRecDepth 100000 in
theorem t_M_findRuns_1 {sa : Nat → Nat} {d : Nat} {Q : xQ} {l0 : Nat} {l1 : Int32} {l3 : Int32} {M : xM} {u : xU} (h : xgfI M l0 12 2 fun v1 => (if v1 ≤ l3 then (xobj M l0 12 ∧ xEv xP (xprim sa) d m_M_beginRuns [.ref l0] M (xrV fun M1 => K_M_findRuns sa d Q 7 [some (.ref l0), some (.int l1), none, some (.int (nI 0))] [] M1 u)) else (xgfR M l0 12 26 fun v2 => (xaI M v2 l3 fun v3 => (if v3 = (nI 1) then (xgfR M l0 12 34 fun v4 => (xgfI M l0 12 35 fun v5 => (xsI M v4 v5 l3 fun M2 => (xgfI M2 l0 12 35 fun v6 => (xpf M2 l0 12 35 (.int (v6 + (nI 1))) fun M3 => (xgfR M3 l0 12 26 fun v7 => (xsI M3 v7 l3 (nI 3) fun M4 => (K_M_findRuns sa d Q 1 [some (.ref l0), some (.int l1), none, some (.int (l3 + (nI 1)))] [] M4 u)))))))) else K_M_findRuns sa d Q 1 [some (.ref l0), some (.int l1), none, some (.int (l3 + (nI 1)))] [] M u))))) : K_M_findRuns sa d Q 1 [some (.ref l0), some (.int l1), none, some (.int l3)] [] M u := by
  refine b_M_findRuns_1 ?_
  refine xgfI_mono (fun _ h => ?_) h
  refine xite_mono (fun h => ?_) (fun h => ?_) h
  · exact b_M_findRuns_6 h
  · refine b_M_findRuns_2 ?_
    refine xgfR_mono (fun _ h => ?_) h
    refine xaI_mono (fun _ h => ?_) h
    refine xite_mono (fun h => ?_) (fun h => ?_) h
    · refine b_M_findRuns_4 ?_
      refine xgfR_mono (fun _ h => ?_) h
      refine xgfI_mono (fun _ h => ?_) h
      refine xsI_mono (fun _ h => ?_) h
      refine xgfI_mono (fun _ h => ?_) h
      refine xpf_mono (fun _ h => ?_) h
      refine xgfR_mono (fun _ h => ?_) h
      refine xsI_mono (fun _ h => ?_) h
      exact b_M_findRuns_5 h
    · refine b_M_findRuns_3 ?_
      exact b_M_findRuns_5 h
set_option maxRecDepth 100000 in
theorem t_M_findRuns_7 {sa : Nat → Nat} {d : Nat} {Q : xQ} {l0 : Nat} {l1 : Int32} {l3 : Int32} {M : xM} {u : xU} (h : if l1 ≤ l3 then (((nI 1) = 0 ∨ (nI 1) = 1) ∧ Q (some (.int (nI 1))) M) else (xobj M l0 12 ∧ xEv xP (xprim sa) d m_M_findNext [.ref l0, .int l3, .int (-1 : Int32), .int (nI 0)] M (xrI fun r1 M1 => if ¬ r1 = 0 then K_M_findRuns sa d Q 7 [some (.ref l0), some (.int l1), none, some (.int (l3 + (nI 1)))] [] M1 u else (((nI 0) = 0 ∨ (nI 0) = 1) ∧ Q (some (.int (nI 0))) M1)))) : K_M_findRuns sa d Q 7 [some (.ref l0), some (.int l1), none, some (.int l3)] [] M u := by
  refine b_M_findRuns_7 ?_
  refine xite_mono (fun h => ?_) (fun h => ?_) h
  · exact b_M_findRuns_11 h
  · refine b_M_findRuns_8 ?_
    obtain ⟨hz, h⟩ := h
    refine ⟨hz, ?_⟩
    refine xEv_post' _ _ _ _ _ (xrI_mono (fun _ _ h => ?_)) h
    refine xite_mono (fun h => ?_) (fun h => ?_) h
    · exact b_M_findRuns_10 h
    · exact b_M_findRuns_9 h
theorem t_M_findRuns {sa : Nat → Nat} {d : Nat} {Q : xQ} {l0 : Nat} {l1 : Int32} {l2 : Int32} {M : xM} (h : xobj M l0 12 ∧ xEv xP (xprim sa) d m_M_asTold [.ref l0] M (xrV fun M1 => xpf M1 l0 12 36 (.int l2) fun M2 => (xpf M2 l0 12 35 (.int (nI 0)) fun M3 => (K_M_findRuns sa d Q 1 [some (.ref l0), some (.int l1), none, some (.int (nI 0))] [] M3 (0, 0))))) : xEv xP (xprim sa) (d + 1) m_M_findRuns [.ref l0, .int l1, .int l2] M Q := e_M_findRuns (t_M_findRuns_0 h)
set_option maxRecDepth 100000 in
theorem t_M_firstBad_0 {sa : Nat → Nat} {d : Nat} {Q : xQ} {l0 : Nat} {l1 : Int32} {M : xM} {u : xU} (h : K_M_firstBad sa d Q 1 [some (.ref l0), some (.int l1), some (.int (nI 0))] [] M u) : K_M_firstBad sa d Q 0 [some (.ref l0), some (.int l1), none] [] M u := b_M_firstBad_0 h
set_option maxRecDepth 100000 in
theorem t_M_firstBad_1 {sa : Nat → Nat} {d : Nat} {Q : xQ} {l0 : Nat} {l1 : Int32} {l2 : Int32} {M : xM} {u : xU} (h : xgfR M l0 12 29 fun v1 => (xaI M v1 l1 fun v2 => (if v2 ≤ l2 then (Q (some (.int (-1 : Int32))) M) else (xgfR M l0 12 28 fun v3 => (xEv xP (xprim sa) d m_M_stateAt [.int l1, .int l2] M (xrI fun r1 M1 => xobj M1 l0 12 ∧ xEv xP (xprim sa) d m_M_areOne [.ref l0, .ref v3, .int r1] M1 (xrI fun r2 M2 => if ¬ r2 = 0 then K_M_firstBad sa d Q 1 [some (.ref l0), some (.int l1), some (.int (l2 + (nI 1)))] [] M2 u else (Q (some (.int l2)) M2)))))))) : K_M_firstBad sa d Q 1 [some (.ref l0), some (.int l1), some (.int l2)] [] M u := by
  refine b_M_firstBad_1 ?_
  refine xgfR_mono (fun _ h => ?_) h
  refine xaI_mono (fun _ h => ?_) h
  refine xite_mono (fun h => ?_) (fun h => ?_) h
  · exact b_M_firstBad_5 h
  · refine b_M_firstBad_2 ?_
    refine xgfR_mono (fun _ h => ?_) h
    refine xEv_post' _ _ _ _ _ (xrI_mono (fun _ _ h => ?_)) h
    obtain ⟨hz, h⟩ := h
    refine ⟨hz, ?_⟩
    refine xEv_post' _ _ _ _ _ (xrI_mono (fun _ _ h => ?_)) h
    refine xite_mono (fun h => ?_) (fun h => ?_) h
    · exact b_M_firstBad_4 h
    · exact b_M_firstBad_3 h
theorem t_M_firstBad {sa : Nat → Nat} {d : Nat} {Q : xQ} {l0 : Nat} {l1 : Int32} {M : xM} (h : K_M_firstBad sa d Q 1 [some (.ref l0), some (.int l1), some (.int (nI 0))] [] M (0, 0)) : xEv xP (xprim sa) (d + 1) m_M_firstBad [.ref l0, .int l1] M Q := e_M_firstBad (t_M_firstBad_0 h)
set_option maxRecDepth 100000 in
theorem t_M_holds_0 {sa : Nat → Nat} {d : Nat} {Q : xQ} {l0 : Nat} {l1 : Int32} {l2 : Int32} {M : xM} {u : xU} (h : xobj M l0 12 ∧ xEv xP (xprim sa) d m_M_areRuns [.ref l0, .int l1, .int l2] M (xrI fun r1 M1 => if ¬ r1 = 0 then (xobj M1 l0 12 ∧ xEv xP (xprim sa) d m_M_findRuns [.ref l0, .int l1, .int l2] M1 (xrI fun r2 M2 => if ¬ r2 = 0 then (xobj M2 l0 12 ∧ xEv xP (xprim sa) d m_M_firstBad [.ref l0, .int l1] M2 (xrI fun r3 M3 => if 0 ≤ r3 then (Q (some (.int (nI 0))) M3) else (Q (some (.int (nI 1))) M3))) else (Q (some (.int (-2 : Int32))) M2))) else (Q (some (.int (-1 : Int32))) M1))) : K_M_holds sa d Q 0 [some (.ref l0), some (.int l1), some (.int l2)] [] M u := by
  refine b_M_holds_0 ?_
  obtain ⟨hz, h⟩ := h
  refine ⟨hz, ?_⟩
  refine xEv_post' _ _ _ _ _ (xrI_mono (fun _ _ h => ?_)) h
  refine xite_mono (fun h => ?_) (fun h => ?_) h
  · refine b_M_holds_2 ?_
    obtain ⟨hz, h⟩ := h
    refine ⟨hz, ?_⟩
    refine xEv_post' _ _ _ _ _ (xrI_mono (fun _ _ h => ?_)) h
    refine xite_mono (fun h => ?_) (fun h => ?_) h
    · refine b_M_holds_4 ?_
      obtain ⟨hz, h⟩ := h
      refine ⟨hz, ?_⟩
      refine xEv_post' _ _ _ _ _ (xrI_mono (fun _ _ h => ?_)) h
      refine xite_mono (fun h => ?_) (fun h => ?_) h
      · refine b_M_holds_6 ?_
        exact b_M_holds_7 h
      · refine b_M_holds_5 ?_
        exact b_M_holds_7 h
    · refine b_M_holds_3 ?_
      exact b_M_holds_7 h
  · exact b_M_holds_1 h
theorem t_M_holds {sa : Nat → Nat} {d : Nat} {Q : xQ} {l0 : Nat} {l1 : Int32} {l2 : Int32} {M : xM} (h : xobj M l0 12 ∧ xEv xP (xprim sa) d m_M_areRuns [.ref l0, .int l1, .int l2] M (xrI fun r1 M1 => if ¬ r1 = 0 then (xobj M1 l0 12 ∧ xEv xP (xprim sa) d m_M_findRuns [.ref l0, .int l1, .int l2] M1 (xrI fun r2 M2 => if ¬ r2 = 0 then (xobj M2 l0 12 ∧ xEv xP (xprim sa) d m_M_firstBad [.ref l0, .int l1] M2 (xrI fun r3 M3 => if 0 ≤ r3 then (Q (some (.int (nI 0))) M3) else (Q (some (.int (nI 1))) M3))) else (Q (some (.int (-2 : Int32))) M2))) else (Q (some (.int (-1 : Int32))) M1))) : xEv xP (xprim sa) (d + 1) m_M_holds [.ref l0, .int l1, .int l2] M Q := e_M_holds (t_M_holds_0 h)
set_option maxRecDepth 100000 in
theorem t_M_states_0 {sa : Nat → Nat} {d : Nat} {Q : xQ} {l0 : Nat} {l1 : Int32} {l2 : Int32} {M : xM} {u : xU} (h : xobj M l0 12 ∧ xEv xP (xprim sa) d m_M_areRuns [.ref l0, .int l1, .int l2] M (xrI fun r1 M1 => if ¬ r1 = 0 then (xobj M1 l0 12 ∧ xEv xP (xprim sa) d m_M_findRuns [.ref l0, .int l1, .int l2] M1 (xrI fun r2 M2 => if r2 = 0 then (Q (some (.int (-2 : Int32))) M2) else (xgfR M2 l0 12 29 fun v1 => (xaI M2 v1 l1 fun v2 => (Q (some (.int v2)) M2))))) else (Q (some (.int (-1 : Int32))) M1))) : K_M_states sa d Q 0 [some (.ref l0), some (.int l1), some (.int l2)] [] M u := by
  refine b_M_states_0 ?_
  obtain ⟨hz, h⟩ := h
  refine ⟨hz, ?_⟩
  refine xEv_post' _ _ _ _ _ (xrI_mono (fun _ _ h => ?_)) h
  refine xite_mono (fun h => ?_) (fun h => ?_) h
  · refine b_M_states_2 ?_
    obtain ⟨hz, h⟩ := h
    refine ⟨hz, ?_⟩
    refine xEv_post' _ _ _ _ _ (xrI_mono (fun _ _ h => ?_)) h
    refine xite_mono (fun h => ?_) (fun h => ?_) h
    · refine b_M_states_4 ?_
      exact b_M_states_5 h
    · refine b_M_states_3 ?_
      refine xgfR_mono (fun _ h => ?_) h
      refine xaI_mono (fun _ h => ?_) h
      exact b_M_states_5 h
  · exact b_M_states_1 h
theorem t_M_states {sa : Nat → Nat} {d : Nat} {Q : xQ} {l0 : Nat} {l1 : Int32} {l2 : Int32} {M : xM} (h : xobj M l0 12 ∧ xEv xP (xprim sa) d m_M_areRuns [.ref l0, .int l1, .int l2] M (xrI fun r1 M1 => if ¬ r1 = 0 then (xobj M1 l0 12 ∧ xEv xP (xprim sa) d m_M_findRuns [.ref l0, .int l1, .int l2] M1 (xrI fun r2 M2 => if r2 = 0 then (Q (some (.int (-2 : Int32))) M2) else (xgfR M2 l0 12 29 fun v1 => (xaI M2 v1 l1 fun v2 => (Q (some (.int v2)) M2))))) else (Q (some (.int (-1 : Int32))) M1))) : xEv xP (xprim sa) (d + 1) m_M_states [.ref l0, .int l1, .int l2] M Q := e_M_states (t_M_states_0 h)
set_option maxRecDepth 100000 in
theorem t_M_bad_0 {sa : Nat → Nat} {d : Nat} {Q : xQ} {l0 : Nat} {l1 : Int32} {l2 : Int32} {l3 : Int32} {l4 : Int32} {l5 : Int32} {M : xM} {u : xU} (h : xobj M l0 12 ∧ xEv xP (xprim sa) d m_M_areRuns [.ref l0, .int l1, .int l2] M (xrI fun r1 M1 => if r1 = 0 then (Q (some (.int (-3 : Int32))) M1) else (xEv xP (xprim sa) d m_M_isIn [.int l3, .int (nI 0), .int (l1 - (nI 1))] M1 (xrI fun r2 M2 => if r2 = 0 then (Q (some (.int (-3 : Int32))) M2) else (xobj M2 l0 12 ∧ xEv xP (xprim sa) d m_M_liars [.ref l0] M2 (xrI fun r3 M3 => xEv xP (xprim sa) d m_M_isIn [.int l4, .int (nI 0), .int (r3 - (nI 1))] M3 (xrI fun r4 M4 => if r4 = 0 then (Q (some (.int (-3 : Int32))) M4) else (xEv xP (xprim sa) d m_M_isIn [.int l5, .int (nI 0), .int (nI 2)] M4 (xrI fun r5 M5 => if ¬ r5 = 0 then (xobj M5 l0 12 ∧ xEv xP (xprim sa) d m_M_findRuns [.ref l0, .int l1, .int l2] M5 (xrI fun r6 M6 => if ¬ r6 = 0 then (xobj M6 l0 12 ∧ xEv xP (xprim sa) d m_M_firstBad [.ref l0, .int l1] M6 (xrI fun r7 M7 => if 0 ≤ r7 then K_M_bad sa d Q 10 [some (.ref l0), none, none, some (.int l3), some (.int l4), some (.int l5), some (.int r7), some (.int l1)] [] M7 u else (Q (some (.int (-3 : Int32))) M7))) else (Q (some (.int (-2 : Int32))) M6))) else (Q (some (.int (-3 : Int32))) M5)))))))))) : K_M_bad sa d Q 0 [some (.ref l0), some (.int l1), some (.int l2), some (.int l3), some (.int l4), some (.int l5), none, none] [] M u := by
  refine b_M_bad_0 ?_
  obtain ⟨hz, h⟩ := h
  refine ⟨hz, ?_⟩
  refine xEv_post' _ _ _ _ _ (xrI_mono (fun _ _ h => ?_)) h
  refine xite_mono (fun h => ?_) (fun h => ?_) h
  · exact b_M_bad_4 h
  · refine b_M_bad_1 ?_
    refine xEv_post' _ _ _ _ _ (xrI_mono (fun _ _ h => ?_)) h
    refine xite_mono (fun h => ?_) (fun h => ?_) h
    · exact b_M_bad_4 h
    · refine b_M_bad_2 ?_
      obtain ⟨hz, h⟩ := h
      refine ⟨hz, ?_⟩
      refine xEv_post' _ _ _ _ _ (xrI_mono (fun _ _ h => ?_)) h
      refine xEv_post' _ _ _ _ _ (xrI_mono (fun _ _ h => ?_)) h
      refine xite_mono (fun h => ?_) (fun h => ?_) h
      · exact b_M_bad_4 h
      · refine b_M_bad_3 ?_
        refine xEv_post' _ _ _ _ _ (xrI_mono (fun _ _ h => ?_)) h
        refine xite_mono (fun h => ?_) (fun h => ?_) h
        · refine b_M_bad_5 ?_
          obtain ⟨hz, h⟩ := h
          refine ⟨hz, ?_⟩
          refine xEv_post' _ _ _ _ _ (xrI_mono (fun _ _ h => ?_)) h
          refine xite_mono (fun h => ?_) (fun h => ?_) h
          · refine b_M_bad_7 ?_
            obtain ⟨hz, h⟩ := h
            refine ⟨hz, ?_⟩
            refine xEv_post' _ _ _ _ _ (xrI_mono (fun _ _ h => ?_)) h
            refine xite_mono (fun h => ?_) (fun h => ?_) h
            · exact b_M_bad_9 h
            · exact b_M_bad_8 h
          · exact b_M_bad_6 h
        · exact b_M_bad_4 h
set_option maxRecDepth 100000 in
theorem t_M_bad_10 {sa : Nat → Nat} {d : Nat} {Q : xQ} {l0 : Nat} {l3 : Int32} {l4 : Int32} {l5 : Int32} {l6 : Int32} {l7 : Int32} {M : xM} {u : xU} (h : if l7 ≤ (l3 + (nI 1)) then (xgfR M l0 12 31 fun v1 => (xaI M v1 (((nI 2000) * (l3 + (nI 1))) + l6) fun v2 => (xobj M l0 12 ∧ xEv xP (xprim sa) d m_M_doingOf [.ref l0, .int v2, .int l4] M (xrI fun r1 M1 => xobj M1 l0 12 ∧ xEv xP (xprim sa) d m_M_partOf [.ref l0, .int r1, .int l5] M1 (xrI fun r2 M2 => Q (some (.int r2)) M2))))) else (xgfR M l0 12 30 fun v3 => (xaI M v3 (((nI 2000) * l7) + l6) fun v4 => (K_M_bad sa d Q 10 [some (.ref l0), none, none, some (.int l3), some (.int l4), some (.int l5), some (.int v4), some (.int (l7 + (-1 : Int32)))] [] M u)))) : K_M_bad sa d Q 10 [some (.ref l0), none, none, some (.int l3), some (.int l4), some (.int l5), some (.int l6), some (.int l7)] [] M u := by
  refine b_M_bad_10 ?_
  refine xite_mono (fun h => ?_) (fun h => ?_) h
  · exact b_M_bad_12 h
  · exact b_M_bad_11 h
theorem t_M_bad {sa : Nat → Nat} {d : Nat} {Q : xQ} {l0 : Nat} {l1 : Int32} {l2 : Int32} {l3 : Int32} {l4 : Int32} {l5 : Int32} {M : xM} (h : xobj M l0 12 ∧ xEv xP (xprim sa) d m_M_areRuns [.ref l0, .int l1, .int l2] M (xrI fun r1 M1 => if r1 = 0 then (Q (some (.int (-3 : Int32))) M1) else (xEv xP (xprim sa) d m_M_isIn [.int l3, .int (nI 0), .int (l1 - (nI 1))] M1 (xrI fun r2 M2 => if r2 = 0 then (Q (some (.int (-3 : Int32))) M2) else (xobj M2 l0 12 ∧ xEv xP (xprim sa) d m_M_liars [.ref l0] M2 (xrI fun r3 M3 => xEv xP (xprim sa) d m_M_isIn [.int l4, .int (nI 0), .int (r3 - (nI 1))] M3 (xrI fun r4 M4 => if r4 = 0 then (Q (some (.int (-3 : Int32))) M4) else (xEv xP (xprim sa) d m_M_isIn [.int l5, .int (nI 0), .int (nI 2)] M4 (xrI fun r5 M5 => if ¬ r5 = 0 then (xobj M5 l0 12 ∧ xEv xP (xprim sa) d m_M_findRuns [.ref l0, .int l1, .int l2] M5 (xrI fun r6 M6 => if ¬ r6 = 0 then (xobj M6 l0 12 ∧ xEv xP (xprim sa) d m_M_firstBad [.ref l0, .int l1] M6 (xrI fun r7 M7 => if 0 ≤ r7 then K_M_bad sa d Q 10 [some (.ref l0), none, none, some (.int l3), some (.int l4), some (.int l5), some (.int r7), some (.int l1)] [] M7 (0, 0) else (Q (some (.int (-3 : Int32))) M7))) else (Q (some (.int (-2 : Int32))) M6))) else (Q (some (.int (-3 : Int32))) M5)))))))))) : xEv xP (xprim sa) (d + 1) m_M_bad [.ref l0, .int l1, .int l2, .int l3, .int l4, .int l5] M Q := e_M_bad (t_M_bad_0 h)
set_option maxRecDepth 100000 in
theorem t_M_told_0 {sa : Nat → Nat} {d : Nat} {Q : xQ} {l0 : Nat} {l1 : Int32} {l2 : Int32} {l3 : Int32} {M : xM} {u : xU} (h : xobj M l0 12 ∧ xEv xP (xprim sa) d m_M_isRoom [.ref l0, .int l1] M (xrI fun r1 M1 => if r1 = 0 then (Q (some (.int (-1 : Int32))) M1) else (xEv xP (xprim sa) d m_M_isIn [.int l2, .int (-1 : Int32), .int (nI 99)] M1 (xrI fun r2 M2 => if r2 = 0 then (Q (some (.int (-1 : Int32))) M2) else (xEv xP (xprim sa) d m_M_isIn [.int l3, .int (-1 : Int32), .int (nI 99)] M2 (xrI fun r3 M3 => if r3 = 0 then (Q (some (.int (-1 : Int32))) M3) else (xgfR M3 l0 12 0 fun v1 => (xaI M3 v1 (nI 4) fun v2 => (if ¬ v2 = l1 then K_M_told sa d Q 6 [some (.ref l0), some (.int l1), some (.int l2), some (.int l3)] [] M3 u else (xgfR M3 l0 12 0 fun v3 => (xaI M3 v3 (nI 3) fun v4 => (if ¬ v4 = (nI 8) then K_M_told sa d Q 6 [some (.ref l0), some (.int l1), some (.int l2), some (.int l3)] [] M3 u else (Q (some (.int (-1 : Int32))) M3))))))))))))) : K_M_told sa d Q 0 [some (.ref l0), some (.int l1), some (.int l2), some (.int l3)] [] M u := by
  refine b_M_told_0 ?_
  obtain ⟨hz, h⟩ := h
  refine ⟨hz, ?_⟩
  refine xEv_post' _ _ _ _ _ (xrI_mono (fun _ _ h => ?_)) h
  refine xite_mono (fun h => ?_) (fun h => ?_) h
  · exact b_M_told_5 h
  · refine b_M_told_1 ?_
    refine xEv_post' _ _ _ _ _ (xrI_mono (fun _ _ h => ?_)) h
    refine xite_mono (fun h => ?_) (fun h => ?_) h
    · exact b_M_told_5 h
    · refine b_M_told_2 ?_
      refine xEv_post' _ _ _ _ _ (xrI_mono (fun _ _ h => ?_)) h
      refine xite_mono (fun h => ?_) (fun h => ?_) h
      · exact b_M_told_5 h
      · refine b_M_told_3 ?_
        refine xgfR_mono (fun _ h => ?_) h
        refine xaI_mono (fun _ h => ?_) h
        refine xite_mono (fun h => ?_) (fun h => ?_) h
        · exact h
        · refine b_M_told_4 ?_
          refine xgfR_mono (fun _ h => ?_) h
          refine xaI_mono (fun _ h => ?_) h
          refine xite_mono (fun h => ?_) (fun h => ?_) h
          · exact h
          · exact b_M_told_5 h
set_option maxRecDepth 100000 in
theorem t_M_told_6 {sa : Nat → Nat} {d : Nat} {Q : xQ} {l0 : Nat} {l1 : Int32} {l2 : Int32} {l3 : Int32} {M : xM} {u : xU} (h : xgfR M l0 12 0 fun v1 => (xaI M v1 (nI 4) fun v2 => (if v2 = l1 then (xgfR M l0 12 0 fun v3 => (xsI M v3 (nI 4) l1 fun M1 => (xgfR M1 l0 12 0 fun v4 => (xgfR M1 l0 12 0 fun v5 => (xaI M1 v5 (nI 3) fun v6 => (xsI M1 v4 ((nI 170) + ((nI 2) * v6)) l2 fun M2 => (xgfR M2 l0 12 0 fun v7 => (xgfR M2 l0 12 0 fun v8 => (xaI M2 v8 (nI 3) fun v9 => (xsI M2 v7 (((nI 170) + ((nI 2) * v9)) + (nI 1)) l3 fun M3 => (xgfR M3 l0 12 0 fun v10 => (xaI M3 v10 (nI 3) fun v11 => (xsI M3 v10 (nI 3) (v11 + (nI 1)) fun M4 => (xgfR M4 l0 12 0 fun v12 => (xaI M4 v12 (nI 3) fun v13 => (Q (some (.int v13)) M4)))))))))))))))) else (xgfR M l0 12 0 fun v14 => (xsI M v14 (nI 3) (nI 0) fun M5 => (xgfR M5 l0 12 0 fun v15 => (xsI M5 v15 (nI 4) l1 fun M6 => (xgfR M6 l0 12 0 fun v16 => (xgfR M6 l0 12 0 fun v17 => (xaI M6 v17 (nI 3) fun v18 => (xsI M6 v16 ((nI 170) + ((nI 2) * v18)) l2 fun M7 => (xgfR M7 l0 12 0 fun v19 => (xgfR M7 l0 12 0 fun v20 => (xaI M7 v20 (nI 3) fun v21 => (xsI M7 v19 (((nI 170) + ((nI 2) * v21)) + (nI 1)) l3 fun M8 => (xgfR M8 l0 12 0 fun v22 => (xaI M8 v22 (nI 3) fun v23 => (xsI M8 v22 (nI 3) (v23 + (nI 1)) fun M9 => (xgfR M9 l0 12 0 fun v24 => (xaI M9 v24 (nI 3) fun v25 => (Q (some (.int v25)) M9))))))))))))))))))))) : K_M_told sa d Q 6 [some (.ref l0), some (.int l1), some (.int l2), some (.int l3)] [] M u := by
  refine b_M_told_6 ?_
  refine xgfR_mono (fun _ h => ?_) h
  refine xaI_mono (fun _ h => ?_) h
  refine xite_mono (fun h => ?_) (fun h => ?_) h
  · exact b_M_told_8 h
  · refine b_M_told_7 ?_
    refine xgfR_mono (fun _ h => ?_) h
    refine xsI_mono (fun _ h => ?_) h
    exact b_M_told_8 h
theorem t_M_told {sa : Nat → Nat} {d : Nat} {Q : xQ} {l0 : Nat} {l1 : Int32} {l2 : Int32} {l3 : Int32} {M : xM} (h : xobj M l0 12 ∧ xEv xP (xprim sa) d m_M_isRoom [.ref l0, .int l1] M (xrI fun r1 M1 => if r1 = 0 then (Q (some (.int (-1 : Int32))) M1) else (xEv xP (xprim sa) d m_M_isIn [.int l2, .int (-1 : Int32), .int (nI 99)] M1 (xrI fun r2 M2 => if r2 = 0 then (Q (some (.int (-1 : Int32))) M2) else (xEv xP (xprim sa) d m_M_isIn [.int l3, .int (-1 : Int32), .int (nI 99)] M2 (xrI fun r3 M3 => if r3 = 0 then (Q (some (.int (-1 : Int32))) M3) else (xgfR M3 l0 12 0 fun v1 => (xaI M3 v1 (nI 4) fun v2 => (if ¬ v2 = l1 then K_M_told sa d Q 6 [some (.ref l0), some (.int l1), some (.int l2), some (.int l3)] [] M3 (0, 0) else (xgfR M3 l0 12 0 fun v3 => (xaI M3 v3 (nI 3) fun v4 => (if ¬ v4 = (nI 8) then K_M_told sa d Q 6 [some (.ref l0), some (.int l1), some (.int l2), some (.int l3)] [] M3 (0, 0) else (Q (some (.int (-1 : Int32))) M3))))))))))))) : xEv xP (xprim sa) (d + 1) m_M_told [.ref l0, .int l1, .int l2, .int l3] M Q := e_M_told (t_M_told_0 h)
set_option maxRecDepth 100000 in
theorem t_M_forget_0 {sa : Nat → Nat} {d : Nat} {Q : xQ} {l0 : Nat} {M : xM} {u : xU} (h : xgfR M l0 12 0 fun v1 => (xaI M v1 (nI 3) fun v2 => (xgfR M l0 12 0 fun v3 => (xsI M v3 (nI 3) (nI 0) fun M1 => (xgfR M1 l0 12 0 fun v4 => (xsI M1 v4 (nI 4) (-1 : Int32) fun M2 => (Q (some (.int v2)) M2))))))) : K_M_forget sa d Q 0 [some (.ref l0), none] [] M u := b_M_forget_0 h
theorem t_M_forget {sa : Nat → Nat} {d : Nat} {Q : xQ} {l0 : Nat} {M : xM} (h : xgfR M l0 12 0 fun v1 => (xaI M v1 (nI 3) fun v2 => (xgfR M l0 12 0 fun v3 => (xsI M v3 (nI 3) (nI 0) fun M1 => (xgfR M1 l0 12 0 fun v4 => (xsI M1 v4 (nI 4) (-1 : Int32) fun M2 => (Q (some (.int v2)) M2))))))) : xEv xP (xprim sa) (d + 1) m_M_forget [.ref l0] M Q := e_M_forget (t_M_forget_0 h)
set_option maxRecDepth 100000 in
theorem t_M_canBe_0 {sa : Nat → Nat} {d : Nat} {Q : xQ} {l0 : Nat} {l1 : Int32} {l2 : Int32} {M : xM} {u : xU} (h : xobj M l0 12 ∧ xEv xP (xprim sa) d m_M_asTold [.ref l0] M (xrV fun M1 => K_M_canBe sa d Q 1 [some (.ref l0), some (.int l1), some (.int l2), some (.int (nI 0))] [] M1 u)) : K_M_canBe sa d Q 0 [some (.ref l0), some (.int l1), some (.int l2), none] [] M u := b_M_canBe_0 h
set_option maxRecDepth 100000 in
theorem t_M_canBe_1 {sa : Nat → Nat} {d : Nat} {Q : xQ} {l0 : Nat} {l1 : Int32} {l2 : Int32} {l3 : Int32} {M : xM} {u : xU} (h : xgfI M l0 12 2 fun v1 => (if v1 ≤ l3 then (xpf M l0 12 36 (.int l2) fun M1 => (xpf M1 l0 12 35 (.int (nI 0)) fun M2 => (if l1 < 0 then (xobj M2 l0 12 ∧ xEv xP (xprim sa) d m_M_beginRuns [.ref l0] M2 (xrV fun M3 => K_M_canBe sa d Q 8 [some (.ref l0), none, none, some (.int (nI 0))] [] M3 u)) else (xgfR M2 l0 12 26 fun v2 => (xsI M2 v2 l1 (nI 3) fun M4 => (xgfR M4 l0 12 34 fun v3 => (xsI M4 v3 (nI 0) l1 fun M5 => (xpf M5 l0 12 35 (.int (nI 1)) fun M6 => (xobj M6 l0 12 ∧ xEv xP (xprim sa) d m_M_beginRuns [.ref l0] M6 (xrV fun M7 => K_M_canBe sa d Q 8 [some (.ref l0), none, none, some (.int (nI 0))] [] M7 u)))))))))) else (xgfR M l0 12 26 fun v4 => (xaI M v4 l3 fun v5 => (if ¬ v5 = (nI 1) then K_M_canBe sa d Q 1 [some (.ref l0), some (.int l1), some (.int l2), some (.int (l3 + (nI 1)))] [] M u else (xgfR M l0 12 26 fun v6 => (xsI M v6 l3 (nI 0) fun M8 => (K_M_canBe sa d Q 1 [some (.ref l0), some (.int l1), some (.int l2), some (.int (l3 + (nI 1)))] [] M8 u)))))))) : K_M_canBe sa d Q 1 [some (.ref l0), some (.int l1), some (.int l2), some (.int l3)] [] M u := by
  refine b_M_canBe_1 ?_
  refine xgfI_mono (fun _ h => ?_) h
  refine xite_mono (fun h => ?_) (fun h => ?_) h
  · refine b_M_canBe_5 ?_
    refine xpf_mono (fun _ h => ?_) h
    refine xpf_mono (fun _ h => ?_) h
    refine xite_mono (fun h => ?_) (fun h => ?_) h
    · exact b_M_canBe_7 h
    · refine b_M_canBe_6 ?_
      refine xgfR_mono (fun _ h => ?_) h
      refine xsI_mono (fun _ h => ?_) h
      refine xgfR_mono (fun _ h => ?_) h
      refine xsI_mono (fun _ h => ?_) h
      refine xpf_mono (fun _ h => ?_) h
      exact b_M_canBe_7 h
  · refine b_M_canBe_2 ?_
    refine xgfR_mono (fun _ h => ?_) h
    refine xaI_mono (fun _ h => ?_) h
    refine xite_mono (fun h => ?_) (fun h => ?_) h
    · exact b_M_canBe_4 h
    · refine b_M_canBe_3 ?_
      refine xgfR_mono (fun _ h => ?_) h
      refine xsI_mono (fun _ h => ?_) h
      exact b_M_canBe_4 h
set_option maxRecDepth 100000 in
theorem t_M_canBe_8 {sa : Nat → Nat} {d : Nat} {Q : xQ} {l0 : Nat} {l3 : Int32} {M : xM} {u : xU} (h : xgfR M l0 12 0 fun v1 => (xaI M v1 (nI 3) fun v2 => (if v2 ≤ l3 then (((nI 1) = 0 ∨ (nI 1) = 1) ∧ Q (some (.int (nI 1))) M) else (xgfR M l0 12 0 fun v3 => (xaI M v3 (nI 4) fun v4 => (xobj M l0 12 ∧ xEv xP (xprim sa) d m_M_findNext [.ref l0, .int l3, .int v4, .int ((nI 170) + ((nI 2) * l3))] M (xrI fun r1 M1 => if ¬ r1 = 0 then (xgfR M1 l0 12 29 fun v5 => (xaI M1 v5 (l3 + (nI 1)) fun v6 => (if ¬ v6 = 0 then K_M_canBe sa d Q 8 [some (.ref l0), none, none, some (.int (l3 + (nI 1)))] [] M1 u else (((nI 0) = 0 ∨ (nI 0) = 1) ∧ Q (some (.int (nI 0))) M1)))) else (((nI 1) = 0 ∨ (nI 1) = 1) ∧ Q (some (.int (nI 1))) M1)))))))) : K_M_canBe sa d Q 8 [some (.ref l0), none, none, some (.int l3)] [] M u := by
  refine b_M_canBe_8 ?_
  refine xgfR_mono (fun _ h => ?_) h
  refine xaI_mono (fun _ h => ?_) h
  refine xite_mono (fun h => ?_) (fun h => ?_) h
  · exact b_M_canBe_14 h
  · refine b_M_canBe_9 ?_
    refine xgfR_mono (fun _ h => ?_) h
    refine xaI_mono (fun _ h => ?_) h
    obtain ⟨hz, h⟩ := h
    refine ⟨hz, ?_⟩
    refine xEv_post' _ _ _ _ _ (xrI_mono (fun _ _ h => ?_)) h
    refine xite_mono (fun h => ?_) (fun h => ?_) h
    · refine b_M_canBe_11 ?_
      refine xgfR_mono (fun _ h => ?_) h
      refine xaI_mono (fun _ h => ?_) h
      refine xite_mono (fun h => ?_) (fun h => ?_) h
      · exact b_M_canBe_13 h
      · exact b_M_canBe_12 h
    · exact b_M_canBe_10 h
theorem t_M_canBe {sa : Nat → Nat} {d : Nat} {Q : xQ} {l0 : Nat} {l1 : Int32} {l2 : Int32} {M : xM} (h : xobj M l0 12 ∧ xEv xP (xprim sa) d m_M_asTold [.ref l0] M (xrV fun M1 => K_M_canBe sa d Q 1 [some (.ref l0), some (.int l1), some (.int l2), some (.int (nI 0))] [] M1 (0, 0))) : xEv xP (xprim sa) (d + 1) m_M_canBe [.ref l0, .int l1, .int l2] M Q := e_M_canBe (t_M_canBe_0 h)
set_option maxRecDepth 100000 in
theorem t_M_suspects_0 {sa : Nat → Nat} {d : Nat} {Q : xQ} {l0 : Nat} {l1 : Int32} {M : xM} {u : xU} (h : xEv xP (xprim sa) d m_M_isIn [.int l1, .int (nI 0), .int (nI 2)] M (xrI fun r1 M1 => if r1 = 0 then (Q (some (.int (-1 : Int32))) M1) else (xgfR M1 l0 12 0 fun v1 => (xaI M1 v1 (nI 3) fun v2 => (if ¬ v2 = 0 then (xobj M1 l0 12 ∧ xEv xP (xprim sa) d m_M_canBe [.ref l0, .int (-1 : Int32), .int l1] M1 (xrI fun r2 M2 => if r2 = 0 then K_M_suspects sa d Q 7 [some (.ref l0), some (.int l1), some (.int (nI 0)), some (.int (nI 0))] [] M2 u else K_M_suspects sa d Q 7 [some (.ref l0), some (.int l1), some (.int (nI 512)), some (.int (nI 0))] [] M2 u)) else (Q (some (.int (-1 : Int32))) M1)))))) : K_M_suspects sa d Q 0 [some (.ref l0), some (.int l1), none, none] [] M u := by
  refine b_M_suspects_0 ?_
  refine xEv_post' _ _ _ _ _ (xrI_mono (fun _ _ h => ?_)) h
  refine xite_mono (fun h => ?_) (fun h => ?_) h
  · exact b_M_suspects_2 h
  · refine b_M_suspects_1 ?_
    refine xgfR_mono (fun _ h => ?_) h
    refine xaI_mono (fun _ h => ?_) h
    refine xite_mono (fun h => ?_) (fun h => ?_) h
    · refine b_M_suspects_3 ?_
      obtain ⟨hz, h⟩ := h
      refine ⟨hz, ?_⟩
      refine xEv_post' _ _ _ _ _ (xrI_mono (fun _ _ h => ?_)) h
      refine xite_mono (fun h => ?_) (fun h => ?_) h
      · refine b_M_suspects_5 ?_
        exact b_M_suspects_6 h
      · refine b_M_suspects_4 ?_
        exact b_M_suspects_6 h
    · exact b_M_suspects_2 h
set_option maxRecDepth 100000 in
theorem t_M_suspects_7 {sa : Nat → Nat} {d : Nat} {Q : xQ} {l0 : Nat} {l1 : Int32} {l2 : Int32} {l3 : Int32} {M : xM} {u : xU} (h : xgfI M l0 12 2 fun v1 => (if v1 ≤ l3 then (Q (some (.int l2)) M) else (xgfR M l0 12 0 fun v2 => (xaI M v2 (nI 4) fun v3 => (if l3 = v3 then K_M_suspects sa d Q 7 [some (.ref l0), some (.int l1), some (.int l2), some (.int (l3 + (nI 1)))] [] M u else (xobj M l0 12 ∧ xEv xP (xprim sa) d m_M_canBe [.ref l0, .int l3, .int l1] M (xrI fun r1 M1 => if r1 = 0 then K_M_suspects sa d Q 7 [some (.ref l0), some (.int l1), some (.int l2), some (.int (l3 + (nI 1)))] [] M1 u else K_M_suspects sa d Q 7 [some (.ref l0), some (.int l1), some (.int (l2 ||| ((nI 1) <<< (l3 &&& 31)))), some (.int (l3 + (nI 1)))] [] M1 u))))))) : K_M_suspects sa d Q 7 [some (.ref l0), some (.int l1), some (.int l2), some (.int l3)] [] M u := by
  refine b_M_suspects_7 ?_
  refine xgfI_mono (fun _ h => ?_) h
  refine xite_mono (fun h => ?_) (fun h => ?_) h
  · exact b_M_suspects_12 h
  · refine b_M_suspects_8 ?_
    refine xgfR_mono (fun _ h => ?_) h
    refine xaI_mono (fun _ h => ?_) h
    refine xite_mono (fun h => ?_) (fun h => ?_) h
    · exact b_M_suspects_11 h
    · refine b_M_suspects_9 ?_
      obtain ⟨hz, h⟩ := h
      refine ⟨hz, ?_⟩
      refine xEv_post' _ _ _ _ _ (xrI_mono (fun _ _ h => ?_)) h
      refine xite_mono (fun h => ?_) (fun h => ?_) h
      · exact b_M_suspects_11 h
      · refine b_M_suspects_10 ?_
        exact b_M_suspects_11 h
theorem t_M_suspects {sa : Nat → Nat} {d : Nat} {Q : xQ} {l0 : Nat} {l1 : Int32} {M : xM} (h : xEv xP (xprim sa) d m_M_isIn [.int l1, .int (nI 0), .int (nI 2)] M (xrI fun r1 M1 => if r1 = 0 then (Q (some (.int (-1 : Int32))) M1) else (xgfR M1 l0 12 0 fun v1 => (xaI M1 v1 (nI 3) fun v2 => (if ¬ v2 = 0 then (xobj M1 l0 12 ∧ xEv xP (xprim sa) d m_M_canBe [.ref l0, .int (-1 : Int32), .int l1] M1 (xrI fun r2 M2 => if r2 = 0 then K_M_suspects sa d Q 7 [some (.ref l0), some (.int l1), some (.int (nI 0)), some (.int (nI 0))] [] M2 (0, 0) else K_M_suspects sa d Q 7 [some (.ref l0), some (.int l1), some (.int (nI 512)), some (.int (nI 0))] [] M2 (0, 0))) else (Q (some (.int (-1 : Int32))) M1)))))) : xEv xP (xprim sa) (d + 1) m_M_suspects [.ref l0, .int l1] M Q := e_M_suspects (t_M_suspects_0 h)
set_option maxRecDepth 100000 in
theorem t_M_isMore_0 {sa : Nat → Nat} {d : Nat} {Q : xQ} {l0 : Nat} {l1 : Int32} {l2 : Int32} {M : xM} {u : xU} (h : if ¬ l2 = 0 then (xobj M l0 12 ∧ xEv xP (xprim sa) d m_M_rightOf [.ref l0, .int l1] M (xrI fun r1 M1 => xgfR M1 l0 12 27 fun v1 => (xaI M1 v1 ((nI 11) + r1) fun v2 => (if 0 ≤ v2 then (xgfR M1 l0 12 27 fun v3 => (xgfR M1 l0 12 27 fun v4 => (xaI M1 v4 ((nI 11) + r1) fun v5 => (if ¬ v5 = (nI 99) then (xgfR M1 l0 12 27 fun v6 => (xaI M1 v6 ((nI 11) + r1) fun v7 => (xsI M1 v3 ((nI 11) + r1) (v7 + (nI 1)) fun M2 => (((nI 1) = 0 ∨ (nI 1) = 1) ∧ Q (some (.int (nI 1))) M2)))) else (xsI M1 v3 ((nI 11) + r1) (nI 0) fun M3 => (((nI 1) = 0 ∨ (nI 1) = 1) ∧ Q (some (.int (nI 1))) M3)))))) else (((nI 0) = 0 ∨ (nI 0) = 1) ∧ Q (some (.int (nI 0))) M1))))) else (xobj M l0 12 ∧ xEv xP (xprim sa) d m_M_leftOf [.ref l0, .int l1] M (xrI fun r2 M4 => xgfR M4 l0 12 27 fun v8 => (xaI M4 v8 ((nI 20) + r2) fun v9 => (if 0 ≤ v9 then (xgfR M4 l0 12 27 fun v10 => (xgfR M4 l0 12 27 fun v11 => (xaI M4 v11 ((nI 20) + r2) fun v12 => (if ¬ v12 = (nI 99) then (xgfR M4 l0 12 27 fun v13 => (xaI M4 v13 ((nI 20) + r2) fun v14 => (xsI M4 v10 ((nI 20) + r2) (v14 + (nI 1)) fun M5 => (((nI 1) = 0 ∨ (nI 1) = 1) ∧ Q (some (.int (nI 1))) M5)))) else (xsI M4 v10 ((nI 20) + r2) (nI 0) fun M6 => (((nI 1) = 0 ∨ (nI 1) = 1) ∧ Q (some (.int (nI 1))) M6)))))) else (((nI 0) = 0 ∨ (nI 0) = 1) ∧ Q (some (.int (nI 0))) M4)))))) : K_M_isMore sa d Q 0 [some (.ref l0), some (.int l1), some (.int l2), none] [] M u := by
  refine b_M_isMore_0 ?_
  refine xite_mono (fun h => ?_) (fun h => ?_) h
  · refine b_M_isMore_2 ?_
    obtain ⟨hz, h⟩ := h
    refine ⟨hz, ?_⟩
    refine xEv_post' _ _ _ _ _ (xrI_mono (fun _ _ h => ?_)) h
    refine b_M_isMore_3 ?_
    refine xgfR_mono (fun _ h => ?_) h
    refine xaI_mono (fun _ h => ?_) h
    refine xite_mono (fun h => ?_) (fun h => ?_) h
    · refine b_M_isMore_5 ?_
      refine xgfR_mono (fun _ h => ?_) h
      refine xgfR_mono (fun _ h => ?_) h
      refine xaI_mono (fun _ h => ?_) h
      refine xite_mono (fun h => ?_) (fun h => ?_) h
      · refine b_M_isMore_7 ?_
        refine xgfR_mono (fun _ h => ?_) h
        refine xaI_mono (fun _ h => ?_) h
        exact b_M_isMore_8 h
      · refine b_M_isMore_6 ?_
        exact b_M_isMore_8 h
    · exact b_M_isMore_4 h
  · refine b_M_isMore_1 ?_
    obtain ⟨hz, h⟩ := h
    refine ⟨hz, ?_⟩
    refine xEv_post' _ _ _ _ _ (xrI_mono (fun _ _ h => ?_)) h
    refine b_M_isMore_3 ?_
    refine xgfR_mono (fun _ h => ?_) h
    refine xaI_mono (fun _ h => ?_) h
    refine xite_mono (fun h => ?_) (fun h => ?_) h
    · refine b_M_isMore_5 ?_
      refine xgfR_mono (fun _ h => ?_) h
      refine xgfR_mono (fun _ h => ?_) h
      refine xaI_mono (fun _ h => ?_) h
      refine xite_mono (fun h => ?_) (fun h => ?_) h
      · refine b_M_isMore_7 ?_
        refine xgfR_mono (fun _ h => ?_) h
        refine xaI_mono (fun _ h => ?_) h
        exact b_M_isMore_8 h
      · refine b_M_isMore_6 ?_
        exact b_M_isMore_8 h
    · exact b_M_isMore_4 h
theorem t_M_isMore {sa : Nat → Nat} {d : Nat} {Q : xQ} {l0 : Nat} {l1 : Int32} {l2 : Int32} {M : xM} (h : if ¬ l2 = 0 then (xobj M l0 12 ∧ xEv xP (xprim sa) d m_M_rightOf [.ref l0, .int l1] M (xrI fun r1 M1 => xgfR M1 l0 12 27 fun v1 => (xaI M1 v1 ((nI 11) + r1) fun v2 => (if 0 ≤ v2 then (xgfR M1 l0 12 27 fun v3 => (xgfR M1 l0 12 27 fun v4 => (xaI M1 v4 ((nI 11) + r1) fun v5 => (if ¬ v5 = (nI 99) then (xgfR M1 l0 12 27 fun v6 => (xaI M1 v6 ((nI 11) + r1) fun v7 => (xsI M1 v3 ((nI 11) + r1) (v7 + (nI 1)) fun M2 => (((nI 1) = 0 ∨ (nI 1) = 1) ∧ Q (some (.int (nI 1))) M2)))) else (xsI M1 v3 ((nI 11) + r1) (nI 0) fun M3 => (((nI 1) = 0 ∨ (nI 1) = 1) ∧ Q (some (.int (nI 1))) M3)))))) else (((nI 0) = 0 ∨ (nI 0) = 1) ∧ Q (some (.int (nI 0))) M1))))) else (xobj M l0 12 ∧ xEv xP (xprim sa) d m_M_leftOf [.ref l0, .int l1] M (xrI fun r2 M4 => xgfR M4 l0 12 27 fun v8 => (xaI M4 v8 ((nI 20) + r2) fun v9 => (if 0 ≤ v9 then (xgfR M4 l0 12 27 fun v10 => (xgfR M4 l0 12 27 fun v11 => (xaI M4 v11 ((nI 20) + r2) fun v12 => (if ¬ v12 = (nI 99) then (xgfR M4 l0 12 27 fun v13 => (xaI M4 v13 ((nI 20) + r2) fun v14 => (xsI M4 v10 ((nI 20) + r2) (v14 + (nI 1)) fun M5 => (((nI 1) = 0 ∨ (nI 1) = 1) ∧ Q (some (.int (nI 1))) M5)))) else (xsI M4 v10 ((nI 20) + r2) (nI 0) fun M6 => (((nI 1) = 0 ∨ (nI 1) = 1) ∧ Q (some (.int (nI 1))) M6)))))) else (((nI 0) = 0 ∨ (nI 0) = 1) ∧ Q (some (.int (nI 0))) M4)))))) : xEv xP (xprim sa) (d + 1) m_M_isMore [.ref l0, .int l1, .int l2] M Q := e_M_isMore (t_M_isMore_0 h)
set_option maxRecDepth 100000 in
theorem t_M_isSlip_0 {sa : Nat → Nat} {d : Nat} {Q : xQ} {l0 : Nat} {l1 : Int32} {l2 : Int32} {l3 : Int32} {l4 : Int32} {l5 : Int32} {l6 : Int32} {M : xM} {u : xU} (h : xgfR M l0 12 27 fun v1 => (xobj M l0 12 ∧ xEv xP (xprim sa) d m_M_begin [.ref l0, .ref v1, .int (nI 0)] M (xrV fun M1 => K_M_isSlip sa d Q 1 [some (.ref l0), some (.int l1), some (.int l2), some (.int l3), some (.int l4), some (.int l5), some (.int l6), some (.int (nI 0))] [] M1 u))) : K_M_isSlip sa d Q 0 [some (.ref l0), some (.int l1), some (.int l2), some (.int l3), some (.int l4), some (.int l5), some (.int l6), none] [] M u := b_M_isSlip_0 h
set_option maxRecDepth 100000 in
theorem t_M_isSlip_1 {sa : Nat → Nat} {d : Nat} {Q : xQ} {l0 : Nat} {l1 : Int32} {l2 : Int32} {l3 : Int32} {l4 : Int32} {l5 : Int32} {l6 : Int32} {l7 : Int32} {M : xM} {u : xU} (h : if l1 ≤ l7 then (xgfR M l0 12 27 fun v1 => (xobj M l0 12 ∧ xEv xP (xprim sa) d m_M_says [.ref l0, .ref v1, .int (nI 0), .int l5] M (xrI fun r1 M1 => if ¬ r1 = l6 then (((nI 0) = 0 ∨ (nI 0) = 1) ∧ Q (some (.int (nI 0))) M1) else (((nI 1) = 0 ∨ (nI 1) = 1) ∧ Q (some (.int (nI 1))) M1)))) else (xobj M l0 12 ∧ xEv xP (xprim sa) d m_M_goOn [.ref l0] M (xrV fun M2 => if ¬ l7 = l2 then K_M_isSlip sa d Q 1 [some (.ref l0), some (.int l1), some (.int l2), some (.int l3), some (.int l4), some (.int l5), some (.int l6), some (.int (l7 + (nI 1)))] [] M2 u else (xobj M2 l0 12 ∧ xEv xP (xprim sa) d m_M_isMore [.ref l0, .int l3, .int l4] M2 (xrI fun r2 M3 => if ¬ r2 = 0 then K_M_isSlip sa d Q 1 [some (.ref l0), some (.int l1), some (.int l2), some (.int l3), some (.int l4), some (.int l5), some (.int l6), some (.int (l7 + (nI 1)))] [] M3 u else (((nI 0) = 0 ∨ (nI 0) = 1) ∧ Q (some (.int (nI 0))) M3)))))) : K_M_isSlip sa d Q 1 [some (.ref l0), some (.int l1), some (.int l2), some (.int l3), some (.int l4), some (.int l5), some (.int l6), some (.int l7)] [] M u := by
  refine b_M_isSlip_1 ?_
  refine xite_mono (fun h => ?_) (fun h => ?_) h
  · refine b_M_isSlip_6 ?_
    refine xgfR_mono (fun _ h => ?_) h
    obtain ⟨hz, h⟩ := h
    refine ⟨hz, ?_⟩
    refine xEv_post' _ _ _ _ _ (xrI_mono (fun _ _ h => ?_)) h
    refine xite_mono (fun h => ?_) (fun h => ?_) h
    · refine b_M_isSlip_8 ?_
      exact b_M_isSlip_9 h
    · refine b_M_isSlip_7 ?_
      exact b_M_isSlip_9 h
  · refine b_M_isSlip_2 ?_
    obtain ⟨hz, h⟩ := h
    refine ⟨hz, ?_⟩
    refine xEv_post' _ _ _ _ _ (xrV_mono (fun _ h => ?_)) h
    refine xite_mono (fun h => ?_) (fun h => ?_) h
    · exact b_M_isSlip_5 h
    · refine b_M_isSlip_3 ?_
      obtain ⟨hz, h⟩ := h
      refine ⟨hz, ?_⟩
      refine xEv_post' _ _ _ _ _ (xrI_mono (fun _ _ h => ?_)) h
      refine xite_mono (fun h => ?_) (fun h => ?_) h
      · exact b_M_isSlip_5 h
      · exact b_M_isSlip_4 h
theorem t_M_isSlip {sa : Nat → Nat} {d : Nat} {Q : xQ} {l0 : Nat} {l1 : Int32} {l2 : Int32} {l3 : Int32} {l4 : Int32} {l5 : Int32} {l6 : Int32} {M : xM} (h : xgfR M l0 12 27 fun v1 => (xobj M l0 12 ∧ xEv xP (xprim sa) d m_M_begin [.ref l0, .ref v1, .int (nI 0)] M (xrV fun M1 => K_M_isSlip sa d Q 1 [some (.ref l0), some (.int l1), some (.int l2), some (.int l3), some (.int l4), some (.int l5), some (.int l6), some (.int (nI 0))] [] M1 (0, 0)))) : xEv xP (xprim sa) (d + 1) m_M_isSlip [.ref l0, .int l1, .int l2, .int l3, .int l4, .int l5, .int l6] M Q := e_M_isSlip (t_M_isSlip_0 h)
set_option maxRecDepth 100000 in
theorem t_M_slips_0 {sa : Nat → Nat} {d : Nat} {Q : xQ} {l0 : Nat} {l1 : Int32} {l2 : Int32} {l3 : Int32} {l4 : Int32} {M : xM} {u : xU} (h : xEv xP (xprim sa) d m_M_isIn [.int l1, .int (nI 1), .int (nI 20)] M (xrI fun r1 M1 => if r1 = 0 then (Q (some (.int (-1 : Int32))) M1) else (xobj M1 l0 12 ∧ xEv xP (xprim sa) d m_M_isRoom [.ref l0, .int l2] M1 (xrI fun r2 M2 => if r2 = 0 then (Q (some (.int (-1 : Int32))) M2) else (xEv xP (xprim sa) d m_M_isIn [.int l3, .int (nI 0), .int (nI 9)] M2 (xrI fun r3 M3 => if r3 = 0 then (Q (some (.int (-1 : Int32))) M3) else (if (-1 : Int32) ≤ l4 then (xobj M3 l0 12 ∧ xEv xP (xprim sa) d m_M_asTold [.ref l0] M3 (xrV fun M4 => K_M_slips sa d Q 6 [some (.ref l0), some (.int l1), some (.int l2), some (.int l3), some (.int l4), some (.int (nI 0)), some (.int (nI 0)), none, none] [] M4 u)) else (Q (some (.int (-1 : Int32))) M3)))))))) : K_M_slips sa d Q 0 [some (.ref l0), some (.int l1), some (.int l2), some (.int l3), some (.int l4), none, none, none, none] [] M u := by
  refine b_M_slips_0 ?_
  refine xEv_post' _ _ _ _ _ (xrI_mono (fun _ _ h => ?_)) h
  refine xite_mono (fun h => ?_) (fun h => ?_) h
  · exact b_M_slips_4 h
  · refine b_M_slips_1 ?_
    obtain ⟨hz, h⟩ := h
    refine ⟨hz, ?_⟩
    refine xEv_post' _ _ _ _ _ (xrI_mono (fun _ _ h => ?_)) h
    refine xite_mono (fun h => ?_) (fun h => ?_) h
    · exact b_M_slips_4 h
    · refine b_M_slips_2 ?_
      refine xEv_post' _ _ _ _ _ (xrI_mono (fun _ _ h => ?_)) h
      refine xite_mono (fun h => ?_) (fun h => ?_) h
      · exact b_M_slips_4 h
      · refine b_M_slips_3 ?_
        refine xite_mono (fun h => ?_) (fun h => ?_) h
        · exact b_M_slips_5 h
        · exact b_M_slips_4 h
set_option maxRecDepth 100000 in
theorem t_M_slips_6 {sa : Nat → Nat} {d : Nat} {Q : xQ} {l0 : Nat} {l1 : Int32} {l2 : Int32} {l3 : Int32} {l4 : Int32} {l5 : Int32} {l6 : Int32} {M : xM} {u : xU} (h : if l1 ≤ l6 then (if ¬ l4 = (-1 : Int32) then (Q (some (.int (-1 : Int32))) M) else (Q (some (.int l5)) M)) else K_M_slips sa d Q 8 [some (.ref l0), some (.int l1), some (.int l2), some (.int l3), some (.int l4), some (.int l5), some (.int l6), some (.int (nI 0)), none] [] M u) : K_M_slips sa d Q 6 [some (.ref l0), some (.int l1), some (.int l2), some (.int l3), some (.int l4), some (.int l5), some (.int l6), none, none] [] M u := by
  refine b_M_slips_6 ?_
  refine xite_mono (fun h => ?_) (fun h => ?_) h
  · refine b_M_slips_19 ?_
    refine xite_mono (fun h => ?_) (fun h => ?_) h
    · refine b_M_slips_21 ?_
      exact b_M_slips_22 h
    · refine b_M_slips_20 ?_
      exact b_M_slips_22 h
  · exact b_M_slips_7 h
set_option maxRecDepth 100000 in
theorem t_M_slips_8 {sa : Nat → Nat} {d : Nat} {Q : xQ} {l0 : Nat} {l1 : Int32} {l2 : Int32} {l3 : Int32} {l4 : Int32} {l5 : Int32} {l6 : Int32} {l7 : Int32} {M : xM} {u : xU} (h : xgfI M l0 12 2 fun v1 => (if v1 ≤ l7 then K_M_slips sa d Q 6 [some (.ref l0), some (.int l1), some (.int l2), some (.int l3), some (.int l4), some (.int l5), some (.int (l6 + (nI 1))), none, none] [] M u else K_M_slips sa d Q 10 [some (.ref l0), some (.int l1), some (.int l2), some (.int l3), some (.int l4), some (.int l5), some (.int l6), some (.int l7), some (.int (nI 0))] [] M u)) : K_M_slips sa d Q 8 [some (.ref l0), some (.int l1), some (.int l2), some (.int l3), some (.int l4), some (.int l5), some (.int l6), some (.int l7), none] [] M u := by
  refine b_M_slips_8 ?_
  refine xgfI_mono (fun _ h => ?_) h
  refine xite_mono (fun h => ?_) (fun h => ?_) h
  · exact b_M_slips_18 h
  · exact b_M_slips_9 h
set_option maxRecDepth 100000 in
theorem t_M_slips_10 {sa : Nat → Nat} {d : Nat} {Q : xQ} {l0 : Nat} {l1 : Int32} {l2 : Int32} {l3 : Int32} {l4 : Int32} {l5 : Int32} {l6 : Int32} {l7 : Int32} {l8 : Int32} {M : xM} {u : xU} (h : if (nI 2) ≤ l8 then K_M_slips sa d Q 8 [some (.ref l0), some (.int l1), some (.int l2), some (.int l3), some (.int l4), some (.int l5), some (.int l6), some (.int (l7 + (nI 1))), none] [] M u else (xobj M l0 12 ∧ xEv xP (xprim sa) d m_M_isSlip [.ref l0, .int l1, .int l6, .int l7, .int l8, .int l2, .int l3] M (xrI fun r1 M1 => if ¬ r1 = 0 then (if ¬ l5 = l4 then K_M_slips sa d Q 10 [some (.ref l0), some (.int l1), some (.int l2), some (.int l3), some (.int l4), some (.int (l5 + (nI 1))), some (.int l6), some (.int l7), some (.int (l8 + (nI 1)))] [] M1 u else (Q (some (.int ((((nI 100) * l6) + ((nI 10) * l7)) + l8))) M1)) else K_M_slips sa d Q 10 [some (.ref l0), some (.int l1), some (.int l2), some (.int l3), some (.int l4), some (.int l5), some (.int l6), some (.int l7), some (.int (l8 + (nI 1)))] [] M1 u))) : K_M_slips sa d Q 10 [some (.ref l0), some (.int l1), some (.int l2), some (.int l3), some (.int l4), some (.int l5), some (.int l6), some (.int l7), some (.int l8)] [] M u := by
  refine b_M_slips_10 ?_
  refine xite_mono (fun h => ?_) (fun h => ?_) h
  · exact b_M_slips_17 h
  · refine b_M_slips_11 ?_
    obtain ⟨hz, h⟩ := h
    refine ⟨hz, ?_⟩
    refine xEv_post' _ _ _ _ _ (xrI_mono (fun _ _ h => ?_)) h
    refine xite_mono (fun h => ?_) (fun h => ?_) h
    · refine b_M_slips_13 ?_
      refine xite_mono (fun h => ?_) (fun h => ?_) h
      · refine b_M_slips_15 ?_
        exact b_M_slips_16 h
      · exact b_M_slips_14 h
    · refine b_M_slips_12 ?_
      exact b_M_slips_16 h
theorem t_M_slips {sa : Nat → Nat} {d : Nat} {Q : xQ} {l0 : Nat} {l1 : Int32} {l2 : Int32} {l3 : Int32} {l4 : Int32} {M : xM} (h : xEv xP (xprim sa) d m_M_isIn [.int l1, .int (nI 1), .int (nI 20)] M (xrI fun r1 M1 => if r1 = 0 then (Q (some (.int (-1 : Int32))) M1) else (xobj M1 l0 12 ∧ xEv xP (xprim sa) d m_M_isRoom [.ref l0, .int l2] M1 (xrI fun r2 M2 => if r2 = 0 then (Q (some (.int (-1 : Int32))) M2) else (xEv xP (xprim sa) d m_M_isIn [.int l3, .int (nI 0), .int (nI 9)] M2 (xrI fun r3 M3 => if r3 = 0 then (Q (some (.int (-1 : Int32))) M3) else (if (-1 : Int32) ≤ l4 then (xobj M3 l0 12 ∧ xEv xP (xprim sa) d m_M_asTold [.ref l0] M3 (xrV fun M4 => K_M_slips sa d Q 6 [some (.ref l0), some (.int l1), some (.int l2), some (.int l3), some (.int l4), some (.int (nI 0)), some (.int (nI 0)), none, none] [] M4 (0, 0))) else (Q (some (.int (-1 : Int32))) M3)))))))) : xEv xP (xprim sa) (d + 1) m_M_slips [.ref l0, .int l1, .int l2, .int l3, .int l4] M Q := e_M_slips (t_M_slips_0 h)
set_option maxRecDepth 100000 in
theorem t_M_watch_0 {sa : Nat → Nat} {d : Nat} {Q : xQ} {l0 : Nat} {l1 : Int32} {l2 : Int32} {l3 : Int32} {M : xM} {u : xU} (h : K_M_watch sa d Q 1 [some (.ref l0), some (.int l1), some (.int l2), some (.int l3), some (.int (nI 0))] [] M u) : K_M_watch sa d Q 0 [some (.ref l0), some (.int l1), some (.int l2), some (.int l3), none] [] M u := b_M_watch_0 h
set_option maxRecDepth 100000 in
theorem t_M_watch_1 {sa : Nat → Nat} {d : Nat} {Q : xQ} {l0 : Nat} {l1 : Int32} {l2 : Int32} {l3 : Int32} {l4 : Int32} {M : xM} {u : xU} (h : if l2 ≤ l4 then (Q none M) else (xobj M l0 12 ∧ xEv xP (xprim sa) d m_M_goOn [.ref l0] M (xrV fun M1 => xgfR M1 l0 12 39 fun v1 => (xgfR M1 l0 12 27 fun v2 => (xobj M1 l0 12 ∧ xEv xP (xprim sa) d m_M_rightOf [.ref l0, .int l1] M1 (xrI fun r1 M2 => xaI M2 v2 ((nI 11) + r1) fun v3 => (xsI M2 v1 (((nI 40) * l3) + ((nI 2) * l4)) v3 fun M3 => (xgfR M3 l0 12 39 fun v4 => (xgfR M3 l0 12 27 fun v5 => (xaI M3 v5 ((nI 20) + l1) fun v6 => (xsI M3 v4 ((((nI 40) * l3) + ((nI 2) * l4)) + (nI 1)) v6 fun M4 => (K_M_watch sa d Q 1 [some (.ref l0), some (.int l1), some (.int l2), some (.int l3), some (.int (l4 + (nI 1)))] [] M4 u)))))))))))) : K_M_watch sa d Q 1 [some (.ref l0), some (.int l1), some (.int l2), some (.int l3), some (.int l4)] [] M u := by
  refine b_M_watch_1 ?_
  refine xite_mono (fun h => ?_) (fun h => ?_) h
  · exact b_M_watch_3 h
  · exact b_M_watch_2 h
theorem t_M_watch {sa : Nat → Nat} {d : Nat} {Q : xQ} {l0 : Nat} {l1 : Int32} {l2 : Int32} {l3 : Int32} {M : xM} (h : K_M_watch sa d Q 1 [some (.ref l0), some (.int l1), some (.int l2), some (.int l3), some (.int (nI 0))] [] M (0, 0)) : xEv xP (xprim sa) (d + 1) m_M_watch [.ref l0, .int l1, .int l2, .int l3] M Q := e_M_watch (t_M_watch_0 h)
set_option maxRecDepth 100000 in
theorem t_M_sameSeen_0 {sa : Nat → Nat} {d : Nat} {Q : xQ} {l0 : Nat} {l1 : Int32} {l2 : Int32} {l3 : Int32} {M : xM} {u : xU} (h : K_M_sameSeen sa d Q 1 [some (.ref l0), some (.int l1), some (.int l2), some (.int l3), some (.int (nI 0))] [] M u) : K_M_sameSeen sa d Q 0 [some (.ref l0), some (.int l1), some (.int l2), some (.int l3), none] [] M u := b_M_sameSeen_0 h
set_option maxRecDepth 100000 in
theorem t_M_sameSeen_1 {sa : Nat → Nat} {d : Nat} {Q : xQ} {l0 : Nat} {l1 : Int32} {l2 : Int32} {l3 : Int32} {l4 : Int32} {M : xM} {u : xU} (h : if ((nI 2) * l1) ≤ l4 then (((nI 1) = 0 ∨ (nI 1) = 1) ∧ Q (some (.int (nI 1))) M) else (xgfR M l0 12 39 fun v1 => (xaI M v1 (((nI 40) * l2) + l4) fun v2 => (xgfR M l0 12 39 fun v3 => (xaI M v3 (((nI 40) * l3) + l4) fun v4 => (if v2 = v4 then K_M_sameSeen sa d Q 1 [some (.ref l0), some (.int l1), some (.int l2), some (.int l3), some (.int (l4 + (nI 1)))] [] M u else (((nI 0) = 0 ∨ (nI 0) = 1) ∧ Q (some (.int (nI 0))) M))))))) : K_M_sameSeen sa d Q 1 [some (.ref l0), some (.int l1), some (.int l2), some (.int l3), some (.int l4)] [] M u := by
  refine b_M_sameSeen_1 ?_
  refine xite_mono (fun h => ?_) (fun h => ?_) h
  · exact b_M_sameSeen_5 h
  · refine b_M_sameSeen_2 ?_
    refine xgfR_mono (fun _ h => ?_) h
    refine xaI_mono (fun _ h => ?_) h
    refine xgfR_mono (fun _ h => ?_) h
    refine xaI_mono (fun _ h => ?_) h
    refine xite_mono (fun h => ?_) (fun h => ?_) h
    · exact b_M_sameSeen_4 h
    · exact b_M_sameSeen_3 h
theorem t_M_sameSeen {sa : Nat → Nat} {d : Nat} {Q : xQ} {l0 : Nat} {l1 : Int32} {l2 : Int32} {l3 : Int32} {M : xM} (h : K_M_sameSeen sa d Q 1 [some (.ref l0), some (.int l1), some (.int l2), some (.int l3), some (.int (nI 0))] [] M (0, 0)) : xEv xP (xprim sa) (d + 1) m_M_sameSeen [.ref l0, .int l1, .int l2, .int l3] M Q := e_M_sameSeen (t_M_sameSeen_0 h)
set_option maxRecDepth 100000 in
theorem t_M_learns_0 {sa : Nat → Nat} {d : Nat} {Q : xQ} {l0 : Nat} {l1 : Int32} {l2 : Int32} {l3 : Int32} {M : xM} {u : xU} (h : xobj M l0 12 ∧ xEv xP (xprim sa) d m_M_isRoom [.ref l0, .int l1] M (xrI fun r1 M1 => if r1 = 0 then (Q (some (.int (-1 : Int32))) M1) else (xEv xP (xprim sa) d m_M_isIn [.int l2, .int (nI 0), .int (nI 20)] M1 (xrI fun r2 M2 => if r2 = 0 then (Q (some (.int (-1 : Int32))) M2) else (xobj M2 l0 12 ∧ xEv xP (xprim sa) d m_M_isRoom [.ref l0, .int l3] M2 (xrI fun r3 M3 => if ¬ r3 = 0 then (xobj M3 l0 12 ∧ xEv xP (xprim sa) d m_M_asTold [.ref l0] M3 (xrV fun M4 => K_M_learns sa d Q 5 [some (.ref l0), some (.int l1), some (.int l2), some (.int l3), some (.int (nI 0)), some (.int (nI 0)), none, none] [] M4 u)) else (Q (some (.int (-1 : Int32))) M3))))))) : K_M_learns sa d Q 0 [some (.ref l0), some (.int l1), some (.int l2), some (.int l3), none, none, none, none] [] M u := by
  refine b_M_learns_0 ?_
  obtain ⟨hz, h⟩ := h
  refine ⟨hz, ?_⟩
  refine xEv_post' _ _ _ _ _ (xrI_mono (fun _ _ h => ?_)) h
  refine xite_mono (fun h => ?_) (fun h => ?_) h
  · exact b_M_learns_3 h
  · refine b_M_learns_1 ?_
    refine xEv_post' _ _ _ _ _ (xrI_mono (fun _ _ h => ?_)) h
    refine xite_mono (fun h => ?_) (fun h => ?_) h
    · exact b_M_learns_3 h
    · refine b_M_learns_2 ?_
      obtain ⟨hz, h⟩ := h
      refine ⟨hz, ?_⟩
      refine xEv_post' _ _ _ _ _ (xrI_mono (fun _ _ h => ?_)) h
      refine xite_mono (fun h => ?_) (fun h => ?_) h
      · exact b_M_learns_4 h
      · exact b_M_learns_3 h
set_option maxRecDepth 100000 in
theorem t_M_learns_5 {sa : Nat → Nat} {d : Nat} {Q : xQ} {l0 : Nat} {l1 : Int32} {l2 : Int32} {l3 : Int32} {l4 : Int32} {l5 : Int32} {M : xM} {u : xU} (h : if (nI 10) ≤ l5 then (Q (some (.int l4)) M) else (xgfR M l0 12 27 fun v1 => (xobj M l0 12 ∧ xEv xP (xprim sa) d m_M_begin [.ref l0, .ref v1, .int (nI 0)] M (xrV fun M1 => xgfR M1 l0 12 27 fun v2 => (xsI M1 v2 ((nI 2) + l3) l5 fun M2 => (xgfR M2 l0 12 25 fun v3 => (xsI M2 v3 l3 l5 fun M3 => (xobj M3 l0 12 ∧ xEv xP (xprim sa) d m_M_watch [.ref l0, .int l1, .int l2, .int l5] M3 (xrV fun M4 => K_M_learns sa d Q 7 [some (.ref l0), some (.int l1), some (.int l2), some (.int l3), some (.int l4), some (.int l5), some (.int (nI 1)), some (.int (nI 0))] [] M4 u))))))))) : K_M_learns sa d Q 5 [some (.ref l0), some (.int l1), some (.int l2), some (.int l3), some (.int l4), some (.int l5), none, none] [] M u := by
  refine b_M_learns_5 ?_
  refine xite_mono (fun h => ?_) (fun h => ?_) h
  · exact b_M_learns_17 h
  · exact b_M_learns_6 h
set_option maxRecDepth 100000 in
theorem t_M_learns_7 {sa : Nat → Nat} {d : Nat} {Q : xQ} {l0 : Nat} {l1 : Int32} {l2 : Int32} {l3 : Int32} {l4 : Int32} {l5 : Int32} {l6 : Int32} {l7 : Int32} {M : xM} {u : xU} (h : if l5 ≤ l7 then (if l6 = 0 then K_M_learns sa d Q 5 [some (.ref l0), some (.int l1), some (.int l2), some (.int l3), some (.int (l4 + (nI 0))), some (.int (l5 + (nI 1))), none, none] [] M u else K_M_learns sa d Q 5 [some (.ref l0), some (.int l1), some (.int l2), some (.int l3), some (.int (l4 + (nI 1))), some (.int (l5 + (nI 1))), none, none] [] M u) else (if l6 = 0 then K_M_learns sa d Q 7 [some (.ref l0), some (.int l1), some (.int l2), some (.int l3), some (.int l4), some (.int l5), some (.int (nI 0)), some (.int (l7 + (nI 1)))] [] M u else (xobj M l0 12 ∧ xEv xP (xprim sa) d m_M_sameSeen [.ref l0, .int l2, .int l7, .int l5] M (xrI fun r1 M1 => if ¬ r1 = 0 then K_M_learns sa d Q 7 [some (.ref l0), some (.int l1), some (.int l2), some (.int l3), some (.int l4), some (.int l5), some (.int (nI 0)), some (.int (l7 + (nI 1)))] [] M1 u else K_M_learns sa d Q 7 [some (.ref l0), some (.int l1), some (.int l2), some (.int l3), some (.int l4), some (.int l5), some (.int (nI 1)), some (.int (l7 + (nI 1)))] [] M1 u)))) : K_M_learns sa d Q 7 [some (.ref l0), some (.int l1), some (.int l2), some (.int l3), some (.int l4), some (.int l5), some (.int l6), some (.int l7)] [] M u := by
  refine b_M_learns_7 ?_
  refine xite_mono (fun h => ?_) (fun h => ?_) h
  · refine b_M_learns_13 ?_
    refine xite_mono (fun h => ?_) (fun h => ?_) h
    · refine b_M_learns_15 ?_
      exact b_M_learns_16 h
    · refine b_M_learns_14 ?_
      exact b_M_learns_16 h
  · refine b_M_learns_8 ?_
    refine xite_mono (fun h => ?_) (fun h => ?_) h
    · refine b_M_learns_11 ?_
      exact b_M_learns_12 h
    · refine b_M_learns_9 ?_
      obtain ⟨hz, h⟩ := h
      refine ⟨hz, ?_⟩
      refine xEv_post' _ _ _ _ _ (xrI_mono (fun _ _ h => ?_)) h
      refine xite_mono (fun h => ?_) (fun h => ?_) h
      · refine b_M_learns_11 ?_
        exact b_M_learns_12 h
      · refine b_M_learns_10 ?_
        exact b_M_learns_12 h
theorem t_M_learns {sa : Nat → Nat} {d : Nat} {Q : xQ} {l0 : Nat} {l1 : Int32} {l2 : Int32} {l3 : Int32} {M : xM} (h : xobj M l0 12 ∧ xEv xP (xprim sa) d m_M_isRoom [.ref l0, .int l1] M (xrI fun r1 M1 => if r1 = 0 then (Q (some (.int (-1 : Int32))) M1) else (xEv xP (xprim sa) d m_M_isIn [.int l2, .int (nI 0), .int (nI 20)] M1 (xrI fun r2 M2 => if r2 = 0 then (Q (some (.int (-1 : Int32))) M2) else (xobj M2 l0 12 ∧ xEv xP (xprim sa) d m_M_isRoom [.ref l0, .int l3] M2 (xrI fun r3 M3 => if ¬ r3 = 0 then (xobj M3 l0 12 ∧ xEv xP (xprim sa) d m_M_asTold [.ref l0] M3 (xrV fun M4 => K_M_learns sa d Q 5 [some (.ref l0), some (.int l1), some (.int l2), some (.int l3), some (.int (nI 0)), some (.int (nI 0)), none, none] [] M4 (0, 0))) else (Q (some (.int (-1 : Int32))) M3))))))) : xEv xP (xprim sa) (d + 1) m_M_learns [.ref l0, .int l1, .int l2, .int l3] M Q := e_M_learns (t_M_learns_0 h)
set_option maxRecDepth 100000 in
theorem t_M_image_0 {sa : Nat → Nat} {d : Nat} {Q : xQ} {l0 : Nat} {M : xM} {u : xU} (h : xgfR M l0 12 0 fun v1 => (xgfR M l0 12 1 fun v2 => (xEv xP (xprim sa) d m_M_copy [.ref v1, .ref v2] M (xrV fun M1 => xgfR M1 l0 12 0 fun v3 => (xaI M1 v3 (nI 190) fun v4 => (Q (some (.int v4)) M1)))))) : K_M_image sa d Q 0 [some (.ref l0)] [] M u := b_M_image_0 h
theorem t_M_image {sa : Nat → Nat} {d : Nat} {Q : xQ} {l0 : Nat} {M : xM} (h : xgfR M l0 12 0 fun v1 => (xgfR M l0 12 1 fun v2 => (xEv xP (xprim sa) d m_M_copy [.ref v1, .ref v2] M (xrV fun M1 => xgfR M1 l0 12 0 fun v3 => (xaI M1 v3 (nI 190) fun v4 => (Q (some (.int v4)) M1)))))) : xEv xP (xprim sa) (d + 1) m_M_image [.ref l0] M Q := e_M_image (t_M_image_0 h)
set_option maxRecDepth 100000 in
theorem t_M_back_0 {sa : Nat → Nat} {d : Nat} {Q : xQ} {l0 : Nat} {M : xM} {u : xU} (h : xgfR M l0 12 1 fun v1 => (xgfR M l0 12 0 fun v2 => (xEv xP (xprim sa) d m_M_copy [.ref v1, .ref v2] M (xrV fun M1 => xgfR M1 l0 12 0 fun v3 => (xaI M1 v3 (nI 190) fun v4 => (Q (some (.int v4)) M1)))))) : K_M_back sa d Q 0 [some (.ref l0)] [] M u := b_M_back_0 h
theorem t_M_back {sa : Nat → Nat} {d : Nat} {Q : xQ} {l0 : Nat} {M : xM} (h : xgfR M l0 12 1 fun v1 => (xgfR M l0 12 0 fun v2 => (xEv xP (xprim sa) d m_M_copy [.ref v1, .ref v2] M (xrV fun M1 => xgfR M1 l0 12 0 fun v3 => (xaI M1 v3 (nI 190) fun v4 => (Q (some (.int v4)) M1)))))) : xEv xP (xprim sa) (d + 1) m_M_back [.ref l0] M Q := e_M_back (t_M_back_0 h)
set_option maxRecDepth 100000 in
theorem t_M_barred_0 {sa : Nat → Nat} {d : Nat} {Q : xQ} {l0 : Nat} {M : xM} {u : xU} (h : K_M_barred sa d Q 1 [some (.ref l0), some (.int (nI 0)), some (.int (nI 0))] [] M u) : K_M_barred sa d Q 0 [some (.ref l0), none, none] [] M u := b_M_barred_0 h
set_option maxRecDepth 100000 in
theorem t_M_barred_1 {sa : Nat → Nat} {d : Nat} {Q : xQ} {l0 : Nat} {l1 : Int32} {l2 : Int32} {M : xM} {u : xU} (h : if (nI 100) ≤ l2 then (Q (some (.int l1)) M) else (xgfR M l0 12 0 fun v1 => (xaI M v1 ((nI 70) + l2) fun v2 => (K_M_barred sa d Q 1 [some (.ref l0), some (.int (l1 + v2)), some (.int (l2 + (nI 1)))] [] M u)))) : K_M_barred sa d Q 1 [some (.ref l0), some (.int l1), some (.int l2)] [] M u := by
  refine b_M_barred_1 ?_
  refine xite_mono (fun h => ?_) (fun h => ?_) h
  · exact b_M_barred_3 h
  · exact b_M_barred_2 h
theorem t_M_barred {sa : Nat → Nat} {d : Nat} {Q : xQ} {l0 : Nat} {M : xM} (h : K_M_barred sa d Q 1 [some (.ref l0), some (.int (nI 0)), some (.int (nI 0))] [] M (0, 0)) : xEv xP (xprim sa) (d + 1) m_M_barred [.ref l0] M Q := e_M_barred (t_M_barred_0 h)
set_option maxRecDepth 100000 in
theorem t_M_about_0 {sa : Nat → Nat} {d : Nat} {Q : xQ} {l0 : Nat} {l1 : Int32} {M : xM} {u : xU} (h : if l1 = (nI 0) then (xgfI M l0 12 2 fun v1 => (Q (some (.int v1)) M)) else (if l1 = (nI 1) then (xgfR M l0 12 0 fun v2 => (xaI M v2 (nI 190) fun v3 => (Q (some (.int v3)) M))) else (if l1 = (nI 2) then (xgfR M l0 12 0 fun v4 => (xaI M v4 (nI 191) fun v5 => (Q (some (.int v5)) M))) else (if l1 = (nI 3) then (xgfR M l0 12 0 fun v6 => (xaI M v6 (nI 0) fun v7 => (Q (some (.int v7)) M))) else (if l1 = (nI 4) then (xgfR M l0 12 0 fun v8 => (xaI M v8 (nI 1) fun v9 => (Q (some (.int v9)) M))) else (if l1 = (nI 5) then (xgfR M l0 12 0 fun v10 => (xaI M v10 (nI 2) fun v11 => (Q (some (.int v11)) M))) else (if l1 = (nI 6) then (xgfR M l0 12 0 fun v12 => (xaI M v12 (nI 3) fun v13 => (Q (some (.int v13)) M))) else (if l1 = (nI 7) then (xgfR M l0 12 0 fun v14 => (xaI M v14 (nI 4) fun v15 => (Q (some (.int v15)) M))) else (if l1 = (nI 8) then (xgfI M l0 12 5 fun v16 => (Q (some (.int v16)) M)) else (if l1 = (nI 9) then (xobj M l0 12 ∧ xEv xP (xprim sa) d m_M_barred [.ref l0] M (xrI fun r1 M1 => Q (some (.int r1)) M1)) else (Q (some (.int (-2 : Int32))) M))))))))))) : K_M_about sa d Q 0 [some (.ref l0), some (.int l1)] [] M u := by
  refine b_M_about_0 ?_
  refine xite_mono (fun h => ?_) (fun h => ?_) h
  · exact b_M_about_1 h
  · refine xite_mono (fun h => ?_) (fun h => ?_) h
    · exact b_M_about_2 h
    · refine xite_mono (fun h => ?_) (fun h => ?_) h
      · exact b_M_about_3 h
      · refine xite_mono (fun h => ?_) (fun h => ?_) h
        · exact b_M_about_4 h
        · refine xite_mono (fun h => ?_) (fun h => ?_) h
          · exact b_M_about_5 h
          · refine xite_mono (fun h => ?_) (fun h => ?_) h
            · exact b_M_about_6 h
            · refine xite_mono (fun h => ?_) (fun h => ?_) h
              · exact b_M_about_7 h
              · refine xite_mono (fun h => ?_) (fun h => ?_) h
                · exact b_M_about_8 h
                · refine xite_mono (fun h => ?_) (fun h => ?_) h
                  · exact b_M_about_9 h
                  · refine xite_mono (fun h => ?_) (fun h => ?_) h
                    · exact b_M_about_10 h
                    · exact b_M_about_11 h
theorem t_M_about {sa : Nat → Nat} {d : Nat} {Q : xQ} {l0 : Nat} {l1 : Int32} {M : xM} (h : if l1 = (nI 0) then (xgfI M l0 12 2 fun v1 => (Q (some (.int v1)) M)) else (if l1 = (nI 1) then (xgfR M l0 12 0 fun v2 => (xaI M v2 (nI 190) fun v3 => (Q (some (.int v3)) M))) else (if l1 = (nI 2) then (xgfR M l0 12 0 fun v4 => (xaI M v4 (nI 191) fun v5 => (Q (some (.int v5)) M))) else (if l1 = (nI 3) then (xgfR M l0 12 0 fun v6 => (xaI M v6 (nI 0) fun v7 => (Q (some (.int v7)) M))) else (if l1 = (nI 4) then (xgfR M l0 12 0 fun v8 => (xaI M v8 (nI 1) fun v9 => (Q (some (.int v9)) M))) else (if l1 = (nI 5) then (xgfR M l0 12 0 fun v10 => (xaI M v10 (nI 2) fun v11 => (Q (some (.int v11)) M))) else (if l1 = (nI 6) then (xgfR M l0 12 0 fun v12 => (xaI M v12 (nI 3) fun v13 => (Q (some (.int v13)) M))) else (if l1 = (nI 7) then (xgfR M l0 12 0 fun v14 => (xaI M v14 (nI 4) fun v15 => (Q (some (.int v15)) M))) else (if l1 = (nI 8) then (xgfI M l0 12 5 fun v16 => (Q (some (.int v16)) M)) else (if l1 = (nI 9) then (xobj M l0 12 ∧ xEv xP (xprim sa) d m_M_barred [.ref l0] M (xrI fun r1 M1 => Q (some (.int r1)) M1)) else (Q (some (.int (-2 : Int32))) M))))))))))) : xEv xP (xprim sa) (d + 1) m_M_about [.ref l0, .int l1] M Q := e_M_about (t_M_about_0 h)
