/-! printed by gent.py: what follows from an entry or a loop's head, up to the next -/
set_option maxRecDepth 100000 in
theorem t_Elders_init_0 {sa : Nat → Nat} {d : Nat} {Q : xQ} {l0 : Nat} {l1 : Int32} {M : xM} {u : xU} (h : ¬ l1 < 0 ∧ l1.toNatClampNeg ≤ 1000000 ∧ xalloc M u l1.toNatClampNeg (.inl (0, l1.toNatClampNeg, .inl (fun _ => 0))) fun q1 M1 u1 => (xpf M1 l0 0 0 (.ref q1) fun M2 => (¬ l1 < 0 ∧ l1.toNatClampNeg ≤ 1000000 ∧ xalloc M2 u1 l1.toNatClampNeg (.inl (0, l1.toNatClampNeg, .inl (fun _ => 0))) fun q2 M3 u2 => (xpf M3 l0 0 1 (.ref q2) fun M4 => (¬ l1 < 0 ∧ l1.toNatClampNeg ≤ 1000000 ∧ xalloc M4 u2 l1.toNatClampNeg (.inl (0, l1.toNatClampNeg, .inl (fun _ => 0))) fun q3 M5 u3 => (xpf M5 l0 0 2 (.ref q3) fun M6 => (¬ l1 < 0 ∧ l1.toNatClampNeg ≤ 1000000 ∧ xalloc M6 u3 l1.toNatClampNeg (.inl (0, l1.toNatClampNeg, .inl (fun _ => 0))) fun q4 M7 u4 => (xpf M7 l0 0 3 (.ref q4) fun M8 => (¬ l1 < 0 ∧ l1.toNatClampNeg ≤ 1000000 ∧ xalloc M8 u4 l1.toNatClampNeg (.inl (1, l1.toNatClampNeg, .inl (fun _ => 0))) fun q5 M9 u5 => (xpf M9 l0 0 4 (.ref q5) fun M10 => (¬ l1 < 0 ∧ l1.toNatClampNeg ≤ 1000000 ∧ xalloc M10 u5 l1.toNatClampNeg (.inl (1, l1.toNatClampNeg, .inl (fun _ => 0))) fun q6 M11 u6 => (xpf M11 l0 0 5 (.ref q6) fun M12 => (¬ (nI 100) < 0 ∧ (nI 100).toNatClampNeg ≤ 1000000 ∧ xalloc M12 u6 (nI 100).toNatClampNeg (.inl (1, (nI 100).toNatClampNeg, .inl (fun _ => 0))) fun q7 M13 u7 => (xpf M13 l0 0 6 (.ref q7) fun M14 => (xpf M14 l0 0 7 (.int (-1 : Int32)) fun M15 => (K_Elders_init sa d Q 1 [some (.ref l0), some (.int l1), some (.int (nI 0))] [] M15 u7)))))))))))))))) : K_Elders_init sa d Q 0 [some (.ref l0), some (.int l1), none] [] M u := b_Elders_init_0 h
set_option maxRecDepth 100000 in
theorem t_Elders_init_1 {sa : Nat → Nat} {d : Nat} {Q : xQ} {l0 : Nat} {l1 : Int32} {l2 : Int32} {M : xM} {u : xU} (h : if l1 ≤ l2 then (Q none M) else (xgfR M l0 0 2 fun v1 => (xsI M v1 l2 (-1 : Int32) fun M1 => (xgfR M1 l0 0 3 fun v2 => (xsI M1 v2 l2 (-1 : Int32) fun M2 => (K_Elders_init sa d Q 1 [some (.ref l0), some (.int l1), some (.int (l2 + (nI 1)))] [] M2 u)))))) : K_Elders_init sa d Q 1 [some (.ref l0), some (.int l1), some (.int l2)] [] M u := by
  refine b_Elders_init_1 ?_
  refine xite_mono (fun h => ?_) (fun h => ?_) h
  · exact b_Elders_init_3 h
  · exact b_Elders_init_2 h
theorem t_Elders_init {sa : Nat → Nat} {d : Nat} {Q : xQ} {l0 : Nat} {l1 : Int32} {M : xM} (h : ¬ l1 < 0 ∧ l1.toNatClampNeg ≤ 1000000 ∧ xalloc M (7, 154) l1.toNatClampNeg (.inl (0, l1.toNatClampNeg, .inl (fun _ => 0))) fun q1 M1 u1 => (xpf M1 l0 0 0 (.ref q1) fun M2 => (¬ l1 < 0 ∧ l1.toNatClampNeg ≤ 1000000 ∧ xalloc M2 u1 l1.toNatClampNeg (.inl (0, l1.toNatClampNeg, .inl (fun _ => 0))) fun q2 M3 u2 => (xpf M3 l0 0 1 (.ref q2) fun M4 => (¬ l1 < 0 ∧ l1.toNatClampNeg ≤ 1000000 ∧ xalloc M4 u2 l1.toNatClampNeg (.inl (0, l1.toNatClampNeg, .inl (fun _ => 0))) fun q3 M5 u3 => (xpf M5 l0 0 2 (.ref q3) fun M6 => (¬ l1 < 0 ∧ l1.toNatClampNeg ≤ 1000000 ∧ xalloc M6 u3 l1.toNatClampNeg (.inl (0, l1.toNatClampNeg, .inl (fun _ => 0))) fun q4 M7 u4 => (xpf M7 l0 0 3 (.ref q4) fun M8 => (¬ l1 < 0 ∧ l1.toNatClampNeg ≤ 1000000 ∧ xalloc M8 u4 l1.toNatClampNeg (.inl (1, l1.toNatClampNeg, .inl (fun _ => 0))) fun q5 M9 u5 => (xpf M9 l0 0 4 (.ref q5) fun M10 => (¬ l1 < 0 ∧ l1.toNatClampNeg ≤ 1000000 ∧ xalloc M10 u5 l1.toNatClampNeg (.inl (1, l1.toNatClampNeg, .inl (fun _ => 0))) fun q6 M11 u6 => (xpf M11 l0 0 5 (.ref q6) fun M12 => (¬ (nI 100) < 0 ∧ (nI 100).toNatClampNeg ≤ 1000000 ∧ xalloc M12 u6 (nI 100).toNatClampNeg (.inl (1, (nI 100).toNatClampNeg, .inl (fun _ => 0))) fun q7 M13 u7 => (xpf M13 l0 0 6 (.ref q7) fun M14 => (xpf M14 l0 0 7 (.int (-1 : Int32)) fun M15 => (K_Elders_init sa d Q 1 [some (.ref l0), some (.int l1), some (.int (nI 0))] [] M15 u7)))))))))))))))) : xEv xP (xprim sa) (d + 1) m_Elders_init [.ref l0, .int l1] M Q := e_Elders_init (t_Elders_init_0 h)
set_option maxRecDepth 100000 in
theorem t_Elders_copyFrom_0 {sa : Nat → Nat} {d : Nat} {Q : xQ} {l0 : Nat} {l1 : Nat} {M : xM} {u : xU} (h : xgfR M l1 0 0 fun v1 => (xgfR M l0 0 0 fun v2 => (xgfR M l0 0 0 fun v3 => (xlen M v3 fun v4 => (xcopy M v1 (nI 0) v2 (nI 0) v4 fun M1 => (xgfR M1 l1 0 1 fun v5 => (xgfR M1 l0 0 1 fun v6 => (xgfR M1 l0 0 1 fun v7 => (xlen M1 v7 fun v8 => (xcopy M1 v5 (nI 0) v6 (nI 0) v8 fun M2 => (xgfR M2 l1 0 2 fun v9 => (xgfR M2 l0 0 2 fun v10 => (xgfR M2 l0 0 2 fun v11 => (xlen M2 v11 fun v12 => (xcopy M2 v9 (nI 0) v10 (nI 0) v12 fun M3 => (xgfR M3 l1 0 3 fun v13 => (xgfR M3 l0 0 3 fun v14 => (xgfR M3 l0 0 3 fun v15 => (xlen M3 v15 fun v16 => (xcopy M3 v13 (nI 0) v14 (nI 0) v16 fun M4 => (xgfR M4 l1 0 4 fun v17 => (xgfR M4 l0 0 4 fun v18 => (xgfR M4 l0 0 4 fun v19 => (xlen M4 v19 fun v20 => (xcopy M4 v17 (nI 0) v18 (nI 0) v20 fun M5 => (xgfR M5 l1 0 5 fun v21 => (xgfR M5 l0 0 5 fun v22 => (xgfR M5 l0 0 5 fun v23 => (xlen M5 v23 fun v24 => (xcopy M5 v21 (nI 0) v22 (nI 0) v24 fun M6 => (xgfR M6 l1 0 6 fun v25 => (xgfR M6 l0 0 6 fun v26 => (xgfR M6 l0 0 6 fun v27 => (xlen M6 v27 fun v28 => (xcopy M6 v25 (nI 0) v26 (nI 0) v28 fun M7 => (xgfI M7 l1 0 7 fun v29 => (xpf M7 l0 0 7 (.int v29) fun M8 => (Q none M8)))))))))))))))))))))))))))))))))))))) : K_Elders_copyFrom sa d Q 0 [some (.ref l0), some (.ref l1)] [] M u := b_Elders_copyFrom_0 h
theorem t_Elders_copyFrom {sa : Nat → Nat} {d : Nat} {Q : xQ} {l0 : Nat} {l1 : Nat} {M : xM} (h : xgfR M l1 0 0 fun v1 => (xgfR M l0 0 0 fun v2 => (xgfR M l0 0 0 fun v3 => (xlen M v3 fun v4 => (xcopy M v1 (nI 0) v2 (nI 0) v4 fun M1 => (xgfR M1 l1 0 1 fun v5 => (xgfR M1 l0 0 1 fun v6 => (xgfR M1 l0 0 1 fun v7 => (xlen M1 v7 fun v8 => (xcopy M1 v5 (nI 0) v6 (nI 0) v8 fun M2 => (xgfR M2 l1 0 2 fun v9 => (xgfR M2 l0 0 2 fun v10 => (xgfR M2 l0 0 2 fun v11 => (xlen M2 v11 fun v12 => (xcopy M2 v9 (nI 0) v10 (nI 0) v12 fun M3 => (xgfR M3 l1 0 3 fun v13 => (xgfR M3 l0 0 3 fun v14 => (xgfR M3 l0 0 3 fun v15 => (xlen M3 v15 fun v16 => (xcopy M3 v13 (nI 0) v14 (nI 0) v16 fun M4 => (xgfR M4 l1 0 4 fun v17 => (xgfR M4 l0 0 4 fun v18 => (xgfR M4 l0 0 4 fun v19 => (xlen M4 v19 fun v20 => (xcopy M4 v17 (nI 0) v18 (nI 0) v20 fun M5 => (xgfR M5 l1 0 5 fun v21 => (xgfR M5 l0 0 5 fun v22 => (xgfR M5 l0 0 5 fun v23 => (xlen M5 v23 fun v24 => (xcopy M5 v21 (nI 0) v22 (nI 0) v24 fun M6 => (xgfR M6 l1 0 6 fun v25 => (xgfR M6 l0 0 6 fun v26 => (xgfR M6 l0 0 6 fun v27 => (xlen M6 v27 fun v28 => (xcopy M6 v25 (nI 0) v26 (nI 0) v28 fun M7 => (xgfI M7 l1 0 7 fun v29 => (xpf M7 l0 0 7 (.int v29) fun M8 => (Q none M8)))))))))))))))))))))))))))))))))))))) : xEv xP (xprim sa) (d + 1) m_Elders_copyFrom [.ref l0, .ref l1] M Q := e_Elders_copyFrom (t_Elders_copyFrom_0 h)
set_option maxRecDepth 100000 in
theorem t_Elders_countLiars_0 {sa : Nat → Nat} {d : Nat} {Q : xQ} {l0 : Nat} {M : xM} {u : xU} (h : xgfR M l0 0 0 fun v1 => (xlen M v1 fun v2 => (K_Elders_countLiars sa d Q 1 [none, some (.int (nI 0)), some (.ref v1), some (.int v2), some (.int (nI 0)), none] [] M u))) : K_Elders_countLiars sa d Q 0 [some (.ref l0), none, none, none, none, none] [] M u := b_Elders_countLiars_0 h
set_option maxRecDepth 100000 in
theorem t_Elders_countLiars_1 {sa : Nat → Nat} {d : Nat} {Q : xQ} {l1 : Int32} {l2 : Nat} {l3 : Int32} {l4 : Int32} {M : xM} {u : xU} (h : if l3 ≤ l4 then (Q (some (.int l1)) M) else (xaI M l2 l4 fun v1 => (if ¬ v1 = (nI 1) then K_Elders_countLiars sa d Q 1 [none, some (.int (l1 + (nI 0))), some (.ref l2), some (.int l3), some (.int (l4 + (nI 1))), none] [] M u else K_Elders_countLiars sa d Q 1 [none, some (.int (l1 + (nI 1))), some (.ref l2), some (.int l3), some (.int (l4 + (nI 1))), none] [] M u))) : K_Elders_countLiars sa d Q 1 [none, some (.int l1), some (.ref l2), some (.int l3), some (.int l4), none] [] M u := by
  refine b_Elders_countLiars_1 ?_
  refine xite_mono (fun h => ?_) (fun h => ?_) h
  · exact b_Elders_countLiars_6 h
  · refine b_Elders_countLiars_2 ?_
    refine xaI_mono (fun _ h => ?_) h
    refine xite_mono (fun h => ?_) (fun h => ?_) h
    · refine b_Elders_countLiars_4 ?_
      exact b_Elders_countLiars_5 h
    · refine b_Elders_countLiars_3 ?_
      exact b_Elders_countLiars_5 h
theorem t_Elders_countLiars {sa : Nat → Nat} {d : Nat} {Q : xQ} {l0 : Nat} {M : xM} (h : xgfR M l0 0 0 fun v1 => (xlen M v1 fun v2 => (K_Elders_countLiars sa d Q 1 [none, some (.int (nI 0)), some (.ref v1), some (.int v2), some (.int (nI 0)), none] [] M (0, 0)))) : xEv xP (xprim sa) (d + 1) m_Elders_countLiars [.ref l0] M Q := e_Elders_countLiars (t_Elders_countLiars_0 h)
set_option maxRecDepth 100000 in
theorem t_Elders_countBarred_0 {sa : Nat → Nat} {d : Nat} {Q : xQ} {l0 : Nat} {M : xM} {u : xU} (h : xgfR M l0 0 6 fun v1 => (xlen M v1 fun v2 => (K_Elders_countBarred sa d Q 1 [none, some (.int (nI 0)), some (.ref v1), some (.int v2), some (.int (nI 0)), none] [] M u))) : K_Elders_countBarred sa d Q 0 [some (.ref l0), none, none, none, none, none] [] M u := b_Elders_countBarred_0 h
set_option maxRecDepth 100000 in
theorem t_Elders_countBarred_1 {sa : Nat → Nat} {d : Nat} {Q : xQ} {l1 : Int32} {l2 : Nat} {l3 : Int32} {l4 : Int32} {M : xM} {u : xU} (h : if l3 ≤ l4 then (Q (some (.int l1)) M) else (xaZ M l2 l4 fun v1 => (if v1 = 0 then K_Elders_countBarred sa d Q 1 [none, some (.int (l1 + (nI 0))), some (.ref l2), some (.int l3), some (.int (l4 + (nI 1))), none] [] M u else K_Elders_countBarred sa d Q 1 [none, some (.int (l1 + (nI 1))), some (.ref l2), some (.int l3), some (.int (l4 + (nI 1))), none] [] M u))) : K_Elders_countBarred sa d Q 1 [none, some (.int l1), some (.ref l2), some (.int l3), some (.int l4), none] [] M u := by
  refine b_Elders_countBarred_1 ?_
  refine xite_mono (fun h => ?_) (fun h => ?_) h
  · exact b_Elders_countBarred_6 h
  · refine b_Elders_countBarred_2 ?_
    refine xaZ_mono (fun _ h => ?_) h
    refine xite_mono (fun h => ?_) (fun h => ?_) h
    · refine b_Elders_countBarred_4 ?_
      exact b_Elders_countBarred_5 h
    · refine b_Elders_countBarred_3 ?_
      exact b_Elders_countBarred_5 h
theorem t_Elders_countBarred {sa : Nat → Nat} {d : Nat} {Q : xQ} {l0 : Nat} {M : xM} (h : xgfR M l0 0 6 fun v1 => (xlen M v1 fun v2 => (K_Elders_countBarred sa d Q 1 [none, some (.int (nI 0)), some (.ref v1), some (.int v2), some (.int (nI 0)), none] [] M (0, 0)))) : xEv xP (xprim sa) (d + 1) m_Elders_countBarred [.ref l0] M Q := e_Elders_countBarred (t_Elders_countBarred_0 h)
set_option maxRecDepth 100000 in
theorem t_Elders_makeLiarsSound_0 {sa : Nat → Nat} {d : Nat} {Q : xQ} {l0 : Nat} {M : xM} {u : xU} (h : K_Elders_makeLiarsSound sa d Q 1 [some (.ref l0), some (.int (nI 0))] [] M u) : K_Elders_makeLiarsSound sa d Q 0 [some (.ref l0), none] [] M u := b_Elders_makeLiarsSound_0 h
set_option maxRecDepth 100000 in
theorem t_Elders_makeLiarsSound_1 {sa : Nat → Nat} {d : Nat} {Q : xQ} {l0 : Nat} {l1 : Int32} {M : xM} {u : xU} (h : xgfR M l0 0 0 fun v1 => (xlen M v1 fun v2 => (if v2 ≤ l1 then (Q none M) else (xgfR M l0 0 0 fun v3 => (xgfR M l0 0 0 fun v4 => (xaI M v4 l1 fun v5 => (if ¬ v5 = (nI 1) then (xgfR M l0 0 0 fun v6 => (xaI M v6 l1 fun v7 => (xsI M v3 l1 v7 fun M1 => (K_Elders_makeLiarsSound sa d Q 1 [some (.ref l0), some (.int (l1 + (nI 1)))] [] M1 u)))) else (xsI M v3 l1 (nI 0) fun M2 => (K_Elders_makeLiarsSound sa d Q 1 [some (.ref l0), some (.int (l1 + (nI 1)))] [] M2 u))))))))) : K_Elders_makeLiarsSound sa d Q 1 [some (.ref l0), some (.int l1)] [] M u := by
  refine b_Elders_makeLiarsSound_1 ?_
  refine xgfR_mono (fun _ h => ?_) h
  refine xlen_mono (fun _ h => ?_) h
  refine xite_mono (fun h => ?_) (fun h => ?_) h
  · exact b_Elders_makeLiarsSound_6 h
  · refine b_Elders_makeLiarsSound_2 ?_
    refine xgfR_mono (fun _ h => ?_) h
    refine xgfR_mono (fun _ h => ?_) h
    refine xaI_mono (fun _ h => ?_) h
    refine xite_mono (fun h => ?_) (fun h => ?_) h
    · refine b_Elders_makeLiarsSound_4 ?_
      refine xgfR_mono (fun _ h => ?_) h
      refine xaI_mono (fun _ h => ?_) h
      exact b_Elders_makeLiarsSound_5 h
    · refine b_Elders_makeLiarsSound_3 ?_
      exact b_Elders_makeLiarsSound_5 h
theorem t_Elders_makeLiarsSound {sa : Nat → Nat} {d : Nat} {Q : xQ} {l0 : Nat} {M : xM} (h : K_Elders_makeLiarsSound sa d Q 1 [some (.ref l0), some (.int (nI 0))] [] M (0, 0)) : xEv xP (xprim sa) (d + 1) m_Elders_makeLiarsSound [.ref l0] M Q := e_Elders_makeLiarsSound (t_Elders_makeLiarsSound_0 h)
set_option maxRecDepth 100000 in
theorem t_Elders_through_0 {sa : Nat → Nat} {d : Nat} {Q : xQ} {l0 : Nat} {l1 : Int32} {M : xM} {u : xU} (h : if l1 < 0 then (Q (some (.int (-1 : Int32))) M) else (if (nI 99) < l1 then (Q (some (.int (-1 : Int32))) M) else (xgfR M l0 0 6 fun v1 => (xaZ M v1 l1 fun v2 => (if v2 = 0 then (Q (some (.int l1)) M) else (Q (some (.int (-1 : Int32))) M)))))) : K_Elders_through sa d Q 0 [some (.ref l0), some (.int l1)] [] M u := by
  refine b_Elders_through_0 ?_
  refine xite_mono (fun h => ?_) (fun h => ?_) h
  · refine b_Elders_through_3 ?_
    exact b_Elders_through_5 h
  · refine b_Elders_through_1 ?_
    refine xite_mono (fun h => ?_) (fun h => ?_) h
    · refine b_Elders_through_3 ?_
      exact b_Elders_through_5 h
    · refine b_Elders_through_2 ?_
      refine xgfR_mono (fun _ h => ?_) h
      refine xaZ_mono (fun _ h => ?_) h
      refine xite_mono (fun h => ?_) (fun h => ?_) h
      · refine b_Elders_through_4 ?_
        exact b_Elders_through_5 h
      · refine b_Elders_through_3 ?_
        exact b_Elders_through_5 h
theorem t_Elders_through {sa : Nat → Nat} {d : Nat} {Q : xQ} {l0 : Nat} {l1 : Int32} {M : xM} (h : if l1 < 0 then (Q (some (.int (-1 : Int32))) M) else (if (nI 99) < l1 then (Q (some (.int (-1 : Int32))) M) else (xgfR M l0 0 6 fun v1 => (xaZ M v1 l1 fun v2 => (if v2 = 0 then (Q (some (.int l1)) M) else (Q (some (.int (-1 : Int32))) M)))))) : xEv xP (xprim sa) (d + 1) m_Elders_through [.ref l0, .int l1] M Q := e_Elders_through (t_Elders_through_0 h)
set_option maxRecDepth 100000 in
theorem t_Found_init_0 {sa : Nat → Nat} {d : Nat} {Q : xQ} {l0 : Nat} {l1 : Int32} {M : xM} {u : xU} (h : ¬ (nI 4096) < 0 ∧ (nI 4096).toNatClampNeg ≤ 1000000 ∧ xalloc M u (nI 4096).toNatClampNeg (.inl (0, (nI 4096).toNatClampNeg, .inl (fun _ => 0))) fun q1 M1 u1 => (xpf M1 l0 1 3 (.ref q1) fun M2 => (¬ (nI 2000) < 0 ∧ (nI 2000).toNatClampNeg ≤ 1000000 ∧ xalloc M2 u1 (nI 2000).toNatClampNeg (.inl (0, (nI 2000).toNatClampNeg, .inl (fun _ => 0))) fun q2 M3 u2 => (xpf M3 l0 1 4 (.ref q2) fun M4 => (xpf M4 l0 1 0 (.int (l1 + (nI 1))) fun M5 => (xgfI M5 l0 1 0 fun v1 => (¬ ((nI 2000) * v1) < 0 ∧ ((nI 2000) * v1).toNatClampNeg ≤ 1000000 ∧ xalloc M5 u2 ((nI 2000) * v1).toNatClampNeg (.inl (0, ((nI 2000) * v1).toNatClampNeg, .inl (fun _ => 0))) fun q3 M6 u3 => (xpf M6 l0 1 1 (.ref q3) fun M7 => (xgfI M7 l0 1 0 fun v2 => (¬ v2 < 0 ∧ v2.toNatClampNeg ≤ 1000000 ∧ xalloc M7 u3 v2.toNatClampNeg (.inl (0, v2.toNatClampNeg, .inl (fun _ => 0))) fun q4 M8 u4 => (xpf M8 l0 1 2 (.ref q4) fun M9 => (Q none M9)))))))))))) : K_Found_init sa d Q 0 [some (.ref l0), some (.int l1)] [] M u := b_Found_init_0 h
theorem t_Found_init {sa : Nat → Nat} {d : Nat} {Q : xQ} {l0 : Nat} {l1 : Int32} {M : xM} (h : ¬ (nI 4096) < 0 ∧ (nI 4096).toNatClampNeg ≤ 1000000 ∧ xalloc M (4, 26106) (nI 4096).toNatClampNeg (.inl (0, (nI 4096).toNatClampNeg, .inl (fun _ => 0))) fun q1 M1 u1 => (xpf M1 l0 1 3 (.ref q1) fun M2 => (¬ (nI 2000) < 0 ∧ (nI 2000).toNatClampNeg ≤ 1000000 ∧ xalloc M2 u1 (nI 2000).toNatClampNeg (.inl (0, (nI 2000).toNatClampNeg, .inl (fun _ => 0))) fun q2 M3 u2 => (xpf M3 l0 1 4 (.ref q2) fun M4 => (xpf M4 l0 1 0 (.int (l1 + (nI 1))) fun M5 => (xgfI M5 l0 1 0 fun v1 => (¬ ((nI 2000) * v1) < 0 ∧ ((nI 2000) * v1).toNatClampNeg ≤ 1000000 ∧ xalloc M5 u2 ((nI 2000) * v1).toNatClampNeg (.inl (0, ((nI 2000) * v1).toNatClampNeg, .inl (fun _ => 0))) fun q3 M6 u3 => (xpf M6 l0 1 1 (.ref q3) fun M7 => (xgfI M7 l0 1 0 fun v2 => (¬ v2 < 0 ∧ v2.toNatClampNeg ≤ 1000000 ∧ xalloc M7 u3 v2.toNatClampNeg (.inl (0, v2.toNatClampNeg, .inl (fun _ => 0))) fun q4 M8 u4 => (xpf M8 l0 1 2 (.ref q4) fun M9 => (Q none M9)))))))))))) : xEv xP (xprim sa) (d + 1) m_Found_init [.ref l0, .int l1] M Q := e_Found_init (t_Found_init_0 h)
set_option maxRecDepth 100000 in
theorem t_Found_clear_0 {sa : Nat → Nat} {d : Nat} {Q : xQ} {l0 : Nat} {M : xM} {u : xU} (h : K_Found_clear sa d Q 1 [some (.ref l0), some (.int (nI 0))] [] M u) : K_Found_clear sa d Q 0 [some (.ref l0), none] [] M u := b_Found_clear_0 h
set_option maxRecDepth 100000 in
theorem t_Found_clear_1 {sa : Nat → Nat} {d : Nat} {Q : xQ} {l0 : Nat} {l1 : Int32} {M : xM} {u : xU} (h : xgfI M l0 1 5 fun v1 => (if v1 ≤ l1 then (xpf M l0 1 5 (.int (nI 0)) fun M1 => (Q none M1)) else (xgfR M l0 1 3 fun v2 => (xgfR M l0 1 4 fun v3 => (xaI M v3 l1 fun v4 => (xsI M v2 v4 (nI 0) fun M2 => (K_Found_clear sa d Q 1 [some (.ref l0), some (.int (l1 + (nI 1)))] [] M2 u))))))) : K_Found_clear sa d Q 1 [some (.ref l0), some (.int l1)] [] M u := by
  refine b_Found_clear_1 ?_
  refine xgfI_mono (fun _ h => ?_) h
  refine xite_mono (fun h => ?_) (fun h => ?_) h
  · exact b_Found_clear_3 h
  · exact b_Found_clear_2 h
theorem t_Found_clear {sa : Nat → Nat} {d : Nat} {Q : xQ} {l0 : Nat} {M : xM} (h : K_Found_clear sa d Q 1 [some (.ref l0), some (.int (nI 0))] [] M (0, 0)) : xEv xP (xprim sa) (d + 1) m_Found_clear [.ref l0] M Q := e_Found_clear (t_Found_clear_0 h)
set_option maxRecDepth 100000 in
theorem t_Found_put_0 {sa : Nat → Nat} {d : Nat} {Q : xQ} {l0 : Nat} {l1 : Nat} {M : xM} {u : xU} (h : xobj M l0 1 ∧ xEv xP (xprim sa) d m_Found_pack [.ref l0, .ref l1] M (xrI fun r1 M1 => K_Found_put sa d Q 1 [some (.ref l0), none, some (.int r1), some (.int (nI 0))] [] M1 u)) : K_Found_put sa d Q 0 [some (.ref l0), some (.ref l1), none, none] [] M u := b_Found_put_0 h
set_option maxRecDepth 100000 in
theorem t_Found_put_1 {sa : Nat → Nat} {d : Nat} {Q : xQ} {l0 : Nat} {l2 : Int32} {l3 : Int32} {M : xM} {u : xU} (h : if (nI 4096) ≤ l3 then K_Found_put sa d Q 6 [some (.ref l0), none, some (.int l2), none] [] M u else (xgfR M l0 1 3 fun v1 => (xaI M v1 l2 fun v2 => (if v2 = 0 then K_Found_put sa d Q 6 [some (.ref l0), none, some (.int l2), none] [] M u else (xgfR M l0 1 3 fun v3 => (xaI M v3 l2 fun v4 => (xobj M l0 1 ∧ xEv xP (xprim sa) d m_Found_isRowAt [.ref l0, .int (v4 - (nI 1))] M (xrI fun r1 M1 => if r1 = 0 then K_Found_put sa d Q 1 [some (.ref l0), none, some (.int ((l2 + (nI 1)) &&& (nI 4095))), some (.int (l3 + (nI 1)))] [] M1 u else (Q (some (.int (nI 0))) M1))))))))) : K_Found_put sa d Q 1 [some (.ref l0), none, some (.int l2), some (.int l3)] [] M u := by
  refine b_Found_put_1 ?_
  refine xite_mono (fun h => ?_) (fun h => ?_) h
  · exact h
  · refine b_Found_put_2 ?_
    refine xgfR_mono (fun _ h => ?_) h
    refine xaI_mono (fun _ h => ?_) h
    refine xite_mono (fun h => ?_) (fun h => ?_) h
    · exact h
    · refine b_Found_put_3 ?_
      refine xgfR_mono (fun _ h => ?_) h
      refine xaI_mono (fun _ h => ?_) h
      obtain ⟨hz, h⟩ := h
      refine ⟨hz, ?_⟩
      refine xEv_post' _ _ _ _ _ (xrI_mono (fun _ _ h => ?_)) h
      refine xite_mono (fun h => ?_) (fun h => ?_) h
      · exact b_Found_put_5 h
      · exact b_Found_put_4 h
set_option maxRecDepth 100000 in
theorem t_Found_put_6 {sa : Nat → Nat} {d : Nat} {Q : xQ} {l0 : Nat} {l2 : Int32} {M : xM} {u : xU} (h : xgfI M l0 1 5 fun v1 => (if v1 < (nI 2000) then (xgfR M l0 1 2 fun v2 => (xgfR M l0 1 1 fun v3 => (xgfI M l0 1 5 fun v4 => (xgfI M l0 1 0 fun v5 => (xgfI M l0 1 0 fun v6 => (xcopy M v2 (nI 0) v3 (v4 * v5) v6 fun M1 => (xgfR M1 l0 1 4 fun v7 => (xgfI M1 l0 1 5 fun v8 => (xsI M1 v7 v8 l2 fun M2 => (xgfI M2 l0 1 5 fun v9 => (xpf M2 l0 1 5 (.int (v9 + (nI 1))) fun M3 => (xgfR M3 l0 1 3 fun v10 => (xgfI M3 l0 1 5 fun v11 => (xsI M3 v10 l2 v11 fun M4 => (Q (some (.int (nI 1))) M4))))))))))))))) else (Q (some (.int (nI 2))) M))) : K_Found_put sa d Q 6 [some (.ref l0), none, some (.int l2), none] [] M u := by
  refine b_Found_put_6 ?_
  refine xgfI_mono (fun _ h => ?_) h
  refine xite_mono (fun h => ?_) (fun h => ?_) h
  · exact b_Found_put_8 h
  · exact b_Found_put_7 h
theorem t_Found_put {sa : Nat → Nat} {d : Nat} {Q : xQ} {l0 : Nat} {l1 : Nat} {M : xM} (h : xobj M l0 1 ∧ xEv xP (xprim sa) d m_Found_pack [.ref l0, .ref l1] M (xrI fun r1 M1 => K_Found_put sa d Q 1 [some (.ref l0), none, some (.int r1), some (.int (nI 0))] [] M1 (0, 0))) : xEv xP (xprim sa) (d + 1) m_Found_put [.ref l0, .ref l1] M Q := e_Found_put (t_Found_put_0 h)
set_option maxRecDepth 100000 in
theorem t_Found_show_0 {sa : Nat → Nat} {d : Nat} {Q : xQ} {l0 : Nat} {l1 : Int32} {l2 : Nat} {M : xM} {u : xU} (h : xgfI M l0 1 0 fun v1 => (K_Found_show sa d Q 1 [some (.ref l0), none, some (.ref l2), some (.int (l1 * v1)), some (.int (nI 0)), none] [] M u)) : K_Found_show sa d Q 0 [some (.ref l0), some (.int l1), some (.ref l2), none, none, none] [] M u := b_Found_show_0 h
set_option maxRecDepth 100000 in
theorem t_Found_show_1 {sa : Nat → Nat} {d : Nat} {Q : xQ} {l0 : Nat} {l2 : Nat} {l3 : Int32} {l4 : Int32} {M : xM} {u : xU} (h : xgfI M l0 1 0 fun v1 => (if v1 ≤ (l4 + (nI 1)) then (xgfR M l0 1 1 fun v2 => (xgfI M l0 1 0 fun v3 => (xaI M v2 ((l3 + v3) - (nI 1)) fun v4 => (xpf M l2 4 3 (.int v4) fun M1 => (Q none M1))))) else (xgfR M l0 1 1 fun v5 => (xaI M v5 (l3 + l4) fun v6 => (xgfR M l2 4 2 fun v7 => (¬ (nI 101) = 0 ∧ xsI M v7 l4 ((v6 - v6 / (nI 101) * (nI 101)) - (nI 1)) fun M2 => (xgfR M2 l2 4 1 fun v8 => (¬ (nI 101) = 0 ∧ ¬ (nI 101) = 0 ∧ xsI M2 v8 l4 (((v6 / (nI 101)) - (v6 / (nI 101)) / (nI 101) * (nI 101)) - (nI 1)) fun M3 => (xgfR M3 l2 4 0 fun v9 => (¬ (nI 10201) = 0 ∧ xsI M3 v9 l4 (v6 / (nI 10201)) fun M4 => (K_Found_show sa d Q 1 [some (.ref l0), none, some (.ref l2), some (.int l3), some (.int (l4 + (nI 1))), none] [] M4 u))))))))))) : K_Found_show sa d Q 1 [some (.ref l0), none, some (.ref l2), some (.int l3), some (.int l4), none] [] M u := by
  refine b_Found_show_1 ?_
  refine xgfI_mono (fun _ h => ?_) h
  refine xite_mono (fun h => ?_) (fun h => ?_) h
  · exact b_Found_show_3 h
  · exact b_Found_show_2 h
theorem t_Found_show {sa : Nat → Nat} {d : Nat} {Q : xQ} {l0 : Nat} {l1 : Int32} {l2 : Nat} {M : xM} (h : xgfI M l0 1 0 fun v1 => (K_Found_show sa d Q 1 [some (.ref l0), none, some (.ref l2), some (.int (l1 * v1)), some (.int (nI 0)), none] [] M (0, 0))) : xEv xP (xprim sa) (d + 1) m_Found_show [.ref l0, .int l1, .ref l2] M Q := e_Found_show (t_Found_show_0 h)
set_option maxRecDepth 100000 in
theorem t_Found_pack_0 {sa : Nat → Nat} {d : Nat} {Q : xQ} {l0 : Nat} {l1 : Nat} {M : xM} {u : xU} (h : xgfI M l1 4 3 fun v1 => (K_Found_pack sa d Q 1 [some (.ref l0), some (.ref l1), some (.int v1), some (.int (nI 0)), none] [] M u)) : K_Found_pack sa d Q 0 [some (.ref l0), some (.ref l1), none, none, none] [] M u := b_Found_pack_0 h
set_option maxRecDepth 100000 in
theorem t_Found_pack_1 {sa : Nat → Nat} {d : Nat} {Q : xQ} {l0 : Nat} {l1 : Nat} {l2 : Int32} {l3 : Int32} {M : xM} {u : xU} (h : xgfI M l0 1 0 fun v1 => (if v1 ≤ (l3 + (nI 1)) then (xgfR M l0 1 2 fun v2 => (xgfI M l0 1 0 fun v3 => (xgfI M l1 4 3 fun v4 => (xsI M v2 (v3 - (nI 1)) v4 fun M1 => (Q (some (.int (l2 &&& (nI 4095)))) M1))))) else (xgfR M l1 4 0 fun v5 => (xaI M v5 l3 fun v6 => (xgfR M l1 4 1 fun v7 => (xaI M v7 l3 fun v8 => (xgfR M l0 1 2 fun v9 => (xgfR M l1 4 2 fun v10 => (xaI M v10 l3 fun v11 => (xsI M v9 l3 ((((((v6 * (nI 101)) + v8) + (nI 1)) * (nI 101)) + v11) + (nI 1)) fun M2 => (xgfR M2 l0 1 2 fun v12 => (xaI M2 v12 l3 fun v13 => (K_Found_pack sa d Q 1 [some (.ref l0), some (.ref l1), some (.int (((l2 ^^^ v13) * (nI 16777619)) ^^^ ((((l2 ^^^ v13) * (nI 16777619)).toUInt32 >>> ((nI 15).toUInt32 &&& Int32.toUInt32 31)).toInt32))), some (.int (l3 + (nI 1))), none] [] M2 u))))))))))))) : K_Found_pack sa d Q 1 [some (.ref l0), some (.ref l1), some (.int l2), some (.int l3), none] [] M u := by
  refine b_Found_pack_1 ?_
  refine xgfI_mono (fun _ h => ?_) h
  refine xite_mono (fun h => ?_) (fun h => ?_) h
  · exact b_Found_pack_3 h
  · exact b_Found_pack_2 h
theorem t_Found_pack {sa : Nat → Nat} {d : Nat} {Q : xQ} {l0 : Nat} {l1 : Nat} {M : xM} (h : xgfI M l1 4 3 fun v1 => (K_Found_pack sa d Q 1 [some (.ref l0), some (.ref l1), some (.int v1), some (.int (nI 0)), none] [] M (0, 0))) : xEv xP (xprim sa) (d + 1) m_Found_pack [.ref l0, .ref l1] M Q := e_Found_pack (t_Found_pack_0 h)
set_option maxRecDepth 100000 in
theorem t_Found_isRowAt_0 {sa : Nat → Nat} {d : Nat} {Q : xQ} {l0 : Nat} {l1 : Int32} {M : xM} {u : xU} (h : xgfI M l0 1 0 fun v1 => (K_Found_isRowAt sa d Q 1 [some (.ref l0), none, some (.int (l1 * v1)), some (.int (nI 0))] [] M u)) : K_Found_isRowAt sa d Q 0 [some (.ref l0), some (.int l1), none, none] [] M u := b_Found_isRowAt_0 h
set_option maxRecDepth 100000 in
theorem t_Found_isRowAt_1 {sa : Nat → Nat} {d : Nat} {Q : xQ} {l0 : Nat} {l2 : Int32} {l3 : Int32} {M : xM} {u : xU} (h : xgfI M l0 1 0 fun v1 => (if v1 ≤ l3 then (((nI 1) = 0 ∨ (nI 1) = 1) ∧ Q (some (.int (nI 1))) M) else (xgfR M l0 1 1 fun v2 => (xaI M v2 (l2 + l3) fun v3 => (xgfR M l0 1 2 fun v4 => (xaI M v4 l3 fun v5 => (if v3 = v5 then K_Found_isRowAt sa d Q 1 [some (.ref l0), none, some (.int l2), some (.int (l3 + (nI 1)))] [] M u else (((nI 0) = 0 ∨ (nI 0) = 1) ∧ Q (some (.int (nI 0))) M)))))))) : K_Found_isRowAt sa d Q 1 [some (.ref l0), none, some (.int l2), some (.int l3)] [] M u := by
  refine b_Found_isRowAt_1 ?_
  refine xgfI_mono (fun _ h => ?_) h
  refine xite_mono (fun h => ?_) (fun h => ?_) h
  · exact b_Found_isRowAt_5 h
  · refine b_Found_isRowAt_2 ?_
    refine xgfR_mono (fun _ h => ?_) h
    refine xaI_mono (fun _ h => ?_) h
    refine xgfR_mono (fun _ h => ?_) h
    refine xaI_mono (fun _ h => ?_) h
    refine xite_mono (fun h => ?_) (fun h => ?_) h
    · exact b_Found_isRowAt_4 h
    · exact b_Found_isRowAt_3 h
theorem t_Found_isRowAt {sa : Nat → Nat} {d : Nat} {Q : xQ} {l0 : Nat} {l1 : Int32} {M : xM} (h : xgfI M l0 1 0 fun v1 => (K_Found_isRowAt sa d Q 1 [some (.ref l0), none, some (.int (l1 * v1)), some (.int (nI 0))] [] M (0, 0))) : xEv xP (xprim sa) (d + 1) m_Found_isRowAt [.ref l0, .int l1] M Q := e_Found_isRowAt (t_Found_isRowAt_0 h)
set_option maxRecDepth 100000 in
theorem t_Hall_init_0 {sa : Nat → Nat} {d : Nat} {Q : xQ} {l0 : Nat} {l1 : Int32} {l2 : Nat} {M : xM} {u : xU} (h : ¬ (nI 300) < 0 ∧ (nI 300).toNatClampNeg ≤ 1000000 ∧ xalloc M u (nI 300).toNatClampNeg (.inl (0, (nI 300).toNatClampNeg, .inl (fun _ => 0))) fun q1 M1 u1 => (xpf M1 l0 2 6 (.ref q1) fun M2 => (xpf M2 l0 2 0 (.int l1) fun M3 => (xpf M3 l0 2 5 (.ref l2) fun M4 => (¬ l1 < 0 ∧ l1.toNatClampNeg ≤ 1000000 ∧ xalloc M4 u1 l1.toNatClampNeg (.inl (0, l1.toNatClampNeg, .inl (fun _ => 0))) fun q2 M5 u2 => (xpf M5 l0 2 1 (.ref q2) fun M6 => (¬ l1 < 0 ∧ l1.toNatClampNeg ≤ 1000000 ∧ xalloc M6 u2 l1.toNatClampNeg (.inl (0, l1.toNatClampNeg, .inl (fun _ => 0))) fun q3 M7 u3 => (xpf M7 l0 2 2 (.ref q3) fun M8 => (¬ l1 < 0 ∧ l1.toNatClampNeg ≤ 1000000 ∧ xalloc M8 u3 l1.toNatClampNeg (.inl (0, l1.toNatClampNeg, .inl (fun _ => 0))) fun q4 M9 u4 => (xpf M9 l0 2 3 (.ref q4) fun M10 => (¬ l1 < 0 ∧ l1.toNatClampNeg ≤ 1000000 ∧ xalloc M10 u4 l1.toNatClampNeg (.inl (1, l1.toNatClampNeg, .inl (fun _ => 0))) fun q5 M11 u5 => (xpf M11 l0 2 4 (.ref q5) fun M12 => (Q none M12))))))))))))) : K_Hall_init sa d Q 0 [some (.ref l0), some (.int l1), some (.ref l2)] [] M u := b_Hall_init_0 h
theorem t_Hall_init {sa : Nat → Nat} {d : Nat} {Q : xQ} {l0 : Nat} {l1 : Int32} {l2 : Nat} {M : xM} (h : ¬ (nI 300) < 0 ∧ (nI 300).toNatClampNeg ≤ 1000000 ∧ xalloc M (5, 336) (nI 300).toNatClampNeg (.inl (0, (nI 300).toNatClampNeg, .inl (fun _ => 0))) fun q1 M1 u1 => (xpf M1 l0 2 6 (.ref q1) fun M2 => (xpf M2 l0 2 0 (.int l1) fun M3 => (xpf M3 l0 2 5 (.ref l2) fun M4 => (¬ l1 < 0 ∧ l1.toNatClampNeg ≤ 1000000 ∧ xalloc M4 u1 l1.toNatClampNeg (.inl (0, l1.toNatClampNeg, .inl (fun _ => 0))) fun q2 M5 u2 => (xpf M5 l0 2 1 (.ref q2) fun M6 => (¬ l1 < 0 ∧ l1.toNatClampNeg ≤ 1000000 ∧ xalloc M6 u2 l1.toNatClampNeg (.inl (0, l1.toNatClampNeg, .inl (fun _ => 0))) fun q3 M7 u3 => (xpf M7 l0 2 2 (.ref q3) fun M8 => (¬ l1 < 0 ∧ l1.toNatClampNeg ≤ 1000000 ∧ xalloc M8 u3 l1.toNatClampNeg (.inl (0, l1.toNatClampNeg, .inl (fun _ => 0))) fun q4 M9 u4 => (xpf M9 l0 2 3 (.ref q4) fun M10 => (¬ l1 < 0 ∧ l1.toNatClampNeg ≤ 1000000 ∧ xalloc M10 u4 l1.toNatClampNeg (.inl (1, l1.toNatClampNeg, .inl (fun _ => 0))) fun q5 M11 u5 => (xpf M11 l0 2 4 (.ref q5) fun M12 => (Q none M12))))))))))))) : xEv xP (xprim sa) (d + 1) m_Hall_init [.ref l0, .int l1, .ref l2] M Q := e_Hall_init (t_Hall_init_0 h)
set_option maxRecDepth 100000 in
theorem t_Hall_leftOf_0 {sa : Nat → Nat} {d : Nat} {Q : xQ} {l0 : Nat} {l1 : Int32} {M : xM} {u : xU} (h : if l1 ≤ 0 then (xgfI M l0 2 0 fun v1 => (Q (some (.int (v1 - (nI 1)))) M)) else (Q (some (.int (l1 - (nI 1)))) M)) : K_Hall_leftOf sa d Q 0 [some (.ref l0), some (.int l1)] [] M u := by
  refine b_Hall_leftOf_0 ?_
  refine xite_mono (fun h => ?_) (fun h => ?_) h
  · refine b_Hall_leftOf_2 ?_
    refine xgfI_mono (fun _ h => ?_) h
    exact b_Hall_leftOf_3 h
  · refine b_Hall_leftOf_1 ?_
    exact b_Hall_leftOf_3 h
theorem t_Hall_leftOf {sa : Nat → Nat} {d : Nat} {Q : xQ} {l0 : Nat} {l1 : Int32} {M : xM} (h : if l1 ≤ 0 then (xgfI M l0 2 0 fun v1 => (Q (some (.int (v1 - (nI 1)))) M)) else (Q (some (.int (l1 - (nI 1)))) M)) : xEv xP (xprim sa) (d + 1) m_Hall_leftOf [.ref l0, .int l1] M Q := e_Hall_leftOf (t_Hall_leftOf_0 h)
set_option maxRecDepth 100000 in
theorem t_Hall_rightOf_0 {sa : Nat → Nat} {d : Nat} {Q : xQ} {l0 : Nat} {l1 : Int32} {M : xM} {u : xU} (h : xgfI M l0 2 0 fun v1 => (if v1 ≤ (l1 + (nI 1)) then (Q (some (.int (nI 0))) M) else (Q (some (.int (l1 + (nI 1)))) M))) : K_Hall_rightOf sa d Q 0 [some (.ref l0), some (.int l1)] [] M u := by
  refine b_Hall_rightOf_0 ?_
  refine xgfI_mono (fun _ h => ?_) h
  refine xite_mono (fun h => ?_) (fun h => ?_) h
  · refine b_Hall_rightOf_2 ?_
    exact b_Hall_rightOf_3 h
  · refine b_Hall_rightOf_1 ?_
    exact b_Hall_rightOf_3 h
theorem t_Hall_rightOf {sa : Nat → Nat} {d : Nat} {Q : xQ} {l0 : Nat} {l1 : Int32} {M : xM} (h : xgfI M l0 2 0 fun v1 => (if v1 ≤ (l1 + (nI 1)) then (Q (some (.int (nI 0))) M) else (Q (some (.int (l1 + (nI 1)))) M))) : xEv xP (xprim sa) (d + 1) m_Hall_rightOf [.ref l0, .int l1] M Q := e_Hall_rightOf (t_Hall_rightOf_0 h)
set_option maxRecDepth 100000 in
theorem t_Hall_pass_0 {sa : Nat → Nat} {d : Nat} {Q : xQ} {l0 : Nat} {l1 : Nat} {l2 : Nat} {M : xM} {u : xU} (h : xobj M l0 2 ∧ xEv xP (xprim sa) d m_Hall_decide [.ref l0, .ref l1, .ref l2] M (xrV fun M1 => xgfI M1 l2 4 4 fun v1 => (xobj M1 l0 2 ∧ xEv xP (xprim sa) d m_Hall_carry [.ref l0, .ref l1, .ref l2, .int (v1 + (nI 1))] M1 (xrV fun M2 => Q none M2)))) : K_Hall_pass sa d Q 0 [some (.ref l0), some (.ref l1), some (.ref l2)] [] M u := b_Hall_pass_0 h
theorem t_Hall_pass {sa : Nat → Nat} {d : Nat} {Q : xQ} {l0 : Nat} {l1 : Nat} {l2 : Nat} {M : xM} (h : xobj M l0 2 ∧ xEv xP (xprim sa) d m_Hall_decide [.ref l0, .ref l1, .ref l2] M (xrV fun M1 => xgfI M1 l2 4 4 fun v1 => (xobj M1 l0 2 ∧ xEv xP (xprim sa) d m_Hall_carry [.ref l0, .ref l1, .ref l2, .int (v1 + (nI 1))] M1 (xrV fun M2 => Q none M2)))) : xEv xP (xprim sa) (d + 1) m_Hall_pass [.ref l0, .ref l1, .ref l2] M Q := e_Hall_pass (t_Hall_pass_0 h)
set_option maxRecDepth 100000 in
theorem t_Hall_decide_0 {sa : Nat → Nat} {d : Nat} {Q : xQ} {l0 : Nat} {l1 : Nat} {l2 : Nat} {M : xM} {u : xU} (h : K_Hall_decide sa d Q 1 [some (.ref l0), some (.ref l1), some (.ref l2), some (.int (nI 0)), none] [] M u) : K_Hall_decide sa d Q 0 [some (.ref l0), some (.ref l1), some (.ref l2), none, none] [] M u := b_Hall_decide_0 h
set_option maxRecDepth 100000 in
theorem t_Hall_decide_1 {sa : Nat → Nat} {d : Nat} {Q : xQ} {l0 : Nat} {l1 : Nat} {l2 : Nat} {l3 : Int32} {M : xM} {u : xU} (h : xgfI M l0 2 0 fun v1 => (if v1 ≤ l3 then (Q none M) else (xgfR M l1 0 0 fun v2 => (xaI M v2 l3 fun v3 => (if ¬ v3 = (nI 1) then K_Hall_decide sa d Q 5 [some (.ref l0), some (.ref l1), some (.ref l2), some (.int l3), none] [.int (nI 0)] M u else K_Hall_decide sa d Q 5 [some (.ref l0), some (.ref l1), some (.ref l2), some (.int l3), none] [.int (nI 1)] M u))))) : K_Hall_decide sa d Q 1 [some (.ref l0), some (.ref l1), some (.ref l2), some (.int l3), none] [] M u := by
  refine b_Hall_decide_1 ?_
  refine xgfI_mono (fun _ h => ?_) h
  refine xite_mono (fun h => ?_) (fun h => ?_) h
  · exact b_Hall_decide_19 h
  · refine b_Hall_decide_2 ?_
    refine xgfR_mono (fun _ h => ?_) h
    refine xaI_mono (fun _ h => ?_) h
    refine xite_mono (fun h => ?_) (fun h => ?_) h
    · exact b_Hall_decide_4 h
    · exact b_Hall_decide_3 h
set_option maxRecDepth 100000 in
theorem t_Hall_decide_5 {sa : Nat → Nat} {d : Nat} {Q : xQ} {l0 : Nat} {l1 : Nat} {l2 : Nat} {l3 : Int32} {s0 : Int32} {M : xM} {u : xU} (h : xgfR M l0 2 1 fun v1 => (xgfR M l2 4 0 fun v2 => (xaI M v2 l3 fun v3 => (xsI M v1 l3 v3 fun M1 => (xgfR M1 l0 2 2 fun v4 => (if s0 = 0 then K_Hall_decide sa d Q 8 [some (.ref l0), some (.ref l1), some (.ref l2), some (.int l3), some (.int s0)] [.int (-1 : Int32), .int l3, .ref v4] M1 u else (xgfR M1 l1 0 2 fun v5 => (xaI M1 v5 l3 fun v6 => (K_Hall_decide sa d Q 8 [some (.ref l0), some (.ref l1), some (.ref l2), some (.int l3), some (.int s0)] [.int v6, .int l3, .ref v4] M1 u))))))))) : K_Hall_decide sa d Q 5 [some (.ref l0), some (.ref l1), some (.ref l2), some (.int l3), none] [.int s0] M u := by
  refine b_Hall_decide_5 ?_
  refine xgfR_mono (fun _ h => ?_) h
  refine xgfR_mono (fun _ h => ?_) h
  refine xaI_mono (fun _ h => ?_) h
  refine xsI_mono (fun _ h => ?_) h
  refine xgfR_mono (fun _ h => ?_) h
  refine xite_mono (fun h => ?_) (fun h => ?_) h
  · exact b_Hall_decide_7 h
  · exact b_Hall_decide_6 h
set_option maxRecDepth 100000 in
theorem t_Hall_decide_8 {sa : Nat → Nat} {d : Nat} {Q : xQ} {l0 : Nat} {l1 : Nat} {l2 : Nat} {l3 : Int32} {l4 : Int32} {s0 : Int32} {s1 : Int32} {s2 : Nat} {M : xM} {u : xU} (h : xsI M s2 s1 s0 fun M1 => (xgfR M1 l0 2 3 fun v1 => (if l4 = 0 then K_Hall_decide sa d Q 11 [some (.ref l0), some (.ref l1), some (.ref l2), some (.int l3), some (.int l4)] [.int (-1 : Int32), .int l3, .ref v1] M1 u else (xgfR M1 l1 0 3 fun v2 => (xaI M1 v2 l3 fun v3 => (K_Hall_decide sa d Q 11 [some (.ref l0), some (.ref l1), some (.ref l2), some (.int l3), some (.int l4)] [.int v3, .int l3, .ref v1] M1 u)))))) : K_Hall_decide sa d Q 8 [some (.ref l0), some (.ref l1), some (.ref l2), some (.int l3), some (.int l4)] [.int s0, .int s1, .ref s2] M u := by
  refine b_Hall_decide_8 ?_
  refine xsI_mono (fun _ h => ?_) h
  refine xgfR_mono (fun _ h => ?_) h
  refine xite_mono (fun h => ?_) (fun h => ?_) h
  · exact b_Hall_decide_10 h
  · exact b_Hall_decide_9 h
set_option maxRecDepth 100000 in
theorem t_Hall_decide_11 {sa : Nat → Nat} {d : Nat} {Q : xQ} {l0 : Nat} {l1 : Nat} {l2 : Nat} {l3 : Int32} {l4 : Int32} {s0 : Int32} {s1 : Int32} {s2 : Nat} {M : xM} {u : xU} (h : xsI M s2 s1 s0 fun M1 => (xgfR M1 l0 2 4 fun v1 => (if l4 = 0 then K_Hall_decide sa d Q 14 [some (.ref l0), some (.ref l1), some (.ref l2), some (.int l3), none] [.int l3, .ref v1] M1 u else (xgfR M1 l1 0 4 fun v2 => (xaZ M1 v2 l3 fun v3 => (if v3 = 0 then K_Hall_decide sa d Q 14 [some (.ref l0), some (.ref l1), some (.ref l2), some (.int l3), none] [.int l3, .ref v1] M1 u else (xsZ M1 v1 l3 (nI 1) fun M2 => (xgfR M2 l1 0 0 fun v4 => (xaI M2 v4 l3 fun v5 => (if ¬ v5 = 0 then K_Hall_decide sa d Q 1 [some (.ref l0), some (.ref l1), some (.ref l2), some (.int (l3 + (nI 1))), none] [] M2 u else (xobj M2 l0 2 ∧ xEv xP (xprim sa) d m_Hall_isRuled [.ref l0, .ref l1] M2 (xrI fun r1 M3 => if r1 = 0 then K_Hall_decide sa d Q 1 [some (.ref l0), some (.ref l1), some (.ref l2), some (.int (l3 + (nI 1))), none] [] M3 u else (xobj M3 l0 2 ∧ xEv xP (xprim sa) d m_Hall_decideSound [.ref l0, .ref l1, .ref l2, .int l3] M3 (xrV fun M4 => K_Hall_decide sa d Q 1 [some (.ref l0), some (.ref l1), some (.ref l2), some (.int (l3 + (nI 1))), none] [] M4 u)))))))))))))) : K_Hall_decide sa d Q 11 [some (.ref l0), some (.ref l1), some (.ref l2), some (.int l3), some (.int l4)] [.int s0, .int s1, .ref s2] M u := by
  refine b_Hall_decide_11 ?_
  refine xsI_mono (fun _ h => ?_) h
  refine xgfR_mono (fun _ h => ?_) h
  refine xite_mono (fun h => ?_) (fun h => ?_) h
  · exact h
  · refine b_Hall_decide_12 ?_
    refine xgfR_mono (fun _ h => ?_) h
    refine xaZ_mono (fun _ h => ?_) h
    refine xite_mono (fun h => ?_) (fun h => ?_) h
    · exact h
    · refine b_Hall_decide_13 ?_
      refine b_Hall_decide_15 ?_
      refine xsZ_mono (fun _ h => ?_) h
      refine xgfR_mono (fun _ h => ?_) h
      refine xaI_mono (fun _ h => ?_) h
      refine xite_mono (fun h => ?_) (fun h => ?_) h
      · exact b_Hall_decide_18 h
      · refine b_Hall_decide_16 ?_
        obtain ⟨hz, h⟩ := h
        refine ⟨hz, ?_⟩
        refine xEv_post' _ _ _ _ _ (xrI_mono (fun _ _ h => ?_)) h
        refine xite_mono (fun h => ?_) (fun h => ?_) h
        · exact b_Hall_decide_18 h
        · refine b_Hall_decide_17 ?_
          obtain ⟨hz, h⟩ := h
          refine ⟨hz, ?_⟩
          refine xEv_post' _ _ _ _ _ (xrV_mono (fun _ h => ?_)) h
          exact b_Hall_decide_18 h
set_option maxRecDepth 100000 in
theorem t_Hall_decide_14 {sa : Nat → Nat} {d : Nat} {Q : xQ} {l0 : Nat} {l1 : Nat} {l2 : Nat} {l3 : Int32} {s0 : Int32} {s1 : Nat} {M : xM} {u : xU} (h : xsZ M s1 s0 (nI 0) fun M1 => (xgfR M1 l1 0 0 fun v1 => (xaI M1 v1 l3 fun v2 => (if ¬ v2 = 0 then K_Hall_decide sa d Q 1 [some (.ref l0), some (.ref l1), some (.ref l2), some (.int (l3 + (nI 1))), none] [] M1 u else (xobj M1 l0 2 ∧ xEv xP (xprim sa) d m_Hall_isRuled [.ref l0, .ref l1] M1 (xrI fun r1 M2 => if r1 = 0 then K_Hall_decide sa d Q 1 [some (.ref l0), some (.ref l1), some (.ref l2), some (.int (l3 + (nI 1))), none] [] M2 u else (xobj M2 l0 2 ∧ xEv xP (xprim sa) d m_Hall_decideSound [.ref l0, .ref l1, .ref l2, .int l3] M2 (xrV fun M3 => K_Hall_decide sa d Q 1 [some (.ref l0), some (.ref l1), some (.ref l2), some (.int (l3 + (nI 1))), none] [] M3 u)))))))) : K_Hall_decide sa d Q 14 [some (.ref l0), some (.ref l1), some (.ref l2), some (.int l3), none] [.int s0, .ref s1] M u := by
  refine b_Hall_decide_14 ?_
  refine b_Hall_decide_15 ?_
  refine xsZ_mono (fun _ h => ?_) h
  refine xgfR_mono (fun _ h => ?_) h
  refine xaI_mono (fun _ h => ?_) h
  refine xite_mono (fun h => ?_) (fun h => ?_) h
  · exact b_Hall_decide_18 h
  · refine b_Hall_decide_16 ?_
    obtain ⟨hz, h⟩ := h
    refine ⟨hz, ?_⟩
    refine xEv_post' _ _ _ _ _ (xrI_mono (fun _ _ h => ?_)) h
    refine xite_mono (fun h => ?_) (fun h => ?_) h
    · exact b_Hall_decide_18 h
    · refine b_Hall_decide_17 ?_
      obtain ⟨hz, h⟩ := h
      refine ⟨hz, ?_⟩
      refine xEv_post' _ _ _ _ _ (xrV_mono (fun _ h => ?_)) h
      exact b_Hall_decide_18 h
theorem t_Hall_decide {sa : Nat → Nat} {d : Nat} {Q : xQ} {l0 : Nat} {l1 : Nat} {l2 : Nat} {M : xM} (h : K_Hall_decide sa d Q 1 [some (.ref l0), some (.ref l1), some (.ref l2), some (.int (nI 0)), none] [] M (0, 0)) : xEv xP (xprim sa) (d + 1) m_Hall_decide [.ref l0, .ref l1, .ref l2] M Q := e_Hall_decide (t_Hall_decide_0 h)
set_option maxRecDepth 100000 in
theorem t_Hall_decideSound_0 {sa : Nat → Nat} {d : Nat} {Q : xQ} {l0 : Nat} {l1 : Nat} {l2 : Nat} {l3 : Int32} {M : xM} {u : xU} (h : xgfR M l0 2 5 fun v1 => (xgfI M l1 0 7 fun v2 => (xaR M v1 v2 fun v3 => (K_Hall_decideSound sa d Q 1 [some (.ref l0), some (.ref l1), some (.ref l2), some (.int l3), some (.ref v3), some (.int (nI 0)), none, none] [] M u)))) : K_Hall_decideSound sa d Q 0 [some (.ref l0), some (.ref l1), some (.ref l2), some (.int l3), none, none, none, none] [] M u := b_Hall_decideSound_0 h
set_option maxRecDepth 100000 in
theorem t_Hall_decideSound_1 {sa : Nat → Nat} {d : Nat} {Q : xQ} {l0 : Nat} {l1 : Nat} {l2 : Nat} {l3 : Int32} {l4 : Nat} {l5 : Int32} {M : xM} {u : xU} (h : xgfI M l4 8 8 fun v1 => (if v1 ≤ l5 then (Q none M) else (xgfR M l4 8 4 fun v2 => (xaI M v2 l5 fun v3 => (if ¬ v3 = (nI 403) then (xobj M l0 2 ∧ xEv xP (xprim sa) d m_Hall_work [.ref l0, .ref l4, .int l5, .ref l1, .ref l2, .int l3] M (xrI fun r1 M1 => if v3 = (nI 400) then (xgfR M1 l0 2 1 fun v7 => (xEv xP (xprim sa) d m_C_bounded [.int r1, .int (nI 0), .int (nI 99)] M1 (xrI fun r2 M5 => xsI M5 v7 l3 r2 fun M6 => (K_Hall_decideSound sa d Q 1 [some (.ref l0), some (.ref l1), some (.ref l2), some (.int l3), some (.ref l4), some (.int (l5 + (nI 1))), none, none] [] M6 u)))) else (if v3 = (nI 401) then (xgfR M1 l0 2 2 fun v8 => (xEv xP (xprim sa) d m_C_bounded [.int r1, .int (-1 : Int32), .int (nI 99)] M1 (xrI fun r3 M7 => xsI M7 v8 l3 r3 fun M8 => (K_Hall_decideSound sa d Q 1 [some (.ref l0), some (.ref l1), some (.ref l2), some (.int l3), some (.ref l4), some (.int (l5 + (nI 1))), none, none] [] M8 u)))) else (if v3 = (nI 402) then (xgfR M1 l0 2 3 fun v9 => (xEv xP (xprim sa) d m_C_bounded [.int r1, .int (-1 : Int32), .int (nI 99)] M1 (xrI fun r4 M9 => xsI M9 v9 l3 r4 fun M10 => (K_Hall_decideSound sa d Q 1 [some (.ref l0), some (.ref l1), some (.ref l2), some (.int l3), some (.ref l4), some (.int (l5 + (nI 1))), none, none] [] M10 u)))) else (xgfR M1 l0 2 4 fun v4 => (xgfR M1 l0 2 4 fun v5 => (xaZ M1 v5 l3 fun v6 => (if ¬ v6 = 0 then (xsZ M1 v4 l3 (nI 1) fun M2 => (K_Hall_decideSound sa d Q 1 [some (.ref l0), some (.ref l1), some (.ref l2), some (.int l3), some (.ref l4), some (.int (l5 + (nI 1))), none, none] [] M2 u)) else (if r1 = 0 then (xsZ M1 v4 l3 (nI 0) fun M3 => (K_Hall_decideSound sa d Q 1 [some (.ref l0), some (.ref l1), some (.ref l2), some (.int l3), some (.ref l4), some (.int (l5 + (nI 1))), none, none] [] M3 u)) else (xsZ M1 v4 l3 (nI 1) fun M4 => (K_Hall_decideSound sa d Q 1 [some (.ref l0), some (.ref l1), some (.ref l2), some (.int l3), some (.ref l4), some (.int (l5 + (nI 1))), none, none] [] M4 u))))))))))) else K_Hall_decideSound sa d Q 1 [some (.ref l0), some (.ref l1), some (.ref l2), some (.int l3), some (.ref l4), some (.int (l5 + (nI 1))), none, none] [] M u))))) : K_Hall_decideSound sa d Q 1 [some (.ref l0), some (.ref l1), some (.ref l2), some (.int l3), some (.ref l4), some (.int l5), none, none] [] M u := by
  refine b_Hall_decideSound_1 ?_
  refine xgfI_mono (fun _ h => ?_) h
  refine xite_mono (fun h => ?_) (fun h => ?_) h
  · exact b_Hall_decideSound_14 h
  · refine b_Hall_decideSound_2 ?_
    refine xgfR_mono (fun _ h => ?_) h
    refine xaI_mono (fun _ h => ?_) h
    refine xite_mono (fun h => ?_) (fun h => ?_) h
    · refine b_Hall_decideSound_4 ?_
      obtain ⟨hz, h⟩ := h
      refine ⟨hz, ?_⟩
      refine xEv_post' _ _ _ _ _ (xrI_mono (fun _ _ h => ?_)) h
      refine xite_mono (fun h => ?_) (fun h => ?_) h
      · refine b_Hall_decideSound_5 ?_
        refine xgfR_mono (fun _ h => ?_) h
        refine xEv_post' _ _ _ _ _ (xrI_mono (fun _ _ h => ?_)) h
        refine xsI_mono (fun _ h => ?_) h
        exact b_Hall_decideSound_13 h
      · refine xite_mono (fun h => ?_) (fun h => ?_) h
        · refine b_Hall_decideSound_6 ?_
          refine xgfR_mono (fun _ h => ?_) h
          refine xEv_post' _ _ _ _ _ (xrI_mono (fun _ _ h => ?_)) h
          refine xsI_mono (fun _ h => ?_) h
          exact b_Hall_decideSound_13 h
        · refine xite_mono (fun h => ?_) (fun h => ?_) h
          · refine b_Hall_decideSound_7 ?_
            refine xgfR_mono (fun _ h => ?_) h
            refine xEv_post' _ _ _ _ _ (xrI_mono (fun _ _ h => ?_)) h
            refine xsI_mono (fun _ h => ?_) h
            exact b_Hall_decideSound_13 h
          · refine b_Hall_decideSound_8 ?_
            refine xgfR_mono (fun _ h => ?_) h
            refine xgfR_mono (fun _ h => ?_) h
            refine xaZ_mono (fun _ h => ?_) h
            refine xite_mono (fun h => ?_) (fun h => ?_) h
            · refine b_Hall_decideSound_10 ?_
              refine b_Hall_decideSound_12 ?_
              refine xsZ_mono (fun _ h => ?_) h
              exact b_Hall_decideSound_13 h
            · refine b_Hall_decideSound_9 ?_
              refine xite_mono (fun h => ?_) (fun h => ?_) h
              · refine b_Hall_decideSound_11 ?_
                refine b_Hall_decideSound_12 ?_
                refine xsZ_mono (fun _ h => ?_) h
                exact b_Hall_decideSound_13 h
              · refine b_Hall_decideSound_10 ?_
                refine b_Hall_decideSound_12 ?_
                refine xsZ_mono (fun _ h => ?_) h
                exact b_Hall_decideSound_13 h
    · refine b_Hall_decideSound_3 ?_
      exact b_Hall_decideSound_13 h
theorem t_Hall_decideSound {sa : Nat → Nat} {d : Nat} {Q : xQ} {l0 : Nat} {l1 : Nat} {l2 : Nat} {l3 : Int32} {M : xM} (h : xgfR M l0 2 5 fun v1 => (xgfI M l1 0 7 fun v2 => (xaR M v1 v2 fun v3 => (K_Hall_decideSound sa d Q 1 [some (.ref l0), some (.ref l1), some (.ref l2), some (.int l3), some (.ref v3), some (.int (nI 0)), none, none] [] M (0, 0))))) : xEv xP (xprim sa) (d + 1) m_Hall_decideSound [.ref l0, .ref l1, .ref l2, .int l3] M Q := e_Hall_decideSound (t_Hall_decideSound_0 h)
set_option maxRecDepth 100000 in
theorem t_Hall_carry_0 {sa : Nat → Nat} {d : Nat} {Q : xQ} {l0 : Nat} {l1 : Nat} {l2 : Nat} {l3 : Int32} {M : xM} {u : xU} (h : K_Hall_carry sa d Q 1 [some (.ref l0), some (.ref l1), some (.ref l2), some (.int l3), some (.int (nI 0)), some (.int (nI 0))] [] M u) : K_Hall_carry sa d Q 0 [some (.ref l0), some (.ref l1), some (.ref l2), some (.int l3), none, none] [] M u := b_Hall_carry_0 h
set_option maxRecDepth 100000 in
theorem t_Hall_carry_1 {sa : Nat → Nat} {d : Nat} {Q : xQ} {l0 : Nat} {l1 : Nat} {l2 : Nat} {l3 : Int32} {l4 : Int32} {l5 : Int32} {M : xM} {u : xU} (h : xgfI M l0 2 0 fun v1 => (if v1 ≤ l5 then (xpf M l2 4 3 (.int l4) fun M1 => (xpf M1 l2 4 4 (.int l3) fun M2 => (Q none M2))) else (xgfR M l2 4 0 fun v2 => (xgfR M l0 2 1 fun v3 => (xaI M v3 l5 fun v4 => (xsI M v2 l5 v4 fun M3 => (xgfR M3 l2 4 1 fun v5 => (xobj M3 l0 2 ∧ xEv xP (xprim sa) d m_Hall_rightOf [.ref l0, .int l5] M3 (xrI fun r1 M4 => xgfR M4 l0 2 3 fun v6 => (xaI M4 v6 l5 fun v7 => (xobj M4 l1 0 ∧ xEv xP (xprim sa) d m_Elders_through [.ref l1, .int v7] M4 (xrI fun r2 M5 => xsI M5 v5 r1 r2 fun M6 => (xgfR M6 l2 4 2 fun v8 => (xobj M6 l0 2 ∧ xEv xP (xprim sa) d m_Hall_leftOf [.ref l0, .int l5] M6 (xrI fun r3 M7 => xgfR M7 l0 2 2 fun v9 => (xaI M7 v9 l5 fun v10 => (xobj M7 l1 0 ∧ xEv xP (xprim sa) d m_Elders_through [.ref l1, .int v10] M7 (xrI fun r4 M8 => xsI M8 v8 r3 r4 fun M9 => (xgfR M9 l0 2 4 fun v11 => (xaZ M9 v11 l5 fun v12 => (if v12 = 0 then K_Hall_carry sa d Q 1 [some (.ref l0), some (.ref l1), some (.ref l2), some (.int l3), some (.int (l4 + (nI 0))), some (.int (l5 + (nI 1)))] [] M9 u else (xgfR M9 l1 0 5 fun v13 => (xaZ M9 v13 l5 fun v14 => (if ¬ v14 = 0 then K_Hall_carry sa d Q 1 [some (.ref l0), some (.ref l1), some (.ref l2), some (.int l3), some (.int (l4 + (nI 0))), some (.int (l5 + (nI 1)))] [] M9 u else K_Hall_carry sa d Q 1 [some (.ref l0), some (.ref l1), some (.ref l2), some (.int l3), some (.int (l4 + (nI 1))), some (.int (l5 + (nI 1)))] [] M9 u)))))))))))))))))))))))) : K_Hall_carry sa d Q 1 [some (.ref l0), some (.ref l1), some (.ref l2), some (.int l3), some (.int l4), some (.int l5)] [] M u := by
  refine b_Hall_carry_1 ?_
  refine xgfI_mono (fun _ h => ?_) h
  refine xite_mono (fun h => ?_) (fun h => ?_) h
  · exact b_Hall_carry_7 h
  · refine b_Hall_carry_2 ?_
    refine xgfR_mono (fun _ h => ?_) h
    refine xgfR_mono (fun _ h => ?_) h
    refine xaI_mono (fun _ h => ?_) h
    refine xsI_mono (fun _ h => ?_) h
    refine xgfR_mono (fun _ h => ?_) h
    obtain ⟨hz, h⟩ := h
    refine ⟨hz, ?_⟩
    refine xEv_post' _ _ _ _ _ (xrI_mono (fun _ _ h => ?_)) h
    refine xgfR_mono (fun _ h => ?_) h
    refine xaI_mono (fun _ h => ?_) h
    obtain ⟨hz, h⟩ := h
    refine ⟨hz, ?_⟩
    refine xEv_post' _ _ _ _ _ (xrI_mono (fun _ _ h => ?_)) h
    refine xsI_mono (fun _ h => ?_) h
    refine xgfR_mono (fun _ h => ?_) h
    obtain ⟨hz, h⟩ := h
    refine ⟨hz, ?_⟩
    refine xEv_post' _ _ _ _ _ (xrI_mono (fun _ _ h => ?_)) h
    refine xgfR_mono (fun _ h => ?_) h
    refine xaI_mono (fun _ h => ?_) h
    obtain ⟨hz, h⟩ := h
    refine ⟨hz, ?_⟩
    refine xEv_post' _ _ _ _ _ (xrI_mono (fun _ _ h => ?_)) h
    refine xsI_mono (fun _ h => ?_) h
    refine xgfR_mono (fun _ h => ?_) h
    refine xaZ_mono (fun _ h => ?_) h
    refine xite_mono (fun h => ?_) (fun h => ?_) h
    · refine b_Hall_carry_5 ?_
      exact b_Hall_carry_6 h
    · refine b_Hall_carry_3 ?_
      refine xgfR_mono (fun _ h => ?_) h
      refine xaZ_mono (fun _ h => ?_) h
      refine xite_mono (fun h => ?_) (fun h => ?_) h
      · refine b_Hall_carry_5 ?_
        exact b_Hall_carry_6 h
      · refine b_Hall_carry_4 ?_
        exact b_Hall_carry_6 h
theorem t_Hall_carry {sa : Nat → Nat} {d : Nat} {Q : xQ} {l0 : Nat} {l1 : Nat} {l2 : Nat} {l3 : Int32} {M : xM} (h : K_Hall_carry sa d Q 1 [some (.ref l0), some (.ref l1), some (.ref l2), some (.int l3), some (.int (nI 0)), some (.int (nI 0))] [] M (0, 0)) : xEv xP (xprim sa) (d + 1) m_Hall_carry [.ref l0, .ref l1, .ref l2, .int l3] M Q := e_Hall_carry (t_Hall_carry_0 h)
set_option maxRecDepth 100000 in
theorem t_Hall_wordOf_0 {sa : Nat → Nat} {d : Nat} {Q : xQ} {l0 : Nat} {l1 : Nat} {l2 : Nat} {l3 : Int32} {M : xM} {u : xU} (h : xobj M l0 2 ∧ xEv xP (xprim sa) d m_Hall_isRuled [.ref l0, .ref l1] M (xrI fun r1 M1 => if r1 = 0 then (if ¬ (-1 : Int32) = (-1 : Int32) then (xgfR M1 l0 2 5 fun v1 => (xgfI M1 l1 0 7 fun v2 => (xaR M1 v1 v2 fun v3 => (xobj M1 l0 2 ∧ xEv xP (xprim sa) d m_Hall_work [.ref l0, .ref v3, .int (-1 : Int32), .ref l1, .ref l2, .int l3] M1 (xrI fun r2 M2 => xEv xP (xprim sa) d m_C_bounded [.int r2, .int (nI 0), .int (nI 9)] M2 (xrI fun r3 M3 => Q (some (.int r3)) M3)))))) else (xgfR M1 l2 4 0 fun v4 => (xaI M1 v4 l3 fun v5 => (xEv xP (xprim sa) d m_C_bounded [.int v5, .int (nI 0), .int (nI 9)] M1 (xrI fun r4 M4 => Q (some (.int r4)) M4))))) else (xgfR M1 l0 2 5 fun v6 => (xgfI M1 l1 0 7 fun v7 => (xaR M1 v6 v7 fun v8 => (xobj M1 v8 8 ∧ xEv xP (xprim sa) d m_Text_clauseOf [.ref v8, .int (nI 403)] M1 (xrI fun r5 M5 => if ¬ r5 = (-1 : Int32) then (xgfR M5 l0 2 5 fun v9 => (xgfI M5 l1 0 7 fun v10 => (xaR M5 v9 v10 fun v11 => (xobj M5 l0 2 ∧ xEv xP (xprim sa) d m_Hall_work [.ref l0, .ref v11, .int r5, .ref l1, .ref l2, .int l3] M5 (xrI fun r6 M6 => xEv xP (xprim sa) d m_C_bounded [.int r6, .int (nI 0), .int (nI 9)] M6 (xrI fun r7 M7 => Q (some (.int r7)) M7)))))) else (xgfR M5 l2 4 0 fun v12 => (xaI M5 v12 l3 fun v13 => (xEv xP (xprim sa) d m_C_bounded [.int v13, .int (nI 0), .int (nI 9)] M5 (xrI fun r8 M8 => Q (some (.int r8)) M8))))))))))) : K_Hall_wordOf sa d Q 0 [some (.ref l0), some (.ref l1), some (.ref l2), some (.int l3), none, none] [] M u := by
  refine b_Hall_wordOf_0 ?_
  obtain ⟨hz, h⟩ := h
  refine ⟨hz, ?_⟩
  refine xEv_post' _ _ _ _ _ (xrI_mono (fun _ _ h => ?_)) h
  refine xite_mono (fun h => ?_) (fun h => ?_) h
  · refine b_Hall_wordOf_2 ?_
    refine b_Hall_wordOf_3 ?_
    refine xite_mono (fun h => ?_) (fun h => ?_) h
    · refine b_Hall_wordOf_5 ?_
      refine xgfR_mono (fun _ h => ?_) h
      refine xgfI_mono (fun _ h => ?_) h
      refine xaR_mono (fun _ h => ?_) h
      obtain ⟨hz, h⟩ := h
      refine ⟨hz, ?_⟩
      refine xEv_post' _ _ _ _ _ (xrI_mono (fun _ _ h => ?_)) h
      exact b_Hall_wordOf_6 h
    · refine b_Hall_wordOf_4 ?_
      refine xgfR_mono (fun _ h => ?_) h
      refine xaI_mono (fun _ h => ?_) h
      exact b_Hall_wordOf_6 h
  · refine b_Hall_wordOf_1 ?_
    refine xgfR_mono (fun _ h => ?_) h
    refine xgfI_mono (fun _ h => ?_) h
    refine xaR_mono (fun _ h => ?_) h
    obtain ⟨hz, h⟩ := h
    refine ⟨hz, ?_⟩
    refine xEv_post' _ _ _ _ _ (xrI_mono (fun _ _ h => ?_)) h
    refine b_Hall_wordOf_3 ?_
    refine xite_mono (fun h => ?_) (fun h => ?_) h
    · refine b_Hall_wordOf_5 ?_
      refine xgfR_mono (fun _ h => ?_) h
      refine xgfI_mono (fun _ h => ?_) h
      refine xaR_mono (fun _ h => ?_) h
      obtain ⟨hz, h⟩ := h
      refine ⟨hz, ?_⟩
      refine xEv_post' _ _ _ _ _ (xrI_mono (fun _ _ h => ?_)) h
      exact b_Hall_wordOf_6 h
    · refine b_Hall_wordOf_4 ?_
      refine xgfR_mono (fun _ h => ?_) h
      refine xaI_mono (fun _ h => ?_) h
      exact b_Hall_wordOf_6 h
theorem t_Hall_wordOf {sa : Nat → Nat} {d : Nat} {Q : xQ} {l0 : Nat} {l1 : Nat} {l2 : Nat} {l3 : Int32} {M : xM} (h : xobj M l0 2 ∧ xEv xP (xprim sa) d m_Hall_isRuled [.ref l0, .ref l1] M (xrI fun r1 M1 => if r1 = 0 then (if ¬ (-1 : Int32) = (-1 : Int32) then (xgfR M1 l0 2 5 fun v1 => (xgfI M1 l1 0 7 fun v2 => (xaR M1 v1 v2 fun v3 => (xobj M1 l0 2 ∧ xEv xP (xprim sa) d m_Hall_work [.ref l0, .ref v3, .int (-1 : Int32), .ref l1, .ref l2, .int l3] M1 (xrI fun r2 M2 => xEv xP (xprim sa) d m_C_bounded [.int r2, .int (nI 0), .int (nI 9)] M2 (xrI fun r3 M3 => Q (some (.int r3)) M3)))))) else (xgfR M1 l2 4 0 fun v4 => (xaI M1 v4 l3 fun v5 => (xEv xP (xprim sa) d m_C_bounded [.int v5, .int (nI 0), .int (nI 9)] M1 (xrI fun r4 M4 => Q (some (.int r4)) M4))))) else (xgfR M1 l0 2 5 fun v6 => (xgfI M1 l1 0 7 fun v7 => (xaR M1 v6 v7 fun v8 => (xobj M1 v8 8 ∧ xEv xP (xprim sa) d m_Text_clauseOf [.ref v8, .int (nI 403)] M1 (xrI fun r5 M5 => if ¬ r5 = (-1 : Int32) then (xgfR M5 l0 2 5 fun v9 => (xgfI M5 l1 0 7 fun v10 => (xaR M5 v9 v10 fun v11 => (xobj M5 l0 2 ∧ xEv xP (xprim sa) d m_Hall_work [.ref l0, .ref v11, .int r5, .ref l1, .ref l2, .int l3] M5 (xrI fun r6 M6 => xEv xP (xprim sa) d m_C_bounded [.int r6, .int (nI 0), .int (nI 9)] M6 (xrI fun r7 M7 => Q (some (.int r7)) M7)))))) else (xgfR M5 l2 4 0 fun v12 => (xaI M5 v12 l3 fun v13 => (xEv xP (xprim sa) d m_C_bounded [.int v13, .int (nI 0), .int (nI 9)] M5 (xrI fun r8 M8 => Q (some (.int r8)) M8))))))))))) : xEv xP (xprim sa) (d + 1) m_Hall_wordOf [.ref l0, .ref l1, .ref l2, .int l3] M Q := e_Hall_wordOf (t_Hall_wordOf_0 h)
set_option maxRecDepth 100000 in
theorem t_Hall_isAgreed_0 {sa : Nat → Nat} {d : Nat} {Q : xQ} {l0 : Nat} {l1 : Nat} {l2 : Nat} {M : xM} {u : xU} (h : K_Hall_isAgreed sa d Q 1 [some (.ref l0), some (.ref l1), some (.ref l2), some (.int (-1 : Int32)), some (.int (nI 0)), none] [] M u) : K_Hall_isAgreed sa d Q 0 [some (.ref l0), some (.ref l1), some (.ref l2), none, none, none] [] M u := b_Hall_isAgreed_0 h
set_option maxRecDepth 100000 in
theorem t_Hall_isAgreed_1 {sa : Nat → Nat} {d : Nat} {Q : xQ} {l0 : Nat} {l1 : Nat} {l2 : Nat} {l3 : Int32} {l4 : Int32} {M : xM} {u : xU} (h : xgfI M l0 2 0 fun v1 => (if v1 ≤ l4 then (((nI 1) = 0 ∨ (nI 1) = 1) ∧ Q (some (.int (nI 1))) M) else (xgfR M l1 0 0 fun v2 => (xaI M v2 l4 fun v3 => (if v3 = 0 then (xobj M l0 2 ∧ xEv xP (xprim sa) d m_Hall_wordOf [.ref l0, .ref l1, .ref l2, .int l4] M (xrI fun r1 M1 => if l3 = (-1 : Int32) then K_Hall_isAgreed sa d Q 1 [some (.ref l0), some (.ref l1), some (.ref l2), some (.int r1), some (.int (l4 + (nI 1))), none] [] M1 u else (if l3 = r1 then K_Hall_isAgreed sa d Q 1 [some (.ref l0), some (.ref l1), some (.ref l2), some (.int r1), some (.int (l4 + (nI 1))), none] [] M1 u else (((nI 0) = 0 ∨ (nI 0) = 1) ∧ Q (some (.int (nI 0))) M1)))) else K_Hall_isAgreed sa d Q 1 [some (.ref l0), some (.ref l1), some (.ref l2), some (.int l3), some (.int (l4 + (nI 1))), none] [] M u))))) : K_Hall_isAgreed sa d Q 1 [some (.ref l0), some (.ref l1), some (.ref l2), some (.int l3), some (.int l4), none] [] M u := by
  refine b_Hall_isAgreed_1 ?_
  refine xgfI_mono (fun _ h => ?_) h
  refine xite_mono (fun h => ?_) (fun h => ?_) h
  · exact b_Hall_isAgreed_9 h
  · refine b_Hall_isAgreed_2 ?_
    refine xgfR_mono (fun _ h => ?_) h
    refine xaI_mono (fun _ h => ?_) h
    refine xite_mono (fun h => ?_) (fun h => ?_) h
    · refine b_Hall_isAgreed_4 ?_
      obtain ⟨hz, h⟩ := h
      refine ⟨hz, ?_⟩
      refine xEv_post' _ _ _ _ _ (xrI_mono (fun _ _ h => ?_)) h
      refine xite_mono (fun h => ?_) (fun h => ?_) h
      · refine b_Hall_isAgreed_7 ?_
        exact b_Hall_isAgreed_8 h
      · refine b_Hall_isAgreed_5 ?_
        refine xite_mono (fun h => ?_) (fun h => ?_) h
        · refine b_Hall_isAgreed_7 ?_
          exact b_Hall_isAgreed_8 h
        · exact b_Hall_isAgreed_6 h
    · refine b_Hall_isAgreed_3 ?_
      exact b_Hall_isAgreed_8 h
theorem t_Hall_isAgreed {sa : Nat → Nat} {d : Nat} {Q : xQ} {l0 : Nat} {l1 : Nat} {l2 : Nat} {M : xM} (h : K_Hall_isAgreed sa d Q 1 [some (.ref l0), some (.ref l1), some (.ref l2), some (.int (-1 : Int32)), some (.int (nI 0)), none] [] M (0, 0)) : xEv xP (xprim sa) (d + 1) m_Hall_isAgreed [.ref l0, .ref l1, .ref l2] M Q := e_Hall_isAgreed (t_Hall_isAgreed_0 h)
set_option maxRecDepth 100000 in
theorem t_Hall_isRuled_0 {sa : Nat → Nat} {d : Nat} {Q : xQ} {l0 : Nat} {l1 : Nat} {M : xM} {u : xU} (h : xgfI M l1 0 7 fun v1 => (if v1 < 0 then (((nI 0) = 0 ∨ (nI 0) = 1) ∧ Q (some (.int (nI 0))) M) else (xgfI M l1 0 7 fun v2 => (if (nI 4) ≤ v2 then (((nI 0) = 0 ∨ (nI 0) = 1) ∧ Q (some (.int (nI 0))) M) else (((nI 1) = 0 ∨ (nI 1) = 1) ∧ Q (some (.int (nI 1))) M))))) : K_Hall_isRuled sa d Q 0 [some (.ref l0), some (.ref l1)] [] M u := by
  refine b_Hall_isRuled_0 ?_
  refine xgfI_mono (fun _ h => ?_) h
  refine xite_mono (fun h => ?_) (fun h => ?_) h
  · refine b_Hall_isRuled_3 ?_
    exact b_Hall_isRuled_4 h
  · refine b_Hall_isRuled_1 ?_
    refine xgfI_mono (fun _ h => ?_) h
    refine xite_mono (fun h => ?_) (fun h => ?_) h
    · refine b_Hall_isRuled_3 ?_
      exact b_Hall_isRuled_4 h
    · refine b_Hall_isRuled_2 ?_
      exact b_Hall_isRuled_4 h
theorem t_Hall_isRuled {sa : Nat → Nat} {d : Nat} {Q : xQ} {l0 : Nat} {l1 : Nat} {M : xM} (h : xgfI M l1 0 7 fun v1 => (if v1 < 0 then (((nI 0) = 0 ∨ (nI 0) = 1) ∧ Q (some (.int (nI 0))) M) else (xgfI M l1 0 7 fun v2 => (if (nI 4) ≤ v2 then (((nI 0) = 0 ∨ (nI 0) = 1) ∧ Q (some (.int (nI 0))) M) else (((nI 1) = 0 ∨ (nI 1) = 1) ∧ Q (some (.int (nI 1))) M))))) : xEv xP (xprim sa) (d + 1) m_Hall_isRuled [.ref l0, .ref l1] M Q := e_Hall_isRuled (t_Hall_isRuled_0 h)
set_option maxRecDepth 100000 in
theorem t_Hall_work_0 {sa : Nat → Nat} {d : Nat} {Q : xQ} {l0 : Nat} {l1 : Nat} {l2 : Int32} {l3 : Nat} {l4 : Nat} {l5 : Int32} {M : xM} {u : xU} (h : xgfR M l1 8 6 fun v1 => (xaI M v1 l2 fun v2 => (xgfR M l1 8 5 fun v3 => (xaI M v3 l2 fun v4 => (K_Hall_work sa d Q 1 [some (.ref l0), some (.ref l1), none, some (.ref l3), some (.ref l4), some (.int l5), some (.int v2), some (.int v4), none, none, none] [] M u))))) : K_Hall_work sa d Q 0 [some (.ref l0), some (.ref l1), some (.int l2), some (.ref l3), some (.ref l4), some (.int l5), none, none, none, none, none] [] M u := b_Hall_work_0 h
set_option maxRecDepth 100000 in
theorem t_Hall_work_1 {sa : Nat → Nat} {d : Nat} {Q : xQ} {l0 : Nat} {l1 : Nat} {l3 : Nat} {l4 : Nat} {l5 : Int32} {l6 : Int32} {l7 : Int32} {M : xM} {u : xU} (h : if l6 < l7 then (xgfR M l0 2 6 fun v1 => (xaI M v1 l6 fun v2 => (Q (some (.int v2)) M))) else (xgfR M l1 8 0 fun v3 => (xaI M v3 l7 fun v4 => (xgfR M l1 8 1 fun v5 => (xaI M v5 l7 fun v6 => (xgfR M l1 8 2 fun v7 => (xaI M v7 l7 fun v8 => (if v4 = (nI 300) then (xgfR M l0 2 6 fun v14 => (xsI M v14 l7 v6 fun M3 => (K_Hall_work sa d Q 24 [some (.ref l0), some (.ref l1), none, some (.ref l3), some (.ref l4), some (.int l5), some (.int l6), some (.int l7), none, none, none] [] M3 u))) else (if v4 = (nI 409) then (xgfR M l0 2 6 fun v15 => (xgfR M l0 2 6 fun v16 => (xaI M v16 v6 fun v17 => (xsI M v15 l7 ((nI 1) - v17) fun M4 => (K_Hall_work sa d Q 24 [some (.ref l0), some (.ref l1), none, some (.ref l3), some (.ref l4), some (.int l5), some (.int l6), some (.int l7), none, none, none] [] M4 u))))) else (if v4 = (nI 410) then (xgfR M l0 2 6 fun v18 => (xsI M v18 l7 l5 fun M5 => (K_Hall_work sa d Q 24 [some (.ref l0), some (.ref l1), none, some (.ref l3), some (.ref l4), some (.int l5), some (.int l6), some (.int l7), none, none, none] [] M5 u))) else (if v4 = (nI 411) then (xgfR M l0 2 6 fun v19 => (xgfR M l4 4 0 fun v20 => (xaI M v20 l5 fun v21 => (xsI M v19 l7 v21 fun M6 => (K_Hall_work sa d Q 24 [some (.ref l0), some (.ref l1), none, some (.ref l3), some (.ref l4), some (.int l5), some (.int l6), some (.int l7), none, none, none] [] M6 u))))) else (if v4 = (nI 412) then (xgfR M l0 2 6 fun v22 => (xgfR M l4 4 1 fun v23 => (xaI M v23 l5 fun v24 => (xsI M v22 l7 v24 fun M7 => (K_Hall_work sa d Q 24 [some (.ref l0), some (.ref l1), none, some (.ref l3), some (.ref l4), some (.int l5), some (.int l6), some (.int l7), none, none, none] [] M7 u))))) else (if v4 = (nI 413) then (xgfR M l0 2 6 fun v25 => (xgfR M l4 4 2 fun v26 => (xaI M v26 l5 fun v27 => (xsI M v25 l7 v27 fun M8 => (K_Hall_work sa d Q 24 [some (.ref l0), some (.ref l1), none, some (.ref l3), some (.ref l4), some (.int l5), some (.int l6), some (.int l7), none, none, none] [] M8 u))))) else (if v4 = (nI 414) then (xgfR M l0 2 6 fun v28 => (xgfI M l4 4 3 fun v29 => (xsI M v28 l7 v29 fun M9 => (K_Hall_work sa d Q 24 [some (.ref l0), some (.ref l1), none, some (.ref l3), some (.ref l4), some (.int l5), some (.int l6), some (.int l7), none, none, none] [] M9 u)))) else (if v4 = (nI 415) then (xgfR M l0 2 6 fun v30 => (xgfI M l4 4 4 fun v31 => (xsI M v30 l7 v31 fun M10 => (K_Hall_work sa d Q 24 [some (.ref l0), some (.ref l1), none, some (.ref l3), some (.ref l4), some (.int l5), some (.int l6), some (.int l7), none, none, none] [] M10 u)))) else (if v4 = (nI 416) then (xgfR M l0 2 6 fun v32 => (xgfR M l3 0 1 fun v33 => (xaI M v33 l5 fun v34 => (xsI M v32 l7 v34 fun M11 => (K_Hall_work sa d Q 24 [some (.ref l0), some (.ref l1), none, some (.ref l3), some (.ref l4), some (.int l5), some (.int l6), some (.int l7), none, none, none] [] M11 u))))) else (if v4 = (nI 417) then (xgfR M l0 2 6 fun v35 => (xgfI M l0 2 0 fun v36 => (xsI M v35 l7 v36 fun M12 => (K_Hall_work sa d Q 24 [some (.ref l0), some (.ref l1), none, some (.ref l3), some (.ref l4), some (.int l5), some (.int l6), some (.int l7), none, none, none] [] M12 u)))) else (if v4 = (nI 600) then (xgfR M l0 2 6 fun v37 => (xaI M v37 v6 fun v38 => (if ¬ v38 = 0 then K_Hall_work sa d Q 24 [some (.ref l0), some (.ref l1), none, some (.ref l3), some (.ref l4), some (.int l5), some (.int l6), some (.int (l7 + (nI 0))), none, none, none] [] M u else K_Hall_work sa d Q 24 [some (.ref l0), some (.ref l1), none, some (.ref l3), some (.ref l4), some (.int l5), some (.int l6), some (.int (l7 + v8)), none, none, none] [] M u))) else (if v4 = (nI 601) then K_Hall_work sa d Q 24 [some (.ref l0), some (.ref l1), none, some (.ref l3), some (.ref l4), some (.int l5), some (.int l6), some (.int (l7 + v8)), none, none, none] [] M u else (if v4 = (nI 602) then (xgfR M l0 2 6 fun v39 => (xgfR M l0 2 6 fun v40 => (xgfR M l0 2 6 fun v41 => (xaI M v41 v6 fun v42 => (if v42 = 0 then (xgfR M l1 8 3 fun v43 => (xaI M v43 l7 fun v44 => (xaI M v40 v44 fun v45 => (xsI M v39 l7 v45 fun M13 => (K_Hall_work sa d Q 24 [some (.ref l0), some (.ref l1), none, some (.ref l3), some (.ref l4), some (.int l5), some (.int l6), some (.int l7), none, none, none] [] M13 u))))) else (xaI M v40 v8 fun v46 => (xsI M v39 l7 v46 fun M14 => (K_Hall_work sa d Q 24 [some (.ref l0), some (.ref l1), none, some (.ref l3), some (.ref l4), some (.int l5), some (.int l6), some (.int l7), none, none, none] [] M14 u)))))))) else (if v4 = (nI 603) then (xgfR M l0 2 6 fun v47 => (xgfR M l0 2 6 fun v48 => (xaI M v48 v6 fun v49 => (xsI M v47 l7 (-v49) fun M15 => (K_Hall_work sa d Q 24 [some (.ref l0), some (.ref l1), none, some (.ref l3), some (.ref l4), some (.int l5), some (.int l6), some (.int l7), none, none, none] [] M15 u))))) else (xgfR M l0 2 6 fun v9 => (xgfR M l0 2 6 fun v10 => (xaI M v10 v6 fun v11 => (xgfR M l0 2 6 fun v12 => (xaI M v12 v8 fun v13 => (xEv xP (xprim sa) d m_Hall_join [.int v4, .int v11, .int v13] M (xrI fun r1 M1 => xsI M1 v9 l7 r1 fun M2 => (K_Hall_work sa d Q 24 [some (.ref l0), some (.ref l1), none, some (.ref l3), some (.ref l4), some (.int l5), some (.int l6), some (.int l7), none, none, none] [] M2 u))))))))))))))))))))))))))))) : K_Hall_work sa d Q 1 [some (.ref l0), some (.ref l1), none, some (.ref l3), some (.ref l4), some (.int l5), some (.int l6), some (.int l7), none, none, none] [] M u := by
  refine b_Hall_work_1 ?_
  refine xite_mono (fun h => ?_) (fun h => ?_) h
  · exact b_Hall_work_25 h
  · refine b_Hall_work_2 ?_
    refine xgfR_mono (fun _ h => ?_) h
    refine xaI_mono (fun _ h => ?_) h
    refine xgfR_mono (fun _ h => ?_) h
    refine xaI_mono (fun _ h => ?_) h
    refine xgfR_mono (fun _ h => ?_) h
    refine xaI_mono (fun _ h => ?_) h
    refine xite_mono (fun h => ?_) (fun h => ?_) h
    · exact b_Hall_work_3 h
    · refine xite_mono (fun h => ?_) (fun h => ?_) h
      · exact b_Hall_work_12 h
      · refine xite_mono (fun h => ?_) (fun h => ?_) h
        · exact b_Hall_work_4 h
        · refine xite_mono (fun h => ?_) (fun h => ?_) h
          · exact b_Hall_work_5 h
          · refine xite_mono (fun h => ?_) (fun h => ?_) h
            · exact b_Hall_work_6 h
            · refine xite_mono (fun h => ?_) (fun h => ?_) h
              · exact b_Hall_work_7 h
              · refine xite_mono (fun h => ?_) (fun h => ?_) h
                · exact b_Hall_work_8 h
                · refine xite_mono (fun h => ?_) (fun h => ?_) h
                  · exact b_Hall_work_9 h
                  · refine xite_mono (fun h => ?_) (fun h => ?_) h
                    · exact b_Hall_work_10 h
                    · refine xite_mono (fun h => ?_) (fun h => ?_) h
                      · exact b_Hall_work_11 h
                      · refine xite_mono (fun h => ?_) (fun h => ?_) h
                        · refine b_Hall_work_14 ?_
                          refine xgfR_mono (fun _ h => ?_) h
                          refine xaI_mono (fun _ h => ?_) h
                          refine xite_mono (fun h => ?_) (fun h => ?_) h
                          · refine b_Hall_work_16 ?_
                            exact b_Hall_work_17 h
                          · refine b_Hall_work_15 ?_
                            exact b_Hall_work_17 h
                        · refine xite_mono (fun h => ?_) (fun h => ?_) h
                          · exact b_Hall_work_18 h
                          · refine xite_mono (fun h => ?_) (fun h => ?_) h
                            · refine b_Hall_work_19 ?_
                              refine xgfR_mono (fun _ h => ?_) h
                              refine xgfR_mono (fun _ h => ?_) h
                              refine xgfR_mono (fun _ h => ?_) h
                              refine xaI_mono (fun _ h => ?_) h
                              refine xite_mono (fun h => ?_) (fun h => ?_) h
                              · refine b_Hall_work_21 ?_
                                refine xgfR_mono (fun _ h => ?_) h
                                refine xaI_mono (fun _ h => ?_) h
                                exact b_Hall_work_22 h
                              · refine b_Hall_work_20 ?_
                                exact b_Hall_work_22 h
                            · refine xite_mono (fun h => ?_) (fun h => ?_) h
                              · exact b_Hall_work_13 h
                              · exact b_Hall_work_23 h
set_option maxRecDepth 100000 in
theorem t_Hall_work_24 {sa : Nat → Nat} {d : Nat} {Q : xQ} {l0 : Nat} {l1 : Nat} {l3 : Nat} {l4 : Nat} {l5 : Int32} {l6 : Int32} {l7 : Int32} {M : xM} {u : xU} (h : K_Hall_work sa d Q 1 [some (.ref l0), some (.ref l1), none, some (.ref l3), some (.ref l4), some (.int l5), some (.int l6), some (.int (l7 + (nI 1))), none, none, none] [] M u) : K_Hall_work sa d Q 24 [some (.ref l0), some (.ref l1), none, some (.ref l3), some (.ref l4), some (.int l5), some (.int l6), some (.int l7), none, none, none] [] M u := b_Hall_work_24 h
theorem t_Hall_work {sa : Nat → Nat} {d : Nat} {Q : xQ} {l0 : Nat} {l1 : Nat} {l2 : Int32} {l3 : Nat} {l4 : Nat} {l5 : Int32} {M : xM} (h : xgfR M l1 8 6 fun v1 => (xaI M v1 l2 fun v2 => (xgfR M l1 8 5 fun v3 => (xaI M v3 l2 fun v4 => (K_Hall_work sa d Q 1 [some (.ref l0), some (.ref l1), none, some (.ref l3), some (.ref l4), some (.int l5), some (.int v2), some (.int v4), none, none, none] [] M (0, 0)))))) : xEv xP (xprim sa) (d + 1) m_Hall_work [.ref l0, .ref l1, .int l2, .ref l3, .ref l4, .int l5] M Q := e_Hall_work (t_Hall_work_0 h)
set_option maxRecDepth 100000 in
theorem t_Hall_join_0 {sa : Nat → Nat} {d : Nat} {Q : xQ} {l0 : Int32} {l1 : Int32} {l2 : Int32} {M : xM} {u : xU} (h : if l0 = (nI 35) then (if l1 = l2 then K_Hall_join sa d Q 34 [none, none, none, some (.long (0 : Int64)), none] [] M u else K_Hall_join sa d Q 34 [none, none, none, some (.long (1 : Int64)), none] [] M u) else (if l0 = (nI 42) then K_Hall_join sa d Q 34 [none, none, none, some (.long (l1.toInt64 * l2.toInt64)), none] [] M u else (if l0 = (nI 43) then K_Hall_join sa d Q 34 [none, none, none, some (.long (l1.toInt64 + l2.toInt64)), none] [] M u else (if l0 = (nI 45) then K_Hall_join sa d Q 34 [none, none, none, some (.long (l1.toInt64 - l2.toInt64)), none] [] M u else (if l0 = (nI 47) then (if ¬ l2 = 0 then (¬ l2 = 0 ∧ K_Hall_join sa d Q 34 [none, none, none, some (.long ((l1 / l2).toInt64)), none] [] M u) else K_Hall_join sa d Q 34 [none, none, none, some (.long (0 : Int64)), none] [] M u) else (if l0 = (nI 60) then (if l2 ≤ l1 then K_Hall_join sa d Q 34 [none, none, none, some (.long (0 : Int64)), none] [] M u else K_Hall_join sa d Q 34 [none, none, none, some (.long (1 : Int64)), none] [] M u) else (if l0 = (nI 61) then (if ¬ l1 = l2 then K_Hall_join sa d Q 34 [none, none, none, some (.long (0 : Int64)), none] [] M u else K_Hall_join sa d Q 34 [none, none, none, some (.long (1 : Int64)), none] [] M u) else (if l0 = (nI 62) then (if l1 ≤ l2 then K_Hall_join sa d Q 34 [none, none, none, some (.long (0 : Int64)), none] [] M u else K_Hall_join sa d Q 34 [none, none, none, some (.long (1 : Int64)), none] [] M u) else (if l0 = (nI 301) then (if l2 < l1 then K_Hall_join sa d Q 34 [none, none, none, some (.long (0 : Int64)), none] [] M u else K_Hall_join sa d Q 34 [none, none, none, some (.long (1 : Int64)), none] [] M u) else (if l0 = (nI 302) then (if l1 < l2 then K_Hall_join sa d Q 34 [none, none, none, some (.long (0 : Int64)), none] [] M u else K_Hall_join sa d Q 34 [none, none, none, some (.long (1 : Int64)), none] [] M u) else (if l0 = (nI 407) then K_Hall_join sa d Q 34 [none, none, none, some (.long ((l1 ||| l2).toInt64)), none] [] M u else K_Hall_join sa d Q 34 [none, none, none, some (.long ((l1 &&& l2).toInt64)), none] [] M u))))))))))) : K_Hall_join sa d Q 0 [some (.int l0), some (.int l1), some (.int l2), none, none] [] M u := by
  refine b_Hall_join_0 ?_
  refine xite_mono (fun h => ?_) (fun h => ?_) h
  · refine b_Hall_join_20 ?_
    refine xite_mono (fun h => ?_) (fun h => ?_) h
    · refine b_Hall_join_22 ?_
      exact b_Hall_join_23 h
    · refine b_Hall_join_21 ?_
      exact b_Hall_join_23 h
  · refine xite_mono (fun h => ?_) (fun h => ?_) h
    · exact b_Hall_join_3 h
    · refine xite_mono (fun h => ?_) (fun h => ?_) h
      · exact b_Hall_join_1 h
      · refine xite_mono (fun h => ?_) (fun h => ?_) h
        · exact b_Hall_join_2 h
        · refine xite_mono (fun h => ?_) (fun h => ?_) h
          · refine b_Hall_join_4 ?_
            refine xite_mono (fun h => ?_) (fun h => ?_) h
            · refine b_Hall_join_6 ?_
              obtain ⟨hz, h⟩ := h
              refine ⟨hz, ?_⟩
              exact b_Hall_join_7 h
            · refine b_Hall_join_5 ?_
              exact b_Hall_join_7 h
          · refine xite_mono (fun h => ?_) (fun h => ?_) h
            · refine b_Hall_join_8 ?_
              refine xite_mono (fun h => ?_) (fun h => ?_) h
              · refine b_Hall_join_10 ?_
                exact b_Hall_join_11 h
              · refine b_Hall_join_9 ?_
                exact b_Hall_join_11 h
            · refine xite_mono (fun h => ?_) (fun h => ?_) h
              · refine b_Hall_join_16 ?_
                refine xite_mono (fun h => ?_) (fun h => ?_) h
                · refine b_Hall_join_18 ?_
                  exact b_Hall_join_19 h
                · refine b_Hall_join_17 ?_
                  exact b_Hall_join_19 h
              · refine xite_mono (fun h => ?_) (fun h => ?_) h
                · refine b_Hall_join_12 ?_
                  refine xite_mono (fun h => ?_) (fun h => ?_) h
                  · refine b_Hall_join_14 ?_
                    exact b_Hall_join_15 h
                  · refine b_Hall_join_13 ?_
                    exact b_Hall_join_15 h
                · refine xite_mono (fun h => ?_) (fun h => ?_) h
                  · refine b_Hall_join_24 ?_
                    refine xite_mono (fun h => ?_) (fun h => ?_) h
                    · refine b_Hall_join_26 ?_
                      exact b_Hall_join_27 h
                    · refine b_Hall_join_25 ?_
                      exact b_Hall_join_27 h
                  · refine xite_mono (fun h => ?_) (fun h => ?_) h
                    · refine b_Hall_join_28 ?_
                      refine xite_mono (fun h => ?_) (fun h => ?_) h
                      · refine b_Hall_join_30 ?_
                        exact b_Hall_join_31 h
                      · refine b_Hall_join_29 ?_
                        exact b_Hall_join_31 h
                    · refine xite_mono (fun h => ?_) (fun h => ?_) h
                      · exact b_Hall_join_32 h
                      · exact b_Hall_join_33 h
set_option maxRecDepth 100000 in
theorem t_Hall_join_34 {sa : Nat → Nat} {d : Nat} {Q : xQ} {l3 : Int64} {M : xM} {u : xU} (h : if (lg_cmp l3 (1000000 : Int64)) ≤ 0 then (if 0 ≤ (lg_cmp l3 (-1000000 : Int64)) then (Q (some (.int l3.toInt32)) M) else (Q (some (.int (-1000000 : Int32))) M)) else (Q (some (.int (nI 1000000))) M)) : K_Hall_join sa d Q 34 [none, none, none, some (.long l3), none] [] M u := by
  refine b_Hall_join_34 ?_
  refine xite_mono (fun h => ?_) (fun h => ?_) h
  · refine b_Hall_join_36 ?_
    refine xite_mono (fun h => ?_) (fun h => ?_) h
    · refine b_Hall_join_38 ?_
      exact b_Hall_join_39 h
    · refine b_Hall_join_37 ?_
      exact b_Hall_join_39 h
  · exact b_Hall_join_35 h
theorem t_Hall_join {sa : Nat → Nat} {d : Nat} {Q : xQ} {l0 : Int32} {l1 : Int32} {l2 : Int32} {M : xM} (h : if l0 = (nI 35) then (if l1 = l2 then K_Hall_join sa d Q 34 [none, none, none, some (.long (0 : Int64)), none] [] M (0, 0) else K_Hall_join sa d Q 34 [none, none, none, some (.long (1 : Int64)), none] [] M (0, 0)) else (if l0 = (nI 42) then K_Hall_join sa d Q 34 [none, none, none, some (.long (l1.toInt64 * l2.toInt64)), none] [] M (0, 0) else (if l0 = (nI 43) then K_Hall_join sa d Q 34 [none, none, none, some (.long (l1.toInt64 + l2.toInt64)), none] [] M (0, 0) else (if l0 = (nI 45) then K_Hall_join sa d Q 34 [none, none, none, some (.long (l1.toInt64 - l2.toInt64)), none] [] M (0, 0) else (if l0 = (nI 47) then (if ¬ l2 = 0 then (¬ l2 = 0 ∧ K_Hall_join sa d Q 34 [none, none, none, some (.long ((l1 / l2).toInt64)), none] [] M (0, 0)) else K_Hall_join sa d Q 34 [none, none, none, some (.long (0 : Int64)), none] [] M (0, 0)) else (if l0 = (nI 60) then (if l2 ≤ l1 then K_Hall_join sa d Q 34 [none, none, none, some (.long (0 : Int64)), none] [] M (0, 0) else K_Hall_join sa d Q 34 [none, none, none, some (.long (1 : Int64)), none] [] M (0, 0)) else (if l0 = (nI 61) then (if ¬ l1 = l2 then K_Hall_join sa d Q 34 [none, none, none, some (.long (0 : Int64)), none] [] M (0, 0) else K_Hall_join sa d Q 34 [none, none, none, some (.long (1 : Int64)), none] [] M (0, 0)) else (if l0 = (nI 62) then (if l1 ≤ l2 then K_Hall_join sa d Q 34 [none, none, none, some (.long (0 : Int64)), none] [] M (0, 0) else K_Hall_join sa d Q 34 [none, none, none, some (.long (1 : Int64)), none] [] M (0, 0)) else (if l0 = (nI 301) then (if l2 < l1 then K_Hall_join sa d Q 34 [none, none, none, some (.long (0 : Int64)), none] [] M (0, 0) else K_Hall_join sa d Q 34 [none, none, none, some (.long (1 : Int64)), none] [] M (0, 0)) else (if l0 = (nI 302) then (if l1 < l2 then K_Hall_join sa d Q 34 [none, none, none, some (.long (0 : Int64)), none] [] M (0, 0) else K_Hall_join sa d Q 34 [none, none, none, some (.long (1 : Int64)), none] [] M (0, 0)) else (if l0 = (nI 407) then K_Hall_join sa d Q 34 [none, none, none, some (.long ((l1 ||| l2).toInt64)), none] [] M (0, 0) else K_Hall_join sa d Q 34 [none, none, none, some (.long ((l1 &&& l2).toInt64)), none] [] M (0, 0)))))))))))) : xEv xP (xprim sa) (d + 1) m_Hall_join [.int l0, .int l1, .int l2] M Q := e_Hall_join (t_Hall_join_0 h)
set_option maxRecDepth 100000 in
theorem t_Heard_init_0 {sa : Nat → Nat} {d : Nat} {Q : xQ} {l0 : Nat} {M : xM} {u : xU} (h : ¬ (nI 8) < 0 ∧ (nI 8).toNatClampNeg ≤ 1000000 ∧ xalloc M u (nI 8).toNatClampNeg (.inl (0, (nI 8).toNatClampNeg, .inl (fun _ => 0))) fun q1 M1 u1 => (xpf M1 l0 3 0 (.ref q1) fun M2 => (¬ (nI 8) < 0 ∧ (nI 8).toNatClampNeg ≤ 1000000 ∧ xalloc M2 u1 (nI 8).toNatClampNeg (.inl (0, (nI 8).toNatClampNeg, .inl (fun _ => 0))) fun q2 M3 u2 => (xpf M3 l0 3 1 (.ref q2) fun M4 => (Q none M4))))) : K_Heard_init sa d Q 0 [some (.ref l0)] [] M u := b_Heard_init_0 h
theorem t_Heard_init {sa : Nat → Nat} {d : Nat} {Q : xQ} {l0 : Nat} {M : xM} (h : ¬ (nI 8) < 0 ∧ (nI 8).toNatClampNeg ≤ 1000000 ∧ xalloc M (2, 16) (nI 8).toNatClampNeg (.inl (0, (nI 8).toNatClampNeg, .inl (fun _ => 0))) fun q1 M1 u1 => (xpf M1 l0 3 0 (.ref q1) fun M2 => (¬ (nI 8) < 0 ∧ (nI 8).toNatClampNeg ≤ 1000000 ∧ xalloc M2 u1 (nI 8).toNatClampNeg (.inl (0, (nI 8).toNatClampNeg, .inl (fun _ => 0))) fun q2 M3 u2 => (xpf M3 l0 3 1 (.ref q2) fun M4 => (Q none M4))))) : xEv xP (xprim sa) (d + 1) m_Heard_init [.ref l0] M Q := e_Heard_init (t_Heard_init_0 h)
set_option maxRecDepth 100000 in
theorem t_Heard_add_0 {sa : Nat → Nat} {d : Nat} {Q : xQ} {l0 : Nat} {l1 : Int32} {l2 : Int32} {l3 : Int32} {M : xM} {u : xU} (h : xgfI M l0 3 2 fun v1 => (if l1 = v1 then (xgfI M l0 3 3 fun v2 => (if v2 < (nI 8) then (xpf M l0 3 2 (.int l1) fun M1 => (xgfR M1 l0 3 0 fun v3 => (xgfI M1 l0 3 3 fun v4 => (xsI M1 v3 v4 l2 fun M2 => (xgfR M2 l0 3 1 fun v5 => (xgfI M2 l0 3 3 fun v6 => (xsI M2 v5 v6 l3 fun M3 => (xgfI M3 l0 3 3 fun v7 => (xpf M3 l0 3 3 (.int (v7 + (nI 1))) fun M4 => (((nI 1) = 0 ∨ (nI 1) = 1) ∧ Q (some (.int (nI 1))) M4)))))))))) else (((nI 0) = 0 ∨ (nI 0) = 1) ∧ Q (some (.int (nI 0))) M))) else (xpf M l0 3 3 (.int (nI 0)) fun M5 => (xgfI M5 l0 3 3 fun v8 => (if v8 < (nI 8) then (xpf M5 l0 3 2 (.int l1) fun M6 => (xgfR M6 l0 3 0 fun v9 => (xgfI M6 l0 3 3 fun v10 => (xsI M6 v9 v10 l2 fun M7 => (xgfR M7 l0 3 1 fun v11 => (xgfI M7 l0 3 3 fun v12 => (xsI M7 v11 v12 l3 fun M8 => (xgfI M8 l0 3 3 fun v13 => (xpf M8 l0 3 3 (.int (v13 + (nI 1))) fun M9 => (((nI 1) = 0 ∨ (nI 1) = 1) ∧ Q (some (.int (nI 1))) M9)))))))))) else (((nI 0) = 0 ∨ (nI 0) = 1) ∧ Q (some (.int (nI 0))) M5)))))) : K_Heard_add sa d Q 0 [some (.ref l0), some (.int l1), some (.int l2), some (.int l3)] [] M u := by
  refine b_Heard_add_0 ?_
  refine xgfI_mono (fun _ h => ?_) h
  refine xite_mono (fun h => ?_) (fun h => ?_) h
  · refine b_Heard_add_2 ?_
    refine xgfI_mono (fun _ h => ?_) h
    refine xite_mono (fun h => ?_) (fun h => ?_) h
    · exact b_Heard_add_4 h
    · exact b_Heard_add_3 h
  · refine b_Heard_add_1 ?_
    refine xpf_mono (fun _ h => ?_) h
    refine b_Heard_add_2 ?_
    refine xgfI_mono (fun _ h => ?_) h
    refine xite_mono (fun h => ?_) (fun h => ?_) h
    · exact b_Heard_add_4 h
    · exact b_Heard_add_3 h
theorem t_Heard_add {sa : Nat → Nat} {d : Nat} {Q : xQ} {l0 : Nat} {l1 : Int32} {l2 : Int32} {l3 : Int32} {M : xM} (h : xgfI M l0 3 2 fun v1 => (if l1 = v1 then (xgfI M l0 3 3 fun v2 => (if v2 < (nI 8) then (xpf M l0 3 2 (.int l1) fun M1 => (xgfR M1 l0 3 0 fun v3 => (xgfI M1 l0 3 3 fun v4 => (xsI M1 v3 v4 l2 fun M2 => (xgfR M2 l0 3 1 fun v5 => (xgfI M2 l0 3 3 fun v6 => (xsI M2 v5 v6 l3 fun M3 => (xgfI M3 l0 3 3 fun v7 => (xpf M3 l0 3 3 (.int (v7 + (nI 1))) fun M4 => (((nI 1) = 0 ∨ (nI 1) = 1) ∧ Q (some (.int (nI 1))) M4)))))))))) else (((nI 0) = 0 ∨ (nI 0) = 1) ∧ Q (some (.int (nI 0))) M))) else (xpf M l0 3 3 (.int (nI 0)) fun M5 => (xgfI M5 l0 3 3 fun v8 => (if v8 < (nI 8) then (xpf M5 l0 3 2 (.int l1) fun M6 => (xgfR M6 l0 3 0 fun v9 => (xgfI M6 l0 3 3 fun v10 => (xsI M6 v9 v10 l2 fun M7 => (xgfR M7 l0 3 1 fun v11 => (xgfI M7 l0 3 3 fun v12 => (xsI M7 v11 v12 l3 fun M8 => (xgfI M8 l0 3 3 fun v13 => (xpf M8 l0 3 3 (.int (v13 + (nI 1))) fun M9 => (((nI 1) = 0 ∨ (nI 1) = 1) ∧ Q (some (.int (nI 1))) M9)))))))))) else (((nI 0) = 0 ∨ (nI 0) = 1) ∧ Q (some (.int (nI 0))) M5)))))) : xEv xP (xprim sa) (d + 1) m_Heard_add [.ref l0, .int l1, .int l2, .int l3] M Q := e_Heard_add (t_Heard_add_0 h)
set_option maxRecDepth 100000 in
theorem t_Heard_isLike_0 {sa : Nat → Nat} {d : Nat} {Q : xQ} {l0 : Nat} {l1 : Nat} {M : xM} {u : xU} (h : xgfI M l1 4 4 fun v1 => (if (v1 - (nI 1)) < 0 then (((nI 1) = 0 ∨ (nI 1) = 1) ∧ Q (some (.int (nI 1))) M) else (xgfI M l0 3 3 fun v2 => (if (v1 - (nI 1)) < v2 then (xgfR M l1 4 1 fun v3 => (xgfI M l0 3 2 fun v4 => (xaI M v3 v4 fun v5 => (xgfR M l0 3 0 fun v6 => (xaI M v6 (v1 - (nI 1)) fun v7 => (if ¬ v5 = v7 then (((nI 0) = 0 ∨ (nI 0) = 1) ∧ Q (some (.int (nI 0))) M) else (xgfR M l1 4 2 fun v8 => (xgfI M l0 3 2 fun v9 => (xaI M v8 v9 fun v10 => (xgfR M l0 3 1 fun v11 => (xaI M v11 (v1 - (nI 1)) fun v12 => (if ¬ v10 = v12 then (((nI 0) = 0 ∨ (nI 0) = 1) ∧ Q (some (.int (nI 0))) M) else (((nI 1) = 0 ∨ (nI 1) = 1) ∧ Q (some (.int (nI 1))) M))))))))))))) else (((nI 1) = 0 ∨ (nI 1) = 1) ∧ Q (some (.int (nI 1))) M))))) : K_Heard_isLike sa d Q 0 [some (.ref l0), some (.ref l1), none] [] M u := by
  refine b_Heard_isLike_0 ?_
  refine xgfI_mono (fun _ h => ?_) h
  refine xite_mono (fun h => ?_) (fun h => ?_) h
  · exact b_Heard_isLike_2 h
  · refine b_Heard_isLike_1 ?_
    refine xgfI_mono (fun _ h => ?_) h
    refine xite_mono (fun h => ?_) (fun h => ?_) h
    · refine b_Heard_isLike_3 ?_
      refine xgfR_mono (fun _ h => ?_) h
      refine xgfI_mono (fun _ h => ?_) h
      refine xaI_mono (fun _ h => ?_) h
      refine xgfR_mono (fun _ h => ?_) h
      refine xaI_mono (fun _ h => ?_) h
      refine xite_mono (fun h => ?_) (fun h => ?_) h
      · refine b_Heard_isLike_6 ?_
        exact b_Heard_isLike_7 h
      · refine b_Heard_isLike_4 ?_
        refine xgfR_mono (fun _ h => ?_) h
        refine xgfI_mono (fun _ h => ?_) h
        refine xaI_mono (fun _ h => ?_) h
        refine xgfR_mono (fun _ h => ?_) h
        refine xaI_mono (fun _ h => ?_) h
        refine xite_mono (fun h => ?_) (fun h => ?_) h
        · refine b_Heard_isLike_6 ?_
          exact b_Heard_isLike_7 h
        · refine b_Heard_isLike_5 ?_
          exact b_Heard_isLike_7 h
    · exact b_Heard_isLike_2 h
theorem t_Heard_isLike {sa : Nat → Nat} {d : Nat} {Q : xQ} {l0 : Nat} {l1 : Nat} {M : xM} (h : xgfI M l1 4 4 fun v1 => (if (v1 - (nI 1)) < 0 then (((nI 1) = 0 ∨ (nI 1) = 1) ∧ Q (some (.int (nI 1))) M) else (xgfI M l0 3 3 fun v2 => (if (v1 - (nI 1)) < v2 then (xgfR M l1 4 1 fun v3 => (xgfI M l0 3 2 fun v4 => (xaI M v3 v4 fun v5 => (xgfR M l0 3 0 fun v6 => (xaI M v6 (v1 - (nI 1)) fun v7 => (if ¬ v5 = v7 then (((nI 0) = 0 ∨ (nI 0) = 1) ∧ Q (some (.int (nI 0))) M) else (xgfR M l1 4 2 fun v8 => (xgfI M l0 3 2 fun v9 => (xaI M v8 v9 fun v10 => (xgfR M l0 3 1 fun v11 => (xaI M v11 (v1 - (nI 1)) fun v12 => (if ¬ v10 = v12 then (((nI 0) = 0 ∨ (nI 0) = 1) ∧ Q (some (.int (nI 0))) M) else (((nI 1) = 0 ∨ (nI 1) = 1) ∧ Q (some (.int (nI 1))) M))))))))))))) else (((nI 1) = 0 ∨ (nI 1) = 1) ∧ Q (some (.int (nI 1))) M))))) : xEv xP (xprim sa) (d + 1) m_Heard_isLike [.ref l0, .ref l1] M Q := e_Heard_isLike (t_Heard_isLike_0 h)
set_option maxRecDepth 100000 in
theorem t_Heard_copyFrom_0 {sa : Nat → Nat} {d : Nat} {Q : xQ} {l0 : Nat} {l1 : Nat} {M : xM} {u : xU} (h : xgfR M l1 3 0 fun v1 => (xgfR M l0 3 0 fun v2 => (xcopy M v1 (nI 0) v2 (nI 0) (nI 8) fun M1 => (xgfR M1 l1 3 1 fun v3 => (xgfR M1 l0 3 1 fun v4 => (xcopy M1 v3 (nI 0) v4 (nI 0) (nI 8) fun M2 => (xgfI M2 l1 3 2 fun v5 => (xpf M2 l0 3 2 (.int v5) fun M3 => (xgfI M3 l1 3 3 fun v6 => (xpf M3 l0 3 3 (.int v6) fun M4 => (Q none M4))))))))))) : K_Heard_copyFrom sa d Q 0 [some (.ref l0), some (.ref l1)] [] M u := b_Heard_copyFrom_0 h
theorem t_Heard_copyFrom {sa : Nat → Nat} {d : Nat} {Q : xQ} {l0 : Nat} {l1 : Nat} {M : xM} (h : xgfR M l1 3 0 fun v1 => (xgfR M l0 3 0 fun v2 => (xcopy M v1 (nI 0) v2 (nI 0) (nI 8) fun M1 => (xgfR M1 l1 3 1 fun v3 => (xgfR M1 l0 3 1 fun v4 => (xcopy M1 v3 (nI 0) v4 (nI 0) (nI 8) fun M2 => (xgfI M2 l1 3 2 fun v5 => (xpf M2 l0 3 2 (.int v5) fun M3 => (xgfI M3 l1 3 3 fun v6 => (xpf M3 l0 3 3 (.int v6) fun M4 => (Q none M4))))))))))) : xEv xP (xprim sa) (d + 1) m_Heard_copyFrom [.ref l0, .ref l1] M Q := e_Heard_copyFrom (t_Heard_copyFrom_0 h)
set_option maxRecDepth 100000 in
theorem t_Moment_init_0 {sa : Nat → Nat} {d : Nat} {Q : xQ} {l0 : Nat} {l1 : Int32} {M : xM} {u : xU} (h : ¬ l1 < 0 ∧ l1.toNatClampNeg ≤ 1000000 ∧ xalloc M u l1.toNatClampNeg (.inl (0, l1.toNatClampNeg, .inl (fun _ => 0))) fun q1 M1 u1 => (xpf M1 l0 4 0 (.ref q1) fun M2 => (¬ l1 < 0 ∧ l1.toNatClampNeg ≤ 1000000 ∧ xalloc M2 u1 l1.toNatClampNeg (.inl (0, l1.toNatClampNeg, .inl (fun _ => 0))) fun q2 M3 u2 => (xpf M3 l0 4 1 (.ref q2) fun M4 => (¬ l1 < 0 ∧ l1.toNatClampNeg ≤ 1000000 ∧ xalloc M4 u2 l1.toNatClampNeg (.inl (0, l1.toNatClampNeg, .inl (fun _ => 0))) fun q3 M5 u3 => (xpf M5 l0 4 2 (.ref q3) fun M6 => (K_Moment_init sa d Q 1 [some (.ref l0), some (.int l1), some (.int (nI 0))] [] M6 u3))))))) : K_Moment_init sa d Q 0 [some (.ref l0), some (.int l1), none] [] M u := b_Moment_init_0 h
set_option maxRecDepth 100000 in
theorem t_Moment_init_1 {sa : Nat → Nat} {d : Nat} {Q : xQ} {l0 : Nat} {l1 : Int32} {l2 : Int32} {M : xM} {u : xU} (h : if l1 ≤ l2 then (Q none M) else (xgfR M l0 4 1 fun v1 => (xsI M v1 l2 (-1 : Int32) fun M1 => (xgfR M1 l0 4 2 fun v2 => (xsI M1 v2 l2 (-1 : Int32) fun M2 => (K_Moment_init sa d Q 1 [some (.ref l0), some (.int l1), some (.int (l2 + (nI 1)))] [] M2 u)))))) : K_Moment_init sa d Q 1 [some (.ref l0), some (.int l1), some (.int l2)] [] M u := by
  refine b_Moment_init_1 ?_
  refine xite_mono (fun h => ?_) (fun h => ?_) h
  · exact b_Moment_init_3 h
  · exact b_Moment_init_2 h
theorem t_Moment_init {sa : Nat → Nat} {d : Nat} {Q : xQ} {l0 : Nat} {l1 : Int32} {M : xM} (h : ¬ l1 < 0 ∧ l1.toNatClampNeg ≤ 1000000 ∧ xalloc M (3, 27) l1.toNatClampNeg (.inl (0, l1.toNatClampNeg, .inl (fun _ => 0))) fun q1 M1 u1 => (xpf M1 l0 4 0 (.ref q1) fun M2 => (¬ l1 < 0 ∧ l1.toNatClampNeg ≤ 1000000 ∧ xalloc M2 u1 l1.toNatClampNeg (.inl (0, l1.toNatClampNeg, .inl (fun _ => 0))) fun q2 M3 u2 => (xpf M3 l0 4 1 (.ref q2) fun M4 => (¬ l1 < 0 ∧ l1.toNatClampNeg ≤ 1000000 ∧ xalloc M4 u2 l1.toNatClampNeg (.inl (0, l1.toNatClampNeg, .inl (fun _ => 0))) fun q3 M5 u3 => (xpf M5 l0 4 2 (.ref q3) fun M6 => (K_Moment_init sa d Q 1 [some (.ref l0), some (.int l1), some (.int (nI 0))] [] M6 u3))))))) : xEv xP (xprim sa) (d + 1) m_Moment_init [.ref l0, .int l1] M Q := e_Moment_init (t_Moment_init_0 h)
set_option maxRecDepth 100000 in
theorem t_Moment_begin_0 {sa : Nat → Nat} {d : Nat} {Q : xQ} {l0 : Nat} {l1 : Nat} {M : xM} {u : xU} (h : K_Moment_begin sa d Q 1 [some (.ref l0), some (.ref l1), some (.int (nI 0))] [] M u) : K_Moment_begin sa d Q 0 [some (.ref l0), some (.ref l1), none] [] M u := b_Moment_begin_0 h
set_option maxRecDepth 100000 in
theorem t_Moment_begin_1 {sa : Nat → Nat} {d : Nat} {Q : xQ} {l0 : Nat} {l1 : Nat} {l2 : Int32} {M : xM} {u : xU} (h : xgfR M l0 4 0 fun v1 => (xlen M v1 fun v2 => (if v2 ≤ l2 then (xpf M l0 4 3 (.int (nI 0)) fun M1 => (xpf M1 l0 4 4 (.int (nI 0)) fun M2 => (Q none M2))) else (xgfR M l0 4 0 fun v3 => (xgfR M l1 0 1 fun v4 => (xaI M v4 l2 fun v5 => (xsI M v3 l2 v5 fun M3 => (xgfR M3 l0 4 1 fun v6 => (xsI M3 v6 l2 (-1 : Int32) fun M4 => (xgfR M4 l0 4 2 fun v7 => (xsI M4 v7 l2 (-1 : Int32) fun M5 => (K_Moment_begin sa d Q 1 [some (.ref l0), some (.ref l1), some (.int (l2 + (nI 1)))] [] M5 u)))))))))))) : K_Moment_begin sa d Q 1 [some (.ref l0), some (.ref l1), some (.int l2)] [] M u := by
  refine b_Moment_begin_1 ?_
  refine xgfR_mono (fun _ h => ?_) h
  refine xlen_mono (fun _ h => ?_) h
  refine xite_mono (fun h => ?_) (fun h => ?_) h
  · exact b_Moment_begin_3 h
  · exact b_Moment_begin_2 h
theorem t_Moment_begin {sa : Nat → Nat} {d : Nat} {Q : xQ} {l0 : Nat} {l1 : Nat} {M : xM} (h : K_Moment_begin sa d Q 1 [some (.ref l0), some (.ref l1), some (.int (nI 0))] [] M (0, 0)) : xEv xP (xprim sa) (d + 1) m_Moment_begin [.ref l0, .ref l1] M Q := e_Moment_begin (t_Moment_begin_0 h)
set_option maxRecDepth 100000 in
theorem t_Moment_copyFrom_0 {sa : Nat → Nat} {d : Nat} {Q : xQ} {l0 : Nat} {l1 : Nat} {M : xM} {u : xU} (h : xgfR M l1 4 0 fun v1 => (xgfR M l0 4 0 fun v2 => (xgfR M l0 4 0 fun v3 => (xlen M v3 fun v4 => (xcopy M v1 (nI 0) v2 (nI 0) v4 fun M1 => (xgfR M1 l1 4 1 fun v5 => (xgfR M1 l0 4 1 fun v6 => (xgfR M1 l0 4 1 fun v7 => (xlen M1 v7 fun v8 => (xcopy M1 v5 (nI 0) v6 (nI 0) v8 fun M2 => (xgfR M2 l1 4 2 fun v9 => (xgfR M2 l0 4 2 fun v10 => (xgfR M2 l0 4 2 fun v11 => (xlen M2 v11 fun v12 => (xcopy M2 v9 (nI 0) v10 (nI 0) v12 fun M3 => (xgfI M3 l1 4 3 fun v13 => (xpf M3 l0 4 3 (.int v13) fun M4 => (xgfI M4 l1 4 4 fun v14 => (xpf M4 l0 4 4 (.int v14) fun M5 => (Q none M5)))))))))))))))))))) : K_Moment_copyFrom sa d Q 0 [some (.ref l0), some (.ref l1)] [] M u := b_Moment_copyFrom_0 h
theorem t_Moment_copyFrom {sa : Nat → Nat} {d : Nat} {Q : xQ} {l0 : Nat} {l1 : Nat} {M : xM} (h : xgfR M l1 4 0 fun v1 => (xgfR M l0 4 0 fun v2 => (xgfR M l0 4 0 fun v3 => (xlen M v3 fun v4 => (xcopy M v1 (nI 0) v2 (nI 0) v4 fun M1 => (xgfR M1 l1 4 1 fun v5 => (xgfR M1 l0 4 1 fun v6 => (xgfR M1 l0 4 1 fun v7 => (xlen M1 v7 fun v8 => (xcopy M1 v5 (nI 0) v6 (nI 0) v8 fun M2 => (xgfR M2 l1 4 2 fun v9 => (xgfR M2 l0 4 2 fun v10 => (xgfR M2 l0 4 2 fun v11 => (xlen M2 v11 fun v12 => (xcopy M2 v9 (nI 0) v10 (nI 0) v12 fun M3 => (xgfI M3 l1 4 3 fun v13 => (xpf M3 l0 4 3 (.int v13) fun M4 => (xgfI M4 l1 4 4 fun v14 => (xpf M4 l0 4 4 (.int v14) fun M5 => (Q none M5)))))))))))))))))))) : xEv xP (xprim sa) (d + 1) m_Moment_copyFrom [.ref l0, .ref l1] M Q := e_Moment_copyFrom (t_Moment_copyFrom_0 h)
set_option maxRecDepth 100000 in
theorem t_Moment_countNotes_0 {sa : Nat → Nat} {d : Nat} {Q : xQ} {l0 : Nat} {M : xM} {u : xU} (h : K_Moment_countNotes sa d Q 1 [some (.ref l0), some (.int (nI 0)), some (.int (nI 0))] [] M u) : K_Moment_countNotes sa d Q 0 [some (.ref l0), none, none] [] M u := b_Moment_countNotes_0 h
set_option maxRecDepth 100000 in
theorem t_Moment_countNotes_1 {sa : Nat → Nat} {d : Nat} {Q : xQ} {l0 : Nat} {l1 : Int32} {l2 : Int32} {M : xM} {u : xU} (h : xgfR M l0 4 0 fun v1 => (xlen M v1 fun v2 => (if v2 ≤ l2 then (Q (some (.int l1)) M) else (xgfR M l0 4 1 fun v3 => (xaI M v3 l2 fun v4 => (if ¬ v4 = (-1 : Int32) then (xgfR M l0 4 2 fun v5 => (xaI M v5 l2 fun v6 => (if ¬ v6 = (-1 : Int32) then K_Moment_countNotes sa d Q 1 [some (.ref l0), some (.int ((l1 + (nI 1)) + (nI 1))), some (.int (l2 + (nI 1)))] [] M u else K_Moment_countNotes sa d Q 1 [some (.ref l0), some (.int ((l1 + (nI 1)) + (nI 0))), some (.int (l2 + (nI 1)))] [] M u))) else (xgfR M l0 4 2 fun v7 => (xaI M v7 l2 fun v8 => (if ¬ v8 = (-1 : Int32) then K_Moment_countNotes sa d Q 1 [some (.ref l0), some (.int ((l1 + (nI 0)) + (nI 1))), some (.int (l2 + (nI 1)))] [] M u else K_Moment_countNotes sa d Q 1 [some (.ref l0), some (.int ((l1 + (nI 0)) + (nI 0))), some (.int (l2 + (nI 1)))] [] M u))))))))) : K_Moment_countNotes sa d Q 1 [some (.ref l0), some (.int l1), some (.int l2)] [] M u := by
  refine b_Moment_countNotes_1 ?_
  refine xgfR_mono (fun _ h => ?_) h
  refine xlen_mono (fun _ h => ?_) h
  refine xite_mono (fun h => ?_) (fun h => ?_) h
  · exact b_Moment_countNotes_9 h
  · refine b_Moment_countNotes_2 ?_
    refine xgfR_mono (fun _ h => ?_) h
    refine xaI_mono (fun _ h => ?_) h
    refine xite_mono (fun h => ?_) (fun h => ?_) h
    · refine b_Moment_countNotes_4 ?_
      refine b_Moment_countNotes_5 ?_
      refine xgfR_mono (fun _ h => ?_) h
      refine xaI_mono (fun _ h => ?_) h
      refine xite_mono (fun h => ?_) (fun h => ?_) h
      · refine b_Moment_countNotes_7 ?_
        exact b_Moment_countNotes_8 h
      · refine b_Moment_countNotes_6 ?_
        exact b_Moment_countNotes_8 h
    · refine b_Moment_countNotes_3 ?_
      refine b_Moment_countNotes_5 ?_
      refine xgfR_mono (fun _ h => ?_) h
      refine xaI_mono (fun _ h => ?_) h
      refine xite_mono (fun h => ?_) (fun h => ?_) h
      · refine b_Moment_countNotes_7 ?_
        exact b_Moment_countNotes_8 h
      · refine b_Moment_countNotes_6 ?_
        exact b_Moment_countNotes_8 h
theorem t_Moment_countNotes {sa : Nat → Nat} {d : Nat} {Q : xQ} {l0 : Nat} {M : xM} (h : K_Moment_countNotes sa d Q 1 [some (.ref l0), some (.int (nI 0)), some (.int (nI 0))] [] M (0, 0)) : xEv xP (xprim sa) (d + 1) m_Moment_countNotes [.ref l0] M Q := e_Moment_countNotes (t_Moment_countNotes_0 h)
set_option maxRecDepth 100000 in
theorem t_Past_init_0 {sa : Nat → Nat} {d : Nat} {Q : xQ} {l0 : Nat} {l1 : Int32} {M : xM} {u : xU} (h : ¬ (nI 40) < 0 ∧ (nI 40).toNatClampNeg ≤ 1000000 ∧ xalloc M u (nI 40).toNatClampNeg (.inl (5, (nI 40).toNatClampNeg, .inr (.inr (.inr (.inr (fun _ => none)))))) fun q1 M1 u1 => (xpf M1 l0 5 0 (.ref q1) fun M2 => (K_Past_init sa d Q 1 [some (.ref l0), some (.int l1), some (.int (nI 0))] [] M2 u1))) : K_Past_init sa d Q 0 [some (.ref l0), some (.int l1), none] [] M u := b_Past_init_0 h
set_option maxRecDepth 100000 in
theorem t_Past_init_1 {sa : Nat → Nat} {d : Nat} {Q : xQ} {l0 : Nat} {l1 : Int32} {l2 : Int32} {M : xM} {u : xU} (h : if (nI 40) ≤ l2 then (Q none M) else (xgfR M l0 5 0 fun v1 => (xalloc M u 5 (.inr (4, [.null, .null, .null, .int 0, .int 0])) fun q1 M1 u1 => (3 ≤ u1.1 ∧ 27 ≤ u1.2 ∧ xEv xP (xprim sa) d m_Moment_init [.ref q1, .int l1] M1 (xrV fun M2 => xsR M2 v1 l2 q1 fun M3 => (K_Past_init sa d Q 1 [some (.ref l0), some (.int l1), some (.int (l2 + (nI 1)))] [] M3 (u1.1 - 3, u1.2 - 27))))))) : K_Past_init sa d Q 1 [some (.ref l0), some (.int l1), some (.int l2)] [] M u := by
  refine b_Past_init_1 ?_
  refine xite_mono (fun h => ?_) (fun h => ?_) h
  · exact b_Past_init_3 h
  · exact b_Past_init_2 h
theorem t_Past_init {sa : Nat → Nat} {d : Nat} {Q : xQ} {l0 : Nat} {l1 : Int32} {M : xM} (h : ¬ (nI 40) < 0 ∧ (nI 40).toNatClampNeg ≤ 1000000 ∧ xalloc M (161, 1320) (nI 40).toNatClampNeg (.inl (5, (nI 40).toNatClampNeg, .inr (.inr (.inr (.inr (fun _ => none)))))) fun q1 M1 u1 => (xpf M1 l0 5 0 (.ref q1) fun M2 => (K_Past_init sa d Q 1 [some (.ref l0), some (.int l1), some (.int (nI 0))] [] M2 u1))) : xEv xP (xprim sa) (d + 1) m_Past_init [.ref l0, .int l1] M Q := e_Past_init (t_Past_init_0 h)
set_option maxRecDepth 100000 in
theorem t_Past_push_0 {sa : Nat → Nat} {d : Nat} {Q : xQ} {l0 : Nat} {l1 : Nat} {M : xM} {u : xU} (h : xgfR M l0 5 0 fun v1 => (xgfI M l0 5 1 fun v2 => (xaR M v1 v2 fun v3 => (xobj M v3 4 ∧ xEv xP (xprim sa) d m_Moment_copyFrom [.ref v3, .ref l1] M (xrV fun M1 => xgfI M1 l0 5 1 fun v4 => (if (nI 40) ≤ (v4 + (nI 1)) then (xpf M1 l0 5 1 (.int (nI 0)) fun M2 => (xgfI M2 l0 5 2 fun v5 => (if (nI 40) ≤ v5 then (xpf M2 l0 5 2 (.int (nI 40)) fun M3 => (Q none M3)) else (xgfI M2 l0 5 2 fun v6 => (xpf M2 l0 5 2 (.int (v6 + (nI 1))) fun M4 => (Q none M4)))))) else (xgfI M1 l0 5 1 fun v7 => (xpf M1 l0 5 1 (.int (v7 + (nI 1))) fun M5 => (xgfI M5 l0 5 2 fun v8 => (if (nI 40) ≤ v8 then (xpf M5 l0 5 2 (.int (nI 40)) fun M6 => (Q none M6)) else (xgfI M5 l0 5 2 fun v9 => (xpf M5 l0 5 2 (.int (v9 + (nI 1))) fun M7 => (Q none M7))))))))))))) : K_Past_push sa d Q 0 [some (.ref l0), some (.ref l1)] [] M u := by
  refine b_Past_push_0 ?_
  refine xgfR_mono (fun _ h => ?_) h
  refine xgfI_mono (fun _ h => ?_) h
  refine xaR_mono (fun _ h => ?_) h
  obtain ⟨hz, h⟩ := h
  refine ⟨hz, ?_⟩
  refine xEv_post' _ _ _ _ _ (xrV_mono (fun _ h => ?_)) h
  refine xgfI_mono (fun _ h => ?_) h
  refine xite_mono (fun h => ?_) (fun h => ?_) h
  · refine b_Past_push_2 ?_
    refine b_Past_push_3 ?_
    refine xpf_mono (fun _ h => ?_) h
    refine xgfI_mono (fun _ h => ?_) h
    refine xite_mono (fun h => ?_) (fun h => ?_) h
    · refine b_Past_push_5 ?_
      exact b_Past_push_6 h
    · refine b_Past_push_4 ?_
      refine xgfI_mono (fun _ h => ?_) h
      exact b_Past_push_6 h
  · refine b_Past_push_1 ?_
    refine xgfI_mono (fun _ h => ?_) h
    refine b_Past_push_3 ?_
    refine xpf_mono (fun _ h => ?_) h
    refine xgfI_mono (fun _ h => ?_) h
    refine xite_mono (fun h => ?_) (fun h => ?_) h
    · refine b_Past_push_5 ?_
      exact b_Past_push_6 h
    · refine b_Past_push_4 ?_
      refine xgfI_mono (fun _ h => ?_) h
      exact b_Past_push_6 h
theorem t_Past_push {sa : Nat → Nat} {d : Nat} {Q : xQ} {l0 : Nat} {l1 : Nat} {M : xM} (h : xgfR M l0 5 0 fun v1 => (xgfI M l0 5 1 fun v2 => (xaR M v1 v2 fun v3 => (xobj M v3 4 ∧ xEv xP (xprim sa) d m_Moment_copyFrom [.ref v3, .ref l1] M (xrV fun M1 => xgfI M1 l0 5 1 fun v4 => (if (nI 40) ≤ (v4 + (nI 1)) then (xpf M1 l0 5 1 (.int (nI 0)) fun M2 => (xgfI M2 l0 5 2 fun v5 => (if (nI 40) ≤ v5 then (xpf M2 l0 5 2 (.int (nI 40)) fun M3 => (Q none M3)) else (xgfI M2 l0 5 2 fun v6 => (xpf M2 l0 5 2 (.int (v6 + (nI 1))) fun M4 => (Q none M4)))))) else (xgfI M1 l0 5 1 fun v7 => (xpf M1 l0 5 1 (.int (v7 + (nI 1))) fun M5 => (xgfI M5 l0 5 2 fun v8 => (if (nI 40) ≤ v8 then (xpf M5 l0 5 2 (.int (nI 40)) fun M6 => (Q none M6)) else (xgfI M5 l0 5 2 fun v9 => (xpf M5 l0 5 2 (.int (v9 + (nI 1))) fun M7 => (Q none M7))))))))))))) : xEv xP (xprim sa) (d + 1) m_Past_push [.ref l0, .ref l1] M Q := e_Past_push (t_Past_push_0 h)
set_option maxRecDepth 100000 in
theorem t_Past_pop_0 {sa : Nat → Nat} {d : Nat} {Q : xQ} {l0 : Nat} {l1 : Nat} {M : xM} {u : xU} (h : xgfI M l0 5 2 fun v1 => (if ¬ v1 = 0 then (xgfI M l0 5 1 fun v2 => (if v2 ≤ 0 then (xpf M l0 5 1 (.int (nI 39)) fun M1 => (xgfI M1 l0 5 2 fun v3 => (xpf M1 l0 5 2 (.int (v3 - (nI 1))) fun M2 => (xgfR M2 l0 5 0 fun v4 => (xgfI M2 l0 5 1 fun v5 => (xaR M2 v4 v5 fun v6 => (xobj M2 l1 4 ∧ xEv xP (xprim sa) d m_Moment_copyFrom [.ref l1, .ref v6] M2 (xrV fun M3 => ((nI 1) = 0 ∨ (nI 1) = 1) ∧ Q (some (.int (nI 1))) M3)))))))) else (xgfI M l0 5 1 fun v7 => (xpf M l0 5 1 (.int (v7 - (nI 1))) fun M4 => (xgfI M4 l0 5 2 fun v8 => (xpf M4 l0 5 2 (.int (v8 - (nI 1))) fun M5 => (xgfR M5 l0 5 0 fun v9 => (xgfI M5 l0 5 1 fun v10 => (xaR M5 v9 v10 fun v11 => (xobj M5 l1 4 ∧ xEv xP (xprim sa) d m_Moment_copyFrom [.ref l1, .ref v11] M5 (xrV fun M6 => ((nI 1) = 0 ∨ (nI 1) = 1) ∧ Q (some (.int (nI 1))) M6))))))))))) else (((nI 0) = 0 ∨ (nI 0) = 1) ∧ Q (some (.int (nI 0))) M))) : K_Past_pop sa d Q 0 [some (.ref l0), some (.ref l1)] [] M u := by
  refine b_Past_pop_0 ?_
  refine xgfI_mono (fun _ h => ?_) h
  refine xite_mono (fun h => ?_) (fun h => ?_) h
  · refine b_Past_pop_2 ?_
    refine xgfI_mono (fun _ h => ?_) h
    refine xite_mono (fun h => ?_) (fun h => ?_) h
    · refine b_Past_pop_4 ?_
      exact b_Past_pop_5 h
    · refine b_Past_pop_3 ?_
      refine xgfI_mono (fun _ h => ?_) h
      exact b_Past_pop_5 h
  · exact b_Past_pop_1 h
theorem t_Past_pop {sa : Nat → Nat} {d : Nat} {Q : xQ} {l0 : Nat} {l1 : Nat} {M : xM} (h : xgfI M l0 5 2 fun v1 => (if ¬ v1 = 0 then (xgfI M l0 5 1 fun v2 => (if v2 ≤ 0 then (xpf M l0 5 1 (.int (nI 39)) fun M1 => (xgfI M1 l0 5 2 fun v3 => (xpf M1 l0 5 2 (.int (v3 - (nI 1))) fun M2 => (xgfR M2 l0 5 0 fun v4 => (xgfI M2 l0 5 1 fun v5 => (xaR M2 v4 v5 fun v6 => (xobj M2 l1 4 ∧ xEv xP (xprim sa) d m_Moment_copyFrom [.ref l1, .ref v6] M2 (xrV fun M3 => ((nI 1) = 0 ∨ (nI 1) = 1) ∧ Q (some (.int (nI 1))) M3)))))))) else (xgfI M l0 5 1 fun v7 => (xpf M l0 5 1 (.int (v7 - (nI 1))) fun M4 => (xgfI M4 l0 5 2 fun v8 => (xpf M4 l0 5 2 (.int (v8 - (nI 1))) fun M5 => (xgfR M5 l0 5 0 fun v9 => (xgfI M5 l0 5 1 fun v10 => (xaR M5 v9 v10 fun v11 => (xobj M5 l1 4 ∧ xEv xP (xprim sa) d m_Moment_copyFrom [.ref l1, .ref v11] M5 (xrV fun M6 => ((nI 1) = 0 ∨ (nI 1) = 1) ∧ Q (some (.int (nI 1))) M6))))))))))) else (((nI 0) = 0 ∨ (nI 0) = 1) ∧ Q (some (.int (nI 0))) M))) : xEv xP (xprim sa) (d + 1) m_Past_pop [.ref l0, .ref l1] M Q := e_Past_pop (t_Past_pop_0 h)
set_option maxRecDepth 100000 in
theorem t_Past_copyFrom_0 {sa : Nat → Nat} {d : Nat} {Q : xQ} {l0 : Nat} {l1 : Nat} {M : xM} {u : xU} (h : K_Past_copyFrom sa d Q 1 [some (.ref l0), some (.ref l1), some (.int (nI 0))] [] M u) : K_Past_copyFrom sa d Q 0 [some (.ref l0), some (.ref l1), none] [] M u := b_Past_copyFrom_0 h
set_option maxRecDepth 100000 in
theorem t_Past_copyFrom_1 {sa : Nat → Nat} {d : Nat} {Q : xQ} {l0 : Nat} {l1 : Nat} {l2 : Int32} {M : xM} {u : xU} (h : if (nI 40) ≤ l2 then (xgfI M l1 5 1 fun v1 => (xpf M l0 5 1 (.int v1) fun M1 => (xgfI M1 l1 5 2 fun v2 => (xpf M1 l0 5 2 (.int v2) fun M2 => (Q none M2))))) else (xgfR M l0 5 0 fun v3 => (xaR M v3 l2 fun v4 => (xgfR M l1 5 0 fun v5 => (xaR M v5 l2 fun v6 => (xobj M v4 4 ∧ xEv xP (xprim sa) d m_Moment_copyFrom [.ref v4, .ref v6] M (xrV fun M3 => K_Past_copyFrom sa d Q 1 [some (.ref l0), some (.ref l1), some (.int (l2 + (nI 1)))] [] M3 u))))))) : K_Past_copyFrom sa d Q 1 [some (.ref l0), some (.ref l1), some (.int l2)] [] M u := by
  refine b_Past_copyFrom_1 ?_
  refine xite_mono (fun h => ?_) (fun h => ?_) h
  · exact b_Past_copyFrom_3 h
  · exact b_Past_copyFrom_2 h
theorem t_Past_copyFrom {sa : Nat → Nat} {d : Nat} {Q : xQ} {l0 : Nat} {l1 : Nat} {M : xM} (h : K_Past_copyFrom sa d Q 1 [some (.ref l0), some (.ref l1), some (.int (nI 0))] [] M (0, 0)) : xEv xP (xprim sa) (d + 1) m_Past_copyFrom [.ref l0, .ref l1] M Q := e_Past_copyFrom (t_Past_copyFrom_0 h)
set_option maxRecDepth 100000 in
theorem t_Runs_init_0 {sa : Nat → Nat} {d : Nat} {Q : xQ} {l0 : Nat} {l1 : Int32} {l2 : Nat} {M : xM} {u : xU} (h : ¬ (nI 9) < 0 ∧ ¬ (nI 2000) < 0 ∧ (nI 9).toNatClampNeg ≤ 1000000 ∧ (nI 2000).toNatClampNeg ≤ 1000000 ∧ xmul M u (nI 9).toNatClampNeg (nI 2000).toNatClampNeg fun q1 M1 u1 => (xpf M1 l0 6 3 (.ref q1) fun M2 => (¬ (nI 9) < 0 ∧ ¬ (nI 2000) < 0 ∧ (nI 9).toNatClampNeg ≤ 1000000 ∧ (nI 2000).toNatClampNeg ≤ 1000000 ∧ xmul M2 u1 (nI 9).toNatClampNeg (nI 2000).toNatClampNeg fun q2 M3 u2 => (xpf M3 l0 6 4 (.ref q2) fun M4 => (¬ (nI 2) < 0 ∧ (nI 2).toNatClampNeg ≤ 1000000 ∧ xalloc M4 u2 (nI 2).toNatClampNeg (.inl (0, (nI 2).toNatClampNeg, .inl (fun _ => 0))) fun q3 M5 u3 => (xpf M5 l0 6 8 (.ref q3) fun M6 => (¬ (nI 1024) < 0 ∧ (nI 1024).toNatClampNeg ≤ 1000000 ∧ xalloc M6 u3 (nI 1024).toNatClampNeg (.inl (0, (nI 1024).toNatClampNeg, .inl (fun _ => 0))) fun q4 M7 u4 => (xpf M7 l0 6 9 (.ref q4) fun M8 => (xpf M8 l0 6 5 (.ref l2) fun M9 => (xalloc M9 u4 6 (.inr (1, [.int 0, .null, .null, .null, .null, .int 0])) fun q5 M10 u5 => (4 ≤ u5.1 ∧ 26106 ≤ u5.2 ∧ xEv xP (xprim sa) d m_Found_init [.ref q5, .int l1] M10 (xrV fun M11 => xpf M11 l0 6 0 (.ref q5) fun M12 => (xalloc M12 (u5.1 - 4, u5.2 - 26106) 6 (.inr (1, [.int 0, .null, .null, .null, .null, .int 0])) fun q6 M13 u6 => (4 ≤ u6.1 ∧ 26106 ≤ u6.2 ∧ xEv xP (xprim sa) d m_Found_init [.ref q6, .int l1] M13 (xrV fun M14 => xpf M14 l0 6 1 (.ref q6) fun M15 => (xalloc M15 (u6.1 - 4, u6.2 - 26106) 6 (.inr (1, [.int 0, .null, .null, .null, .null, .int 0])) fun q7 M16 u7 => (4 ≤ u7.1 ∧ 26106 ≤ u7.2 ∧ xEv xP (xprim sa) d m_Found_init [.ref q7, .int l1] M16 (xrV fun M17 => xpf M17 l0 6 2 (.ref q7) fun M18 => (xalloc M18 (u7.1 - 4, u7.2 - 26106) 5 (.inr (4, [.null, .null, .null, .int 0, .int 0])) fun q8 M19 u8 => (3 ≤ u8.1 ∧ 27 ≤ u8.2 ∧ xEv xP (xprim sa) d m_Moment_init [.ref q8, .int l1] M19 (xrV fun M20 => xpf M20 l0 6 6 (.ref q8) fun M21 => (xalloc M21 (u8.1 - 3, u8.2 - 27) 5 (.inr (4, [.null, .null, .null, .int 0, .int 0])) fun q9 M22 u9 => (3 ≤ u9.1 ∧ 27 ≤ u9.2 ∧ xEv xP (xprim sa) d m_Moment_init [.ref q9, .int l1] M22 (xrV fun M23 => xpf M23 l0 6 7 (.ref q9) fun M24 => (xpf M24 l0 6 11 (.int (nI 2)) fun M25 => (Q none M25)))))))))))))))))))))))))) : K_Runs_init sa d Q 0 [some (.ref l0), some (.int l1), some (.ref l2)] [] M u := b_Runs_init_0 h
theorem t_Runs_init {sa : Nat → Nat} {d : Nat} {Q : xQ} {l0 : Nat} {l1 : Int32} {l2 : Nat} {M : xM} (h : ¬ (nI 9) < 0 ∧ ¬ (nI 2000) < 0 ∧ (nI 9).toNatClampNeg ≤ 1000000 ∧ (nI 2000).toNatClampNeg ≤ 1000000 ∧ xmul M (45, 115444) (nI 9).toNatClampNeg (nI 2000).toNatClampNeg fun q1 M1 u1 => (xpf M1 l0 6 3 (.ref q1) fun M2 => (¬ (nI 9) < 0 ∧ ¬ (nI 2000) < 0 ∧ (nI 9).toNatClampNeg ≤ 1000000 ∧ (nI 2000).toNatClampNeg ≤ 1000000 ∧ xmul M2 u1 (nI 9).toNatClampNeg (nI 2000).toNatClampNeg fun q2 M3 u2 => (xpf M3 l0 6 4 (.ref q2) fun M4 => (¬ (nI 2) < 0 ∧ (nI 2).toNatClampNeg ≤ 1000000 ∧ xalloc M4 u2 (nI 2).toNatClampNeg (.inl (0, (nI 2).toNatClampNeg, .inl (fun _ => 0))) fun q3 M5 u3 => (xpf M5 l0 6 8 (.ref q3) fun M6 => (¬ (nI 1024) < 0 ∧ (nI 1024).toNatClampNeg ≤ 1000000 ∧ xalloc M6 u3 (nI 1024).toNatClampNeg (.inl (0, (nI 1024).toNatClampNeg, .inl (fun _ => 0))) fun q4 M7 u4 => (xpf M7 l0 6 9 (.ref q4) fun M8 => (xpf M8 l0 6 5 (.ref l2) fun M9 => (xalloc M9 u4 6 (.inr (1, [.int 0, .null, .null, .null, .null, .int 0])) fun q5 M10 u5 => (4 ≤ u5.1 ∧ 26106 ≤ u5.2 ∧ xEv xP (xprim sa) d m_Found_init [.ref q5, .int l1] M10 (xrV fun M11 => xpf M11 l0 6 0 (.ref q5) fun M12 => (xalloc M12 (u5.1 - 4, u5.2 - 26106) 6 (.inr (1, [.int 0, .null, .null, .null, .null, .int 0])) fun q6 M13 u6 => (4 ≤ u6.1 ∧ 26106 ≤ u6.2 ∧ xEv xP (xprim sa) d m_Found_init [.ref q6, .int l1] M13 (xrV fun M14 => xpf M14 l0 6 1 (.ref q6) fun M15 => (xalloc M15 (u6.1 - 4, u6.2 - 26106) 6 (.inr (1, [.int 0, .null, .null, .null, .null, .int 0])) fun q7 M16 u7 => (4 ≤ u7.1 ∧ 26106 ≤ u7.2 ∧ xEv xP (xprim sa) d m_Found_init [.ref q7, .int l1] M16 (xrV fun M17 => xpf M17 l0 6 2 (.ref q7) fun M18 => (xalloc M18 (u7.1 - 4, u7.2 - 26106) 5 (.inr (4, [.null, .null, .null, .int 0, .int 0])) fun q8 M19 u8 => (3 ≤ u8.1 ∧ 27 ≤ u8.2 ∧ xEv xP (xprim sa) d m_Moment_init [.ref q8, .int l1] M19 (xrV fun M20 => xpf M20 l0 6 6 (.ref q8) fun M21 => (xalloc M21 (u8.1 - 3, u8.2 - 27) 5 (.inr (4, [.null, .null, .null, .int 0, .int 0])) fun q9 M22 u9 => (3 ≤ u9.1 ∧ 27 ≤ u9.2 ∧ xEv xP (xprim sa) d m_Moment_init [.ref q9, .int l1] M22 (xrV fun M23 => xpf M23 l0 6 7 (.ref q9) fun M24 => (xpf M24 l0 6 11 (.int (nI 2)) fun M25 => (Q none M25)))))))))))))))))))))))))) : xEv xP (xprim sa) (d + 1) m_Runs_init [.ref l0, .int l1, .ref l2] M Q := e_Runs_init (t_Runs_init_0 h)
set_option maxRecDepth 100000 in
theorem t_Runs_goThrough_0 {sa : Nat → Nat} {d : Nat} {Q : xQ} {l0 : Nat} {l1 : Nat} {l2 : Int32} {l3 : Int32} {l4 : Nat} {M : xM} {u : xU} (h : xobj M l0 6 ∧ xEv xP (xprim sa) d m_Runs_seatLiars [.ref l0, .ref l1, .int l3] M (xrV fun M1 => xgfR M1 l0 6 6 fun v1 => (xobj M1 v1 4 ∧ xEv xP (xprim sa) d m_Moment_begin [.ref v1, .ref l1] M1 (xrV fun M2 => xgfR M2 l0 6 0 fun v2 => (xobj M2 v2 1 ∧ xEv xP (xprim sa) d m_Found_clear [.ref v2] M2 (xrV fun M3 => xgfR M3 l0 6 0 fun v3 => (xgfR M3 l0 6 6 fun v4 => (xobj M3 v3 1 ∧ xEv xP (xprim sa) d m_Found_put [.ref v3, .ref v4] M3 (xrI fun r1 M4 => K_Runs_goThrough sa d Q 1 [some (.ref l0), some (.ref l1), some (.int l2), none, some (.ref l4), some (.int (nI 1)), some (.int (nI 1)), none] [] M4 u))))))))) : K_Runs_goThrough sa d Q 0 [some (.ref l0), some (.ref l1), some (.int l2), some (.int l3), some (.ref l4), none, none, none] [] M u := b_Runs_goThrough_0 h
set_option maxRecDepth 100000 in
theorem t_Runs_goThrough_1 {sa : Nat → Nat} {d : Nat} {Q : xQ} {l0 : Nat} {l1 : Nat} {l2 : Int32} {l4 : Nat} {l5 : Int32} {l6 : Int32} {M : xM} {u : xU} (h : if l2 < l6 then ((l5 = 0 ∨ l5 = 1) ∧ Q (some (.int l5)) M) else (if (nI 8) < l6 then ((l5 = 0 ∨ l5 = 1) ∧ Q (some (.int l5)) M) else (if l5 = 0 then ((l5 = 0 ∨ l5 = 1) ∧ Q (some (.int l5)) M) else (xgfR M l0 6 1 fun v1 => (xgfR M l0 6 0 fun v2 => (xpf M l0 6 1 (.ref v2) fun M1 => (xpf M1 l0 6 0 (.ref v1) fun M2 => (xobj M2 l0 6 ∧ xEv xP (xprim sa) d m_Runs_goOneHour [.ref l0, .ref l1, .int l6, .ref l4] M2 (xrI fun r1 M3 => K_Runs_goThrough sa d Q 1 [some (.ref l0), some (.ref l1), some (.int l2), none, some (.ref l4), some (.int r1), some (.int (l6 + (nI 1))), none] [] M3 u))))))))) : K_Runs_goThrough sa d Q 1 [some (.ref l0), some (.ref l1), some (.int l2), none, some (.ref l4), some (.int l5), some (.int l6), none] [] M u := by
  refine b_Runs_goThrough_1 ?_
  refine xite_mono (fun h => ?_) (fun h => ?_) h
  · exact b_Runs_goThrough_5 h
  · refine b_Runs_goThrough_2 ?_
    refine xite_mono (fun h => ?_) (fun h => ?_) h
    · exact b_Runs_goThrough_5 h
    · refine b_Runs_goThrough_3 ?_
      refine xite_mono (fun h => ?_) (fun h => ?_) h
      · exact b_Runs_goThrough_5 h
      · exact b_Runs_goThrough_4 h
theorem t_Runs_goThrough {sa : Nat → Nat} {d : Nat} {Q : xQ} {l0 : Nat} {l1 : Nat} {l2 : Int32} {l3 : Int32} {l4 : Nat} {M : xM} (h : xobj M l0 6 ∧ xEv xP (xprim sa) d m_Runs_seatLiars [.ref l0, .ref l1, .int l3] M (xrV fun M1 => xgfR M1 l0 6 6 fun v1 => (xobj M1 v1 4 ∧ xEv xP (xprim sa) d m_Moment_begin [.ref v1, .ref l1] M1 (xrV fun M2 => xgfR M2 l0 6 0 fun v2 => (xobj M2 v2 1 ∧ xEv xP (xprim sa) d m_Found_clear [.ref v2] M2 (xrV fun M3 => xgfR M3 l0 6 0 fun v3 => (xgfR M3 l0 6 6 fun v4 => (xobj M3 v3 1 ∧ xEv xP (xprim sa) d m_Found_put [.ref v3, .ref v4] M3 (xrI fun r1 M4 => K_Runs_goThrough sa d Q 1 [some (.ref l0), some (.ref l1), some (.int l2), none, some (.ref l4), some (.int (nI 1)), some (.int (nI 1)), none] [] M4 (0, 0)))))))))) : xEv xP (xprim sa) (d + 1) m_Runs_goThrough [.ref l0, .ref l1, .int l2, .int l3, .ref l4] M Q := e_Runs_goThrough (t_Runs_goThrough_0 h)
set_option maxRecDepth 100000 in
theorem t_Runs_seatLiars_0 {sa : Nat → Nat} {d : Nat} {Q : xQ} {l0 : Nat} {l1 : Nat} {l2 : Int32} {M : xM} {u : xU} (h : xpf M l0 6 10 (.int (nI 0)) fun M1 => (xpf M1 l0 6 11 (.int (l2 + (nI 2))) fun M2 => (K_Runs_seatLiars sa d Q 1 [some (.ref l0), some (.ref l1), none, some (.int (nI 1)), some (.int (nI 0))] [] M2 u))) : K_Runs_seatLiars sa d Q 0 [some (.ref l0), some (.ref l1), some (.int l2), none, none] [] M u := b_Runs_seatLiars_0 h
set_option maxRecDepth 100000 in
theorem t_Runs_seatLiars_1 {sa : Nat → Nat} {d : Nat} {Q : xQ} {l0 : Nat} {l1 : Nat} {l3 : Int32} {l4 : Int32} {M : xM} {u : xU} (h : xgfR M l0 6 5 fun v1 => (xgfI M v1 2 0 fun v2 => (if v2 ≤ l4 then (xpf M l0 6 12 (.int (nI 0)) fun M1 => (K_Runs_seatLiars sa d Q 7 [some (.ref l0), some (.ref l1), none, some (.int l3), some (.int (nI 0))] [] M1 u)) else (xgfI M l0 6 10 fun v3 => (if (nI 2) ≤ v3 then (xpf M l0 6 12 (.int (nI 0)) fun M2 => (K_Runs_seatLiars sa d Q 7 [some (.ref l0), some (.ref l1), none, some (.int l3), some (.int (nI 0))] [] M2 u)) else (xgfR M l1 0 0 fun v4 => (xaI M v4 l4 fun v5 => (if ¬ v5 = (nI 1) then K_Runs_seatLiars sa d Q 1 [some (.ref l0), some (.ref l1), none, some (.int l3), some (.int (l4 + (nI 1)))] [] M u else (xgfR M l0 6 8 fun v6 => (xgfI M l0 6 10 fun v7 => (xsI M v6 v7 l4 fun M3 => (xgfI M3 l0 6 10 fun v8 => (xpf M3 l0 6 10 (.int (v8 + (nI 1))) fun M4 => (xgfI M4 l0 6 11 fun v9 => (xgfI M4 l0 6 11 fun v10 => (K_Runs_seatLiars sa d Q 1 [some (.ref l0), some (.ref l1), none, some (.int (l3 * ((v9 * v10) * (nI 2)))), some (.int (l4 + (nI 1)))] [] M4 u)))))))))))))))) : K_Runs_seatLiars sa d Q 1 [some (.ref l0), some (.ref l1), none, some (.int l3), some (.int l4)] [] M u := by
  refine b_Runs_seatLiars_1 ?_
  refine xgfR_mono (fun _ h => ?_) h
  refine xgfI_mono (fun _ h => ?_) h
  refine xite_mono (fun h => ?_) (fun h => ?_) h
  · exact b_Runs_seatLiars_6 h
  · refine b_Runs_seatLiars_2 ?_
    refine xgfI_mono (fun _ h => ?_) h
    refine xite_mono (fun h => ?_) (fun h => ?_) h
    · exact b_Runs_seatLiars_6 h
    · refine b_Runs_seatLiars_3 ?_
      refine xgfR_mono (fun _ h => ?_) h
      refine xaI_mono (fun _ h => ?_) h
      refine xite_mono (fun h => ?_) (fun h => ?_) h
      · exact b_Runs_seatLiars_5 h
      · refine b_Runs_seatLiars_4 ?_
        refine xgfR_mono (fun _ h => ?_) h
        refine xgfI_mono (fun _ h => ?_) h
        refine xsI_mono (fun _ h => ?_) h
        refine xgfI_mono (fun _ h => ?_) h
        refine xpf_mono (fun _ h => ?_) h
        refine xgfI_mono (fun _ h => ?_) h
        refine xgfI_mono (fun _ h => ?_) h
        exact b_Runs_seatLiars_5 h
set_option maxRecDepth 100000 in
theorem t_Runs_seatLiars_7 {sa : Nat → Nat} {d : Nat} {Q : xQ} {l0 : Nat} {l1 : Nat} {l3 : Int32} {l4 : Int32} {M : xM} {u : xU} (h : if l3 ≤ l4 then (Q none M) else (xgfI M l0 6 12 fun v1 => (if (nI 1024) ≤ v1 then (Q none M) else (xobj M l0 6 ∧ xEv xP (xprim sa) d m_Runs_isIdle [.ref l0, .ref l1, .int l4] M (xrI fun r1 M1 => if ¬ r1 = 0 then K_Runs_seatLiars sa d Q 7 [some (.ref l0), some (.ref l1), none, some (.int l3), some (.int (l4 + (nI 1)))] [] M1 u else (xgfR M1 l0 6 9 fun v2 => (xgfI M1 l0 6 12 fun v3 => (xsI M1 v2 v3 l4 fun M2 => (xgfI M2 l0 6 12 fun v4 => (xpf M2 l0 6 12 (.int (v4 + (nI 1))) fun M3 => (K_Runs_seatLiars sa d Q 7 [some (.ref l0), some (.ref l1), none, some (.int l3), some (.int (l4 + (nI 1)))] [] M3 u))))))))))) : K_Runs_seatLiars sa d Q 7 [some (.ref l0), some (.ref l1), none, some (.int l3), some (.int l4)] [] M u := by
  refine b_Runs_seatLiars_7 ?_
  refine xite_mono (fun h => ?_) (fun h => ?_) h
  · exact b_Runs_seatLiars_12 h
  · refine b_Runs_seatLiars_8 ?_
    refine xgfI_mono (fun _ h => ?_) h
    refine xite_mono (fun h => ?_) (fun h => ?_) h
    · exact b_Runs_seatLiars_12 h
    · refine b_Runs_seatLiars_9 ?_
      obtain ⟨hz, h⟩ := h
      refine ⟨hz, ?_⟩
      refine xEv_post' _ _ _ _ _ (xrI_mono (fun _ _ h => ?_)) h
      refine xite_mono (fun h => ?_) (fun h => ?_) h
      · exact b_Runs_seatLiars_11 h
      · refine b_Runs_seatLiars_10 ?_
        refine xgfR_mono (fun _ h => ?_) h
        refine xgfI_mono (fun _ h => ?_) h
        refine xsI_mono (fun _ h => ?_) h
        refine xgfI_mono (fun _ h => ?_) h
        refine xpf_mono (fun _ h => ?_) h
        exact b_Runs_seatLiars_11 h
theorem t_Runs_seatLiars {sa : Nat → Nat} {d : Nat} {Q : xQ} {l0 : Nat} {l1 : Nat} {l2 : Int32} {M : xM} (h : xpf M l0 6 10 (.int (nI 0)) fun M1 => (xpf M1 l0 6 11 (.int (l2 + (nI 2))) fun M2 => (K_Runs_seatLiars sa d Q 1 [some (.ref l0), some (.ref l1), none, some (.int (nI 1)), some (.int (nI 0))] [] M2 (0, 0)))) : xEv xP (xprim sa) (d + 1) m_Runs_seatLiars [.ref l0, .ref l1, .int l2] M Q := e_Runs_seatLiars (t_Runs_seatLiars_0 h)
set_option maxRecDepth 100000 in
theorem t_Runs_isIdle_0 {sa : Nat → Nat} {d : Nat} {Q : xQ} {l0 : Nat} {l1 : Nat} {l2 : Int32} {M : xM} {u : xU} (h : K_Runs_isIdle sa d Q 1 [some (.ref l0), some (.ref l1), some (.int l2), some (.int (nI 0)), none, none, none] [] M u) : K_Runs_isIdle sa d Q 0 [some (.ref l0), some (.ref l1), some (.int l2), none, none, none, none] [] M u := b_Runs_isIdle_0 h
set_option maxRecDepth 100000 in
theorem t_Runs_isIdle_1 {sa : Nat → Nat} {d : Nat} {Q : xQ} {l0 : Nat} {l1 : Nat} {l2 : Int32} {l3 : Int32} {M : xM} {u : xU} (h : xgfI M l0 6 10 fun v1 => (if v1 ≤ l3 then (((nI 0) = 0 ∨ (nI 0) = 1) ∧ Q (some (.int (nI 0))) M) else (xobj M l0 6 ∧ xEv xP (xprim sa) d m_Runs_doneBy [.ref l0, .int l2, .int l3, .int (nI 0)] M (xrI fun r1 M1 => xobj M1 l0 6 ∧ xEv xP (xprim sa) d m_Runs_doneBy [.ref l0, .int l2, .int l3, .int (nI 1)] M1 (xrI fun r2 M2 => xobj M2 l0 6 ∧ xEv xP (xprim sa) d m_Runs_doneBy [.ref l0, .int l2, .int l3, .int (nI 2)] M2 (xrI fun r3 M3 => if ¬ r3 = (nI 1) then K_Runs_isIdle sa d Q 5 [some (.ref l0), some (.ref l1), some (.int l2), some (.int l3), some (.int r1), some (.int r2), none] [.int (nI 0)] M3 u else K_Runs_isIdle sa d Q 5 [some (.ref l0), some (.ref l1), some (.int l2), some (.int l3), some (.int r1), some (.int r2), none] [.int (nI 1)] M3 u)))))) : K_Runs_isIdle sa d Q 1 [some (.ref l0), some (.ref l1), some (.int l2), some (.int l3), none, none, none] [] M u := by
  refine b_Runs_isIdle_1 ?_
  refine xgfI_mono (fun _ h => ?_) h
  refine xite_mono (fun h => ?_) (fun h => ?_) h
  · exact b_Runs_isIdle_12 h
  · refine b_Runs_isIdle_2 ?_
    obtain ⟨hz, h⟩ := h
    refine ⟨hz, ?_⟩
    refine xEv_post' _ _ _ _ _ (xrI_mono (fun _ _ h => ?_)) h
    obtain ⟨hz, h⟩ := h
    refine ⟨hz, ?_⟩
    refine xEv_post' _ _ _ _ _ (xrI_mono (fun _ _ h => ?_)) h
    obtain ⟨hz, h⟩ := h
    refine ⟨hz, ?_⟩
    refine xEv_post' _ _ _ _ _ (xrI_mono (fun _ _ h => ?_)) h
    refine xite_mono (fun h => ?_) (fun h => ?_) h
    · exact b_Runs_isIdle_4 h
    · exact b_Runs_isIdle_3 h
set_option maxRecDepth 100000 in
theorem t_Runs_isIdle_5 {sa : Nat → Nat} {d : Nat} {Q : xQ} {l0 : Nat} {l1 : Nat} {l2 : Int32} {l3 : Int32} {l4 : Int32} {l5 : Int32} {s0 : Int32} {M : xM} {u : xU} (h : xobj M l1 0 ∧ xEv xP (xprim sa) d m_Elders_through [.ref l1, .int l4] M (xrI fun r1 M1 => if ¬ r1 = l4 then (((nI 1) = 0 ∨ (nI 1) = 1) ∧ Q (some (.int (nI 1))) M1) else (xobj M1 l1 0 ∧ xEv xP (xprim sa) d m_Elders_through [.ref l1, .int l5] M1 (xrI fun r2 M2 => if r2 = l5 then (if s0 = 0 then K_Runs_isIdle sa d Q 1 [some (.ref l0), some (.ref l1), some (.int l2), some (.int (l3 + (nI 1))), none, none, none] [] M2 u else (xgfR M2 l1 0 5 fun v1 => (xgfR M2 l0 6 8 fun v2 => (xaI M2 v2 l3 fun v3 => (xaZ M2 v1 v3 fun v4 => (if v4 = 0 then K_Runs_isIdle sa d Q 1 [some (.ref l0), some (.ref l1), some (.int l2), some (.int (l3 + (nI 1))), none, none, none] [] M2 u else (((nI 1) = 0 ∨ (nI 1) = 1) ∧ Q (some (.int (nI 1))) M2))))))) else (((nI 1) = 0 ∨ (nI 1) = 1) ∧ Q (some (.int (nI 1))) M2))))) : K_Runs_isIdle sa d Q 5 [some (.ref l0), some (.ref l1), some (.int l2), some (.int l3), some (.int l4), some (.int l5), none] [.int s0] M u := by
  refine b_Runs_isIdle_5 ?_
  obtain ⟨hz, h⟩ := h
  refine ⟨hz, ?_⟩
  refine xEv_post' _ _ _ _ _ (xrI_mono (fun _ _ h => ?_)) h
  refine xite_mono (fun h => ?_) (fun h => ?_) h
  · exact b_Runs_isIdle_7 h
  · refine b_Runs_isIdle_6 ?_
    obtain ⟨hz, h⟩ := h
    refine ⟨hz, ?_⟩
    refine xEv_post' _ _ _ _ _ (xrI_mono (fun _ _ h => ?_)) h
    refine xite_mono (fun h => ?_) (fun h => ?_) h
    · refine b_Runs_isIdle_8 ?_
      refine xite_mono (fun h => ?_) (fun h => ?_) h
      · exact b_Runs_isIdle_11 h
      · refine b_Runs_isIdle_9 ?_
        refine xgfR_mono (fun _ h => ?_) h
        refine xgfR_mono (fun _ h => ?_) h
        refine xaI_mono (fun _ h => ?_) h
        refine xaZ_mono (fun _ h => ?_) h
        refine xite_mono (fun h => ?_) (fun h => ?_) h
        · exact b_Runs_isIdle_11 h
        · exact b_Runs_isIdle_10 h
    · exact b_Runs_isIdle_7 h
theorem t_Runs_isIdle {sa : Nat → Nat} {d : Nat} {Q : xQ} {l0 : Nat} {l1 : Nat} {l2 : Int32} {M : xM} (h : K_Runs_isIdle sa d Q 1 [some (.ref l0), some (.ref l1), some (.int l2), some (.int (nI 0)), none, none, none] [] M (0, 0)) : xEv xP (xprim sa) (d + 1) m_Runs_isIdle [.ref l0, .ref l1, .int l2] M Q := e_Runs_isIdle (t_Runs_isIdle_0 h)
set_option maxRecDepth 100000 in
theorem t_Runs_goOneHour_0 {sa : Nat → Nat} {d : Nat} {Q : xQ} {l0 : Nat} {l1 : Nat} {l2 : Int32} {l3 : Nat} {M : xM} {u : xU} (h : xgfR M l0 6 0 fun v1 => (xobj M v1 1 ∧ xEv xP (xprim sa) d m_Found_clear [.ref v1] M (xrV fun M1 => xgfR M1 l0 6 2 fun v2 => (xobj M1 v2 1 ∧ xEv xP (xprim sa) d m_Found_clear [.ref v2] M1 (xrV fun M2 => K_Runs_goOneHour sa d Q 1 [some (.ref l0), some (.ref l1), some (.int l2), some (.ref l3), some (.int (nI 0)), none, none] [] M2 u))))) : K_Runs_goOneHour sa d Q 0 [some (.ref l0), some (.ref l1), some (.int l2), some (.ref l3), none, none, none] [] M u := b_Runs_goOneHour_0 h
set_option maxRecDepth 100000 in
theorem t_Runs_goOneHour_1 {sa : Nat → Nat} {d : Nat} {Q : xQ} {l0 : Nat} {l1 : Nat} {l2 : Int32} {l3 : Nat} {l4 : Int32} {M : xM} {u : xU} (h : xgfR M l0 6 1 fun v1 => (xgfI M v1 1 5 fun v2 => (if v2 ≤ l4 then (((nI 1) = 0 ∨ (nI 1) = 1) ∧ Q (some (.int (nI 1))) M) else (xgfR M l0 6 1 fun v3 => (xgfR M l0 6 6 fun v4 => (xobj M v3 1 ∧ xEv xP (xprim sa) d m_Found_show [.ref v3, .int l4, .ref v4] M (xrV fun M1 => xgfR M1 l0 6 6 fun v5 => (xpf M1 v5 4 4 (.int (l2 - (nI 1))) fun M2 => (xgfR M2 l0 6 5 fun v6 => (xgfR M2 l0 6 6 fun v7 => (xobj M2 v6 2 ∧ xEv xP (xprim sa) d m_Hall_decide [.ref v6, .ref l1, .ref v7] M2 (xrV fun M3 => xobj M3 l0 6 ∧ xEv xP (xprim sa) d m_Runs_setLiars [.ref l0, .int (nI 0)] M3 (xrV fun M4 => xgfR M4 l0 6 5 fun v8 => (xgfR M4 l0 6 7 fun v9 => (xobj M4 v8 2 ∧ xEv xP (xprim sa) d m_Hall_carry [.ref v8, .ref l1, .ref v9, .int l2] M4 (xrV fun M5 => xgfR M5 l0 6 2 fun v10 => (xgfR M5 l0 6 7 fun v11 => (xobj M5 v10 1 ∧ xEv xP (xprim sa) d m_Found_put [.ref v10, .ref v11] M5 (xrI fun r1 M6 => if r1 = (nI 1) then K_Runs_goOneHour sa d Q 5 [some (.ref l0), some (.ref l1), some (.int l2), some (.ref l3), some (.int l4), some (.int (nI 0)), none] [] M6 u else K_Runs_goOneHour sa d Q 1 [some (.ref l0), some (.ref l1), some (.int l2), some (.ref l3), some (.int (l4 + (nI 1))), none, none] [] M6 u))))))))))))))))))) : K_Runs_goOneHour sa d Q 1 [some (.ref l0), some (.ref l1), some (.int l2), some (.ref l3), some (.int l4), none, none] [] M u := by
  refine b_Runs_goOneHour_1 ?_
  refine xgfR_mono (fun _ h => ?_) h
  refine xgfI_mono (fun _ h => ?_) h
  refine xite_mono (fun h => ?_) (fun h => ?_) h
  · exact b_Runs_goOneHour_15 h
  · refine b_Runs_goOneHour_2 ?_
    refine xgfR_mono (fun _ h => ?_) h
    refine xgfR_mono (fun _ h => ?_) h
    obtain ⟨hz, h⟩ := h
    refine ⟨hz, ?_⟩
    refine xEv_post' _ _ _ _ _ (xrV_mono (fun _ h => ?_)) h
    refine xgfR_mono (fun _ h => ?_) h
    refine xpf_mono (fun _ h => ?_) h
    refine xgfR_mono (fun _ h => ?_) h
    refine xgfR_mono (fun _ h => ?_) h
    obtain ⟨hz, h⟩ := h
    refine ⟨hz, ?_⟩
    refine xEv_post' _ _ _ _ _ (xrV_mono (fun _ h => ?_)) h
    obtain ⟨hz, h⟩ := h
    refine ⟨hz, ?_⟩
    refine xEv_post' _ _ _ _ _ (xrV_mono (fun _ h => ?_)) h
    refine xgfR_mono (fun _ h => ?_) h
    refine xgfR_mono (fun _ h => ?_) h
    obtain ⟨hz, h⟩ := h
    refine ⟨hz, ?_⟩
    refine xEv_post' _ _ _ _ _ (xrV_mono (fun _ h => ?_)) h
    refine xgfR_mono (fun _ h => ?_) h
    refine xgfR_mono (fun _ h => ?_) h
    obtain ⟨hz, h⟩ := h
    refine ⟨hz, ?_⟩
    refine xEv_post' _ _ _ _ _ (xrI_mono (fun _ _ h => ?_)) h
    refine xite_mono (fun h => ?_) (fun h => ?_) h
    · exact b_Runs_goOneHour_4 h
    · refine b_Runs_goOneHour_3 ?_
      exact b_Runs_goOneHour_14 h
set_option maxRecDepth 100000 in
theorem t_Runs_goOneHour_5 {sa : Nat → Nat} {d : Nat} {Q : xQ} {l0 : Nat} {l1 : Nat} {l2 : Int32} {l3 : Nat} {l4 : Int32} {l5 : Int32} {M : xM} {u : xU} (h : xgfI M l0 6 12 fun v1 => (if v1 ≤ l5 then K_Runs_goOneHour sa d Q 1 [some (.ref l0), some (.ref l1), some (.int l2), some (.ref l3), some (.int (l4 + (nI 1))), none, none] [] M u else (xgfR M l0 6 9 fun v2 => (xaI M v2 l5 fun v3 => (xobj M l0 6 ∧ xEv xP (xprim sa) d m_Runs_setLiars [.ref l0, .int v3] M (xrV fun M1 => xgfR M1 l0 6 5 fun v4 => (xgfR M1 l0 6 7 fun v5 => (xobj M1 v4 2 ∧ xEv xP (xprim sa) d m_Hall_carry [.ref v4, .ref l1, .ref v5, .int l2] M1 (xrV fun M2 => xgfR M2 l0 6 7 fun v6 => (xobj M2 l3 3 ∧ xEv xP (xprim sa) d m_Heard_isLike [.ref l3, .ref v6] M2 (xrI fun r1 M3 => if r1 = 0 then K_Runs_goOneHour sa d Q 9 [some (.ref l0), some (.ref l1), some (.int l2), some (.ref l3), some (.int l4), some (.int l5), none] [.int (nI 0)] M3 u else (xgfR M3 l0 6 0 fun v7 => (xgfR M3 l0 6 7 fun v8 => (xobj M3 v7 1 ∧ xEv xP (xprim sa) d m_Found_put [.ref v7, .ref v8] M3 (xrI fun r2 M4 => K_Runs_goOneHour sa d Q 9 [some (.ref l0), some (.ref l1), some (.int l2), some (.ref l3), some (.int l4), some (.int l5), none] [.int r2] M4 u))))))))))))))) : K_Runs_goOneHour sa d Q 5 [some (.ref l0), some (.ref l1), some (.int l2), some (.ref l3), some (.int l4), some (.int l5), none] [] M u := by
  refine b_Runs_goOneHour_5 ?_
  refine xgfI_mono (fun _ h => ?_) h
  refine xite_mono (fun h => ?_) (fun h => ?_) h
  · exact b_Runs_goOneHour_14 h
  · refine b_Runs_goOneHour_6 ?_
    refine xgfR_mono (fun _ h => ?_) h
    refine xaI_mono (fun _ h => ?_) h
    obtain ⟨hz, h⟩ := h
    refine ⟨hz, ?_⟩
    refine xEv_post' _ _ _ _ _ (xrV_mono (fun _ h => ?_)) h
    refine xgfR_mono (fun _ h => ?_) h
    refine xgfR_mono (fun _ h => ?_) h
    obtain ⟨hz, h⟩ := h
    refine ⟨hz, ?_⟩
    refine xEv_post' _ _ _ _ _ (xrV_mono (fun _ h => ?_)) h
    refine xgfR_mono (fun _ h => ?_) h
    obtain ⟨hz, h⟩ := h
    refine ⟨hz, ?_⟩
    refine xEv_post' _ _ _ _ _ (xrI_mono (fun _ _ h => ?_)) h
    refine xite_mono (fun h => ?_) (fun h => ?_) h
    · exact b_Runs_goOneHour_8 h
    · exact b_Runs_goOneHour_7 h
set_option maxRecDepth 100000 in
theorem t_Runs_goOneHour_9 {sa : Nat → Nat} {d : Nat} {Q : xQ} {l0 : Nat} {l1 : Nat} {l2 : Int32} {l3 : Nat} {l4 : Int32} {l5 : Int32} {s0 : Int32} {M : xM} {u : xU} (h : if ¬ s0 = (nI 2) then (if ¬ s0 = (nI 1) then K_Runs_goOneHour sa d Q 5 [some (.ref l0), some (.ref l1), some (.int l2), some (.ref l3), some (.int l4), some (.int (l5 + (nI 1))), none] [] M u else (xgfR M l0 6 3 fun v1 => (xaR M v1 l2 fun v2 => (xgfR M l0 6 0 fun v3 => (xgfI M v3 1 5 fun v4 => (xsI M v2 (v4 - (nI 1)) l4 fun M1 => (xgfR M1 l0 6 4 fun v5 => (xaR M1 v5 l2 fun v6 => (xgfR M1 l0 6 0 fun v7 => (xgfI M1 v7 1 5 fun v8 => (xgfR M1 l0 6 9 fun v9 => (xaI M1 v9 l5 fun v10 => (xsI M1 v6 (v8 - (nI 1)) v10 fun M2 => (K_Runs_goOneHour sa d Q 5 [some (.ref l0), some (.ref l1), some (.int l2), some (.ref l3), some (.int l4), some (.int (l5 + (nI 1))), none] [] M2 u)))))))))))))) else (((nI 0) = 0 ∨ (nI 0) = 1) ∧ Q (some (.int (nI 0))) M)) : K_Runs_goOneHour sa d Q 9 [some (.ref l0), some (.ref l1), some (.int l2), some (.ref l3), some (.int l4), some (.int l5), none] [.int s0] M u := by
  refine b_Runs_goOneHour_9 ?_
  refine xite_mono (fun h => ?_) (fun h => ?_) h
  · refine b_Runs_goOneHour_11 ?_
    refine xite_mono (fun h => ?_) (fun h => ?_) h
    · exact b_Runs_goOneHour_13 h
    · refine b_Runs_goOneHour_12 ?_
      refine xgfR_mono (fun _ h => ?_) h
      refine xaR_mono (fun _ h => ?_) h
      refine xgfR_mono (fun _ h => ?_) h
      refine xgfI_mono (fun _ h => ?_) h
      refine xsI_mono (fun _ h => ?_) h
      refine xgfR_mono (fun _ h => ?_) h
      refine xaR_mono (fun _ h => ?_) h
      refine xgfR_mono (fun _ h => ?_) h
      refine xgfI_mono (fun _ h => ?_) h
      refine xgfR_mono (fun _ h => ?_) h
      refine xaI_mono (fun _ h => ?_) h
      refine xsI_mono (fun _ h => ?_) h
      exact b_Runs_goOneHour_13 h
  · exact b_Runs_goOneHour_10 h
theorem t_Runs_goOneHour {sa : Nat → Nat} {d : Nat} {Q : xQ} {l0 : Nat} {l1 : Nat} {l2 : Int32} {l3 : Nat} {M : xM} (h : xgfR M l0 6 0 fun v1 => (xobj M v1 1 ∧ xEv xP (xprim sa) d m_Found_clear [.ref v1] M (xrV fun M1 => xgfR M1 l0 6 2 fun v2 => (xobj M1 v2 1 ∧ xEv xP (xprim sa) d m_Found_clear [.ref v2] M1 (xrV fun M2 => K_Runs_goOneHour sa d Q 1 [some (.ref l0), some (.ref l1), some (.int l2), some (.ref l3), some (.int (nI 0)), none, none] [] M2 (0, 0)))))) : xEv xP (xprim sa) (d + 1) m_Runs_goOneHour [.ref l0, .ref l1, .int l2, .ref l3] M Q := e_Runs_goOneHour (t_Runs_goOneHour_0 h)
set_option maxRecDepth 100000 in
theorem t_Runs_setLiars_0 {sa : Nat → Nat} {d : Nat} {Q : xQ} {l0 : Nat} {l1 : Int32} {M : xM} {u : xU} (h : K_Runs_setLiars sa d Q 1 [some (.ref l0), some (.int l1), some (.int (nI 0)), none] [] M u) : K_Runs_setLiars sa d Q 0 [some (.ref l0), some (.int l1), none, none] [] M u := b_Runs_setLiars_0 h
set_option maxRecDepth 100000 in
theorem t_Runs_setLiars_1 {sa : Nat → Nat} {d : Nat} {Q : xQ} {l0 : Nat} {l1 : Int32} {l2 : Int32} {M : xM} {u : xU} (h : xgfI M l0 6 10 fun v1 => (if v1 ≤ l2 then (Q none M) else (xgfR M l0 6 8 fun v2 => (xaI M v2 l2 fun v3 => (xgfR M l0 6 5 fun v4 => (xgfR M v4 2 2 fun v5 => (xobj M l0 6 ∧ xEv xP (xprim sa) d m_Runs_doneBy [.ref l0, .int l1, .int l2, .int (nI 0)] M (xrI fun r1 M1 => xsI M1 v5 v3 r1 fun M2 => (xgfR M2 l0 6 5 fun v6 => (xgfR M2 v6 2 3 fun v7 => (xobj M2 l0 6 ∧ xEv xP (xprim sa) d m_Runs_doneBy [.ref l0, .int l1, .int l2, .int (nI 1)] M2 (xrI fun r2 M3 => xsI M3 v7 v3 r2 fun M4 => (xgfR M4 l0 6 5 fun v8 => (xgfR M4 v8 2 4 fun v9 => (xobj M4 l0 6 ∧ xEv xP (xprim sa) d m_Runs_doneBy [.ref l0, .int l1, .int l2, .int (nI 2)] M4 (xrI fun r3 M5 => if ¬ r3 = (nI 1) then (xsZ M5 v9 v3 (nI 0) fun M6 => (K_Runs_setLiars sa d Q 1 [some (.ref l0), some (.int l1), some (.int (l2 + (nI 1))), none] [] M6 u)) else (xsZ M5 v9 v3 (nI 1) fun M7 => (K_Runs_setLiars sa d Q 1 [some (.ref l0), some (.int l1), some (.int (l2 + (nI 1))), none] [] M7 u)))))))))))))))))) : K_Runs_setLiars sa d Q 1 [some (.ref l0), some (.int l1), some (.int l2), none] [] M u := by
  refine b_Runs_setLiars_1 ?_
  refine xgfI_mono (fun _ h => ?_) h
  refine xite_mono (fun h => ?_) (fun h => ?_) h
  · exact b_Runs_setLiars_6 h
  · refine b_Runs_setLiars_2 ?_
    refine xgfR_mono (fun _ h => ?_) h
    refine xaI_mono (fun _ h => ?_) h
    refine xgfR_mono (fun _ h => ?_) h
    refine xgfR_mono (fun _ h => ?_) h
    obtain ⟨hz, h⟩ := h
    refine ⟨hz, ?_⟩
    refine xEv_post' _ _ _ _ _ (xrI_mono (fun _ _ h => ?_)) h
    refine xsI_mono (fun _ h => ?_) h
    refine xgfR_mono (fun _ h => ?_) h
    refine xgfR_mono (fun _ h => ?_) h
    obtain ⟨hz, h⟩ := h
    refine ⟨hz, ?_⟩
    refine xEv_post' _ _ _ _ _ (xrI_mono (fun _ _ h => ?_)) h
    refine xsI_mono (fun _ h => ?_) h
    refine xgfR_mono (fun _ h => ?_) h
    refine xgfR_mono (fun _ h => ?_) h
    obtain ⟨hz, h⟩ := h
    refine ⟨hz, ?_⟩
    refine xEv_post' _ _ _ _ _ (xrI_mono (fun _ _ h => ?_)) h
    refine xite_mono (fun h => ?_) (fun h => ?_) h
    · refine b_Runs_setLiars_4 ?_
      exact b_Runs_setLiars_5 h
    · refine b_Runs_setLiars_3 ?_
      exact b_Runs_setLiars_5 h
theorem t_Runs_setLiars {sa : Nat → Nat} {d : Nat} {Q : xQ} {l0 : Nat} {l1 : Int32} {M : xM} (h : K_Runs_setLiars sa d Q 1 [some (.ref l0), some (.int l1), some (.int (nI 0)), none] [] M (0, 0)) : xEv xP (xprim sa) (d + 1) m_Runs_setLiars [.ref l0, .int l1] M Q := e_Runs_setLiars (t_Runs_setLiars_0 h)
set_option maxRecDepth 100000 in
theorem t_Runs_doneBy_0 {sa : Nat → Nat} {d : Nat} {Q : xQ} {l0 : Nat} {l1 : Int32} {l2 : Int32} {l3 : Int32} {M : xM} {u : xU} (h : K_Runs_doneBy sa d Q 1 [some (.ref l0), none, none, some (.int l3), some (.int l1), some (.int (l2 + (nI 1)))] [] M u) : K_Runs_doneBy sa d Q 0 [some (.ref l0), some (.int l1), some (.int l2), some (.int l3), none, none] [] M u := b_Runs_doneBy_0 h
set_option maxRecDepth 100000 in
theorem t_Runs_doneBy_1 {sa : Nat → Nat} {d : Nat} {Q : xQ} {l0 : Nat} {l3 : Int32} {l4 : Int32} {l5 : Int32} {M : xM} {u : xU} (h : xgfI M l0 6 10 fun v1 => (if v1 ≤ l5 then (if l3 = (nI 0) then (xgfI M l0 6 11 fun v2 => (¬ ((nI 2) * v2) = 0 ∧ xgfI M l0 6 11 fun v3 => (¬ v3 = 0 ∧ Q (some (.int (((l4 / ((nI 2) * v2)) - (l4 / ((nI 2) * v2)) / v3 * v3) - (nI 1)))) M))) else (if l3 = (nI 1) then (¬ (nI 2) = 0 ∧ xgfI M l0 6 11 fun v4 => (¬ v4 = 0 ∧ Q (some (.int (((l4 / (nI 2)) - (l4 / (nI 2)) / v4 * v4) - (nI 1)))) M)) else (¬ (nI 2) = 0 ∧ Q (some (.int (l4 - l4 / (nI 2) * (nI 2)))) M))) else (xgfI M l0 6 11 fun v5 => (xgfI M l0 6 11 fun v6 => (¬ ((v5 * v6) * (nI 2)) = 0 ∧ K_Runs_doneBy sa d Q 1 [some (.ref l0), none, none, some (.int l3), some (.int (l4 / ((v5 * v6) * (nI 2)))), some (.int (l5 + (nI 1)))] [] M u))))) : K_Runs_doneBy sa d Q 1 [some (.ref l0), none, none, some (.int l3), some (.int l4), some (.int l5)] [] M u := by
  refine b_Runs_doneBy_1 ?_
  refine xgfI_mono (fun _ h => ?_) h
  refine xite_mono (fun h => ?_) (fun h => ?_) h
  · refine b_Runs_doneBy_3 ?_
    refine xite_mono (fun h => ?_) (fun h => ?_) h
    · exact b_Runs_doneBy_4 h
    · refine xite_mono (fun h => ?_) (fun h => ?_) h
      · exact b_Runs_doneBy_5 h
      · exact b_Runs_doneBy_6 h
  · exact b_Runs_doneBy_2 h
theorem t_Runs_doneBy {sa : Nat → Nat} {d : Nat} {Q : xQ} {l0 : Nat} {l1 : Int32} {l2 : Int32} {l3 : Int32} {M : xM} (h : K_Runs_doneBy sa d Q 1 [some (.ref l0), none, none, some (.int l3), some (.int l1), some (.int (l2 + (nI 1)))] [] M (0, 0)) : xEv xP (xprim sa) (d + 1) m_Runs_doneBy [.ref l0, .int l1, .int l2, .int l3] M Q := e_Runs_doneBy (t_Runs_doneBy_0 h)
set_option maxRecDepth 100000 in
theorem t_Runs_firstBad_0 {sa : Nat → Nat} {d : Nat} {Q : xQ} {l0 : Nat} {l1 : Nat} {l2 : Int32} {M : xM} {u : xU} (h : xgfR M l0 6 6 fun v1 => (xpf M v1 4 4 (.int l2) fun M1 => (K_Runs_firstBad sa d Q 1 [some (.ref l0), some (.ref l1), none, some (.int (nI 0))] [] M1 u))) : K_Runs_firstBad sa d Q 0 [some (.ref l0), some (.ref l1), some (.int l2), none] [] M u := b_Runs_firstBad_0 h
set_option maxRecDepth 100000 in
theorem t_Runs_firstBad_1 {sa : Nat → Nat} {d : Nat} {Q : xQ} {l0 : Nat} {l1 : Nat} {l3 : Int32} {M : xM} {u : xU} (h : xgfR M l0 6 0 fun v1 => (xgfI M v1 1 5 fun v2 => (if v2 ≤ l3 then (Q (some (.int (-1 : Int32))) M) else (xgfR M l0 6 0 fun v3 => (xgfR M l0 6 6 fun v4 => (xobj M v3 1 ∧ xEv xP (xprim sa) d m_Found_show [.ref v3, .int l3, .ref v4] M (xrV fun M1 => xgfR M1 l0 6 5 fun v5 => (xgfR M1 l0 6 6 fun v6 => (xobj M1 v5 2 ∧ xEv xP (xprim sa) d m_Hall_isAgreed [.ref v5, .ref l1, .ref v6] M1 (xrI fun r1 M2 => if ¬ r1 = 0 then K_Runs_firstBad sa d Q 1 [some (.ref l0), some (.ref l1), none, some (.int (l3 + (nI 1)))] [] M2 u else (Q (some (.int l3)) M2))))))))))) : K_Runs_firstBad sa d Q 1 [some (.ref l0), some (.ref l1), none, some (.int l3)] [] M u := by
  refine b_Runs_firstBad_1 ?_
  refine xgfR_mono (fun _ h => ?_) h
  refine xgfI_mono (fun _ h => ?_) h
  refine xite_mono (fun h => ?_) (fun h => ?_) h
  · exact b_Runs_firstBad_5 h
  · refine b_Runs_firstBad_2 ?_
    refine xgfR_mono (fun _ h => ?_) h
    refine xgfR_mono (fun _ h => ?_) h
    obtain ⟨hz, h⟩ := h
    refine ⟨hz, ?_⟩
    refine xEv_post' _ _ _ _ _ (xrV_mono (fun _ h => ?_)) h
    refine xgfR_mono (fun _ h => ?_) h
    refine xgfR_mono (fun _ h => ?_) h
    obtain ⟨hz, h⟩ := h
    refine ⟨hz, ?_⟩
    refine xEv_post' _ _ _ _ _ (xrI_mono (fun _ _ h => ?_)) h
    refine xite_mono (fun h => ?_) (fun h => ?_) h
    · exact b_Runs_firstBad_4 h
    · exact b_Runs_firstBad_3 h
theorem t_Runs_firstBad {sa : Nat → Nat} {d : Nat} {Q : xQ} {l0 : Nat} {l1 : Nat} {l2 : Int32} {M : xM} (h : xgfR M l0 6 6 fun v1 => (xpf M v1 4 4 (.int l2) fun M1 => (K_Runs_firstBad sa d Q 1 [some (.ref l0), some (.ref l1), none, some (.int (nI 0))] [] M1 (0, 0)))) : xEv xP (xprim sa) (d + 1) m_Runs_firstBad [.ref l0, .ref l1, .int l2] M Q := e_Runs_firstBad (t_Runs_firstBad_0 h)
set_option maxRecDepth 100000 in
theorem t_Runs_doneOnTheWay_0 {sa : Nat → Nat} {d : Nat} {Q : xQ} {l0 : Nat} {l1 : Int32} {l2 : Int32} {l3 : Int32} {l4 : Int32} {l5 : Int32} {M : xM} {u : xU} (h : K_Runs_doneOnTheWay sa d Q 1 [some (.ref l0), none, none, some (.int l3), some (.int l4), some (.int l5), some (.int l2), some (.int l1)] [] M u) : K_Runs_doneOnTheWay sa d Q 0 [some (.ref l0), some (.int l1), some (.int l2), some (.int l3), some (.int l4), some (.int l5), none, none] [] M u := b_Runs_doneOnTheWay_0 h
set_option maxRecDepth 100000 in
theorem t_Runs_doneOnTheWay_1 {sa : Nat → Nat} {d : Nat} {Q : xQ} {l0 : Nat} {l3 : Int32} {l4 : Int32} {l5 : Int32} {l6 : Int32} {l7 : Int32} {M : xM} {u : xU} (h : if l7 ≤ (l3 + (nI 1)) then (xgfR M l0 6 4 fun v1 => (xaR M v1 (l3 + (nI 1)) fun v2 => (xaI M v2 l6 fun v3 => (xobj M l0 6 ∧ xEv xP (xprim sa) d m_Runs_doneBy [.ref l0, .int v3, .int l4, .int l5] M (xrI fun r1 M1 => Q (some (.int r1)) M1))))) else (xgfR M l0 6 3 fun v4 => (xaR M v4 l7 fun v5 => (xaI M v5 l6 fun v6 => (K_Runs_doneOnTheWay sa d Q 1 [some (.ref l0), none, none, some (.int l3), some (.int l4), some (.int l5), some (.int v6), some (.int (l7 + (-1 : Int32)))] [] M u))))) : K_Runs_doneOnTheWay sa d Q 1 [some (.ref l0), none, none, some (.int l3), some (.int l4), some (.int l5), some (.int l6), some (.int l7)] [] M u := by
  refine b_Runs_doneOnTheWay_1 ?_
  refine xite_mono (fun h => ?_) (fun h => ?_) h
  · exact b_Runs_doneOnTheWay_3 h
  · exact b_Runs_doneOnTheWay_2 h
theorem t_Runs_doneOnTheWay {sa : Nat → Nat} {d : Nat} {Q : xQ} {l0 : Nat} {l1 : Int32} {l2 : Int32} {l3 : Int32} {l4 : Int32} {l5 : Int32} {M : xM} (h : K_Runs_doneOnTheWay sa d Q 1 [some (.ref l0), none, none, some (.int l3), some (.int l4), some (.int l5), some (.int l2), some (.int l1)] [] M (0, 0)) : xEv xP (xprim sa) (d + 1) m_Runs_doneOnTheWay [.ref l0, .int l1, .int l2, .int l3, .int l4, .int l5] M Q := e_Runs_doneOnTheWay (t_Runs_doneOnTheWay_0 h)
set_option maxRecDepth 100000 in
theorem t_Tape_init_0 {sa : Nat → Nat} {d : Nat} {Q : xQ} {l0 : Nat} {M : xM} {u : xU} (h : ¬ (nI 300) < 0 ∧ (nI 300).toNatClampNeg ≤ 1000000 ∧ xalloc M u (nI 300).toNatClampNeg (.inl (0, (nI 300).toNatClampNeg, .inl (fun _ => 0))) fun q1 M1 u1 => (xpf M1 l0 7 0 (.ref q1) fun M2 => (Q none M2))) : K_Tape_init sa d Q 0 [some (.ref l0)] [] M u := b_Tape_init_0 h
theorem t_Tape_init {sa : Nat → Nat} {d : Nat} {Q : xQ} {l0 : Nat} {M : xM} (h : ¬ (nI 300) < 0 ∧ (nI 300).toNatClampNeg ≤ 1000000 ∧ xalloc M (1, 300) (nI 300).toNatClampNeg (.inl (0, (nI 300).toNatClampNeg, .inl (fun _ => 0))) fun q1 M1 u1 => (xpf M1 l0 7 0 (.ref q1) fun M2 => (Q none M2))) : xEv xP (xprim sa) (d + 1) m_Tape_init [.ref l0] M Q := e_Tape_init (t_Tape_init_0 h)
set_option maxRecDepth 100000 in
theorem t_Tape_append_0 {sa : Nat → Nat} {d : Nat} {Q : xQ} {l0 : Nat} {l1 : Int32} {M : xM} {u : xU} (h : K_Tape_append sa d Q 1 [some (.ref l0), some (.int l1), some (.int (nI 24))] [] M u) : K_Tape_append sa d Q 0 [some (.ref l0), some (.int l1), none] [] M u := b_Tape_append_0 h
set_option maxRecDepth 100000 in
theorem t_Tape_append_1 {sa : Nat → Nat} {d : Nat} {Q : xQ} {l0 : Nat} {l1 : Int32} {l2 : Int32} {M : xM} {u : xU} (h : if l2 < 0 then (Q none M) else (xgfI M l0 7 1 fun v1 => (if (nI 300) ≤ v1 then (Q none M) else (xgfR M l0 7 0 fun v2 => (xgfI M l0 7 1 fun v3 => (xsI M v2 v3 (((l1.toUInt32 >>> (l2.toUInt32 &&& Int32.toUInt32 31)).toInt32) &&& (nI 255)) fun M1 => (xgfI M1 l0 7 1 fun v4 => (xpf M1 l0 7 1 (.int (v4 + (nI 1))) fun M2 => (K_Tape_append sa d Q 1 [some (.ref l0), some (.int l1), some (.int (l2 + (-8 : Int32)))] [] M2 u))))))))) : K_Tape_append sa d Q 1 [some (.ref l0), some (.int l1), some (.int l2)] [] M u := by
  refine b_Tape_append_1 ?_
  refine xite_mono (fun h => ?_) (fun h => ?_) h
  · exact b_Tape_append_4 h
  · refine b_Tape_append_2 ?_
    refine xgfI_mono (fun _ h => ?_) h
    refine xite_mono (fun h => ?_) (fun h => ?_) h
    · exact b_Tape_append_4 h
    · exact b_Tape_append_3 h
theorem t_Tape_append {sa : Nat → Nat} {d : Nat} {Q : xQ} {l0 : Nat} {l1 : Int32} {M : xM} (h : K_Tape_append sa d Q 1 [some (.ref l0), some (.int l1), some (.int (nI 24))] [] M (0, 0)) : xEv xP (xprim sa) (d + 1) m_Tape_append [.ref l0, .int l1] M Q := e_Tape_append (t_Tape_append_0 h)
set_option maxRecDepth 100000 in
theorem t_Tape_read_0 {sa : Nat → Nat} {d : Nat} {Q : xQ} {l0 : Nat} {l1 : Nat} {M : xM} {u : xU} (h : xpf M l0 7 4 (.ref l1) fun M1 => (xgfR M1 l0 7 4 fun v1 => (xobj M1 v1 8 ∧ xEv xP (xprim sa) d m_Text_clear [.ref v1] M1 (xrV fun M2 => xpf M2 l0 7 2 (.int (nI 0)) fun M3 => (xpf M3 l0 7 3 (.int (-1 : Int32)) fun M4 => (xpf M4 l0 7 7 (.int (nI 0)) fun M5 => (xobj M5 l0 7 ∧ xEv xP (xprim sa) d m_Tape_next [.ref l0] M5 (xrV fun M6 => K_Tape_read sa d Q 1 [some (.ref l0), none, some (.int (nI 1)), some (.int (nI 0))] [] M6 u)))))))) : K_Tape_read sa d Q 0 [some (.ref l0), some (.ref l1), none, none] [] M u := b_Tape_read_0 h
set_option maxRecDepth 100000 in
theorem t_Tape_read_1 {sa : Nat → Nat} {d : Nat} {Q : xQ} {l0 : Nat} {l2 : Int32} {l3 : Int32} {M : xM} {u : xU} (h : if (nI 12) < l3 then ((l2 = 0 ∨ l2 = 1) ∧ Q (some (.int l2)) M) else (if l2 = 0 then ((l2 = 0 ∨ l2 = 1) ∧ Q (some (.int l2)) M) else (xgfI M l0 7 5 fun v1 => (if v1 = (nI 303) then ((l2 = 0 ∨ l2 = 1) ∧ Q (some (.int l2)) M) else (xobj M l0 7 ∧ xEv xP (xprim sa) d m_Tape_readClause [.ref l0] M (xrI fun r1 M1 => K_Tape_read sa d Q 1 [some (.ref l0), none, some (.int r1), some (.int (l3 + (nI 1)))] [] M1 u)))))) : K_Tape_read sa d Q 1 [some (.ref l0), none, some (.int l2), some (.int l3)] [] M u := by
  refine b_Tape_read_1 ?_
  refine xite_mono (fun h => ?_) (fun h => ?_) h
  · exact b_Tape_read_5 h
  · refine b_Tape_read_2 ?_
    refine xite_mono (fun h => ?_) (fun h => ?_) h
    · exact b_Tape_read_5 h
    · refine b_Tape_read_3 ?_
      refine xgfI_mono (fun _ h => ?_) h
      refine xite_mono (fun h => ?_) (fun h => ?_) h
      · exact b_Tape_read_5 h
      · exact b_Tape_read_4 h
theorem t_Tape_read {sa : Nat → Nat} {d : Nat} {Q : xQ} {l0 : Nat} {l1 : Nat} {M : xM} (h : xpf M l0 7 4 (.ref l1) fun M1 => (xgfR M1 l0 7 4 fun v1 => (xobj M1 v1 8 ∧ xEv xP (xprim sa) d m_Text_clear [.ref v1] M1 (xrV fun M2 => xpf M2 l0 7 2 (.int (nI 0)) fun M3 => (xpf M3 l0 7 3 (.int (-1 : Int32)) fun M4 => (xpf M4 l0 7 7 (.int (nI 0)) fun M5 => (xobj M5 l0 7 ∧ xEv xP (xprim sa) d m_Tape_next [.ref l0] M5 (xrV fun M6 => K_Tape_read sa d Q 1 [some (.ref l0), none, some (.int (nI 1)), some (.int (nI 0))] [] M6 (0, 0))))))))) : xEv xP (xprim sa) (d + 1) m_Tape_read [.ref l0, .ref l1] M Q := e_Tape_read (t_Tape_read_0 h)
set_option maxRecDepth 100000 in
theorem t_Tape_readClause_0 {sa : Nat → Nat} {d : Nat} {Q : xQ} {l0 : Nat} {M : xM} {u : xU} (h : xgfI M l0 7 5 fun v1 => (xobj M l0 7 ∧ xEv xP (xprim sa) d m_Tape_mayBegin [.ref l0, .int v1] M (xrI fun r1 M1 => if ¬ r1 = 0 then (xobj M1 l0 7 ∧ xEv xP (xprim sa) d m_Tape_next [.ref l0] M1 (xrV fun M2 => xgfR M2 l0 7 4 fun v2 => (xgfI M2 v2 8 7 fun v3 => (if ¬ v1 = (nI 404) then (xobj M2 l0 7 ∧ xEv xP (xprim sa) d m_Tape_readSum [.ref l0, .int (nI 0)] M2 (xrI fun r2 M3 => if r2 = (-1 : Int32) then (((nI 0) = 0 ∨ (nI 0) = 1) ∧ Q (some (.int (nI 0))) M3) else (xobj M3 l0 7 ∧ xEv xP (xprim sa) d m_Tape_isPassed [.ref l0, .int (nI 59)] M3 (xrI fun r3 M4 => if ¬ r3 = 0 then (xgfR M4 l0 7 4 fun v4 => (xobj M4 v4 8 ∧ xEv xP (xprim sa) d m_Text_addClause [.ref v4, .int v1, .int v3, .int r2] M4 (xrV fun M5 => ((nI 1) = 0 ∨ (nI 1) = 1) ∧ Q (some (.int (nI 1))) M5))) else (((nI 0) = 0 ∨ (nI 0) = 1) ∧ Q (some (.int (nI 0))) M4))))) else (xobj M2 l0 7 ∧ xEv xP (xprim sa) d m_Tape_readEither [.ref l0, .int (nI 0)] M2 (xrI fun r4 M6 => if r4 = (-1 : Int32) then (((nI 0) = 0 ∨ (nI 0) = 1) ∧ Q (some (.int (nI 0))) M6) else (xobj M6 l0 7 ∧ xEv xP (xprim sa) d m_Tape_isPassed [.ref l0, .int (nI 59)] M6 (xrI fun r5 M7 => if ¬ r5 = 0 then (xgfR M7 l0 7 4 fun v5 => (xobj M7 v5 8 ∧ xEv xP (xprim sa) d m_Text_addClause [.ref v5, .int v1, .int v3, .int r4] M7 (xrV fun M8 => ((nI 1) = 0 ∨ (nI 1) = 1) ∧ Q (some (.int (nI 1))) M8))) else (((nI 0) = 0 ∨ (nI 0) = 1) ∧ Q (some (.int (nI 0))) M7))))))))) else (((nI 0) = 0 ∨ (nI 0) = 1) ∧ Q (some (.int (nI 0))) M1)))) : K_Tape_readClause sa d Q 0 [some (.ref l0), none, none, none] [] M u := by
  refine b_Tape_readClause_0 ?_
  refine xgfI_mono (fun _ h => ?_) h
  obtain ⟨hz, h⟩ := h
  refine ⟨hz, ?_⟩
  refine xEv_post' _ _ _ _ _ (xrI_mono (fun _ _ h => ?_)) h
  refine xite_mono (fun h => ?_) (fun h => ?_) h
  · refine b_Tape_readClause_2 ?_
    obtain ⟨hz, h⟩ := h
    refine ⟨hz, ?_⟩
    refine xEv_post' _ _ _ _ _ (xrV_mono (fun _ h => ?_)) h
    refine xgfR_mono (fun _ h => ?_) h
    refine xgfI_mono (fun _ h => ?_) h
    refine xite_mono (fun h => ?_) (fun h => ?_) h
    · refine b_Tape_readClause_4 ?_
      obtain ⟨hz, h⟩ := h
      refine ⟨hz, ?_⟩
      refine xEv_post' _ _ _ _ _ (xrI_mono (fun _ _ h => ?_)) h
      refine b_Tape_readClause_5 ?_
      refine xite_mono (fun h => ?_) (fun h => ?_) h
      · exact b_Tape_readClause_7 h
      · refine b_Tape_readClause_6 ?_
        obtain ⟨hz, h⟩ := h
        refine ⟨hz, ?_⟩
        refine xEv_post' _ _ _ _ _ (xrI_mono (fun _ _ h => ?_)) h
        refine xite_mono (fun h => ?_) (fun h => ?_) h
        · exact b_Tape_readClause_8 h
        · exact b_Tape_readClause_7 h
    · refine b_Tape_readClause_3 ?_
      obtain ⟨hz, h⟩ := h
      refine ⟨hz, ?_⟩
      refine xEv_post' _ _ _ _ _ (xrI_mono (fun _ _ h => ?_)) h
      refine b_Tape_readClause_5 ?_
      refine xite_mono (fun h => ?_) (fun h => ?_) h
      · exact b_Tape_readClause_7 h
      · refine b_Tape_readClause_6 ?_
        obtain ⟨hz, h⟩ := h
        refine ⟨hz, ?_⟩
        refine xEv_post' _ _ _ _ _ (xrI_mono (fun _ _ h => ?_)) h
        refine xite_mono (fun h => ?_) (fun h => ?_) h
        · exact b_Tape_readClause_8 h
        · exact b_Tape_readClause_7 h
  · exact b_Tape_readClause_1 h
theorem t_Tape_readClause {sa : Nat → Nat} {d : Nat} {Q : xQ} {l0 : Nat} {M : xM} (h : xgfI M l0 7 5 fun v1 => (xobj M l0 7 ∧ xEv xP (xprim sa) d m_Tape_mayBegin [.ref l0, .int v1] M (xrI fun r1 M1 => if ¬ r1 = 0 then (xobj M1 l0 7 ∧ xEv xP (xprim sa) d m_Tape_next [.ref l0] M1 (xrV fun M2 => xgfR M2 l0 7 4 fun v2 => (xgfI M2 v2 8 7 fun v3 => (if ¬ v1 = (nI 404) then (xobj M2 l0 7 ∧ xEv xP (xprim sa) d m_Tape_readSum [.ref l0, .int (nI 0)] M2 (xrI fun r2 M3 => if r2 = (-1 : Int32) then (((nI 0) = 0 ∨ (nI 0) = 1) ∧ Q (some (.int (nI 0))) M3) else (xobj M3 l0 7 ∧ xEv xP (xprim sa) d m_Tape_isPassed [.ref l0, .int (nI 59)] M3 (xrI fun r3 M4 => if ¬ r3 = 0 then (xgfR M4 l0 7 4 fun v4 => (xobj M4 v4 8 ∧ xEv xP (xprim sa) d m_Text_addClause [.ref v4, .int v1, .int v3, .int r2] M4 (xrV fun M5 => ((nI 1) = 0 ∨ (nI 1) = 1) ∧ Q (some (.int (nI 1))) M5))) else (((nI 0) = 0 ∨ (nI 0) = 1) ∧ Q (some (.int (nI 0))) M4))))) else (xobj M2 l0 7 ∧ xEv xP (xprim sa) d m_Tape_readEither [.ref l0, .int (nI 0)] M2 (xrI fun r4 M6 => if r4 = (-1 : Int32) then (((nI 0) = 0 ∨ (nI 0) = 1) ∧ Q (some (.int (nI 0))) M6) else (xobj M6 l0 7 ∧ xEv xP (xprim sa) d m_Tape_isPassed [.ref l0, .int (nI 59)] M6 (xrI fun r5 M7 => if ¬ r5 = 0 then (xgfR M7 l0 7 4 fun v5 => (xobj M7 v5 8 ∧ xEv xP (xprim sa) d m_Text_addClause [.ref v5, .int v1, .int v3, .int r4] M7 (xrV fun M8 => ((nI 1) = 0 ∨ (nI 1) = 1) ∧ Q (some (.int (nI 1))) M8))) else (((nI 0) = 0 ∨ (nI 0) = 1) ∧ Q (some (.int (nI 0))) M7))))))))) else (((nI 0) = 0 ∨ (nI 0) = 1) ∧ Q (some (.int (nI 0))) M1)))) : xEv xP (xprim sa) (d + 1) m_Tape_readClause [.ref l0] M Q := e_Tape_readClause (t_Tape_readClause_0 h)
set_option maxRecDepth 100000 in
theorem t_Tape_mayBegin_0 {sa : Nat → Nat} {d : Nat} {Q : xQ} {l0 : Nat} {l1 : Int32} {M : xM} {u : xU} (h : if l1 < (nI 400) then (xobj M l0 7 ∧ xEv xP (xprim sa) d m_Tape_wrong [.ref l0, .int (nI 1)] M (xrI fun r1 M1 => ((nI 0) = 0 ∨ (nI 0) = 1) ∧ Q (some (.int (nI 0))) M1)) else (if l1 ≤ (nI 404) then (if l1 = (nI 404) then (xgfR M l0 7 4 fun v1 => (xgfI M v1 8 8 fun v2 => (if v2 < (nI 12) then (((nI 1) = 0 ∨ (nI 1) = 1) ∧ Q (some (.int (nI 1))) M) else (xobj M l0 7 ∧ xEv xP (xprim sa) d m_Tape_wrong [.ref l0, .int (nI 5)] M (xrI fun r2 M2 => ((nI 0) = 0 ∨ (nI 0) = 1) ∧ Q (some (.int (nI 0))) M2))))) else (xgfR M l0 7 4 fun v3 => (xobj M v3 8 ∧ xEv xP (xprim sa) d m_Text_clauseOf [.ref v3, .int l1] M (xrI fun r3 M3 => if r3 = (-1 : Int32) then (xgfR M3 l0 7 4 fun v4 => (xgfI M3 v4 8 8 fun v5 => (if v5 < (nI 12) then (((nI 1) = 0 ∨ (nI 1) = 1) ∧ Q (some (.int (nI 1))) M3) else (xobj M3 l0 7 ∧ xEv xP (xprim sa) d m_Tape_wrong [.ref l0, .int (nI 5)] M3 (xrI fun r4 M4 => ((nI 0) = 0 ∨ (nI 0) = 1) ∧ Q (some (.int (nI 0))) M4))))) else (xobj M3 l0 7 ∧ xEv xP (xprim sa) d m_Tape_wrong [.ref l0, .int (nI 4)] M3 (xrI fun r5 M5 => ((nI 0) = 0 ∨ (nI 0) = 1) ∧ Q (some (.int (nI 0))) M5)))))) else (xobj M l0 7 ∧ xEv xP (xprim sa) d m_Tape_wrong [.ref l0, .int (nI 1)] M (xrI fun r6 M6 => ((nI 0) = 0 ∨ (nI 0) = 1) ∧ Q (some (.int (nI 0))) M6)))) : K_Tape_mayBegin sa d Q 0 [some (.ref l0), some (.int l1)] [] M u := by
  refine b_Tape_mayBegin_0 ?_
  refine xite_mono (fun h => ?_) (fun h => ?_) h
  · exact b_Tape_mayBegin_2 h
  · refine b_Tape_mayBegin_1 ?_
    refine xite_mono (fun h => ?_) (fun h => ?_) h
    · refine b_Tape_mayBegin_3 ?_
      refine xite_mono (fun h => ?_) (fun h => ?_) h
      · refine b_Tape_mayBegin_6 ?_
        refine xgfR_mono (fun _ h => ?_) h
        refine xgfI_mono (fun _ h => ?_) h
        refine xite_mono (fun h => ?_) (fun h => ?_) h
        · exact b_Tape_mayBegin_8 h
        · exact b_Tape_mayBegin_7 h
      · refine b_Tape_mayBegin_4 ?_
        refine xgfR_mono (fun _ h => ?_) h
        obtain ⟨hz, h⟩ := h
        refine ⟨hz, ?_⟩
        refine xEv_post' _ _ _ _ _ (xrI_mono (fun _ _ h => ?_)) h
        refine xite_mono (fun h => ?_) (fun h => ?_) h
        · refine b_Tape_mayBegin_6 ?_
          refine xgfR_mono (fun _ h => ?_) h
          refine xgfI_mono (fun _ h => ?_) h
          refine xite_mono (fun h => ?_) (fun h => ?_) h
          · exact b_Tape_mayBegin_8 h
          · exact b_Tape_mayBegin_7 h
        · exact b_Tape_mayBegin_5 h
    · exact b_Tape_mayBegin_2 h
theorem t_Tape_mayBegin {sa : Nat → Nat} {d : Nat} {Q : xQ} {l0 : Nat} {l1 : Int32} {M : xM} (h : if l1 < (nI 400) then (xobj M l0 7 ∧ xEv xP (xprim sa) d m_Tape_wrong [.ref l0, .int (nI 1)] M (xrI fun r1 M1 => ((nI 0) = 0 ∨ (nI 0) = 1) ∧ Q (some (.int (nI 0))) M1)) else (if l1 ≤ (nI 404) then (if l1 = (nI 404) then (xgfR M l0 7 4 fun v1 => (xgfI M v1 8 8 fun v2 => (if v2 < (nI 12) then (((nI 1) = 0 ∨ (nI 1) = 1) ∧ Q (some (.int (nI 1))) M) else (xobj M l0 7 ∧ xEv xP (xprim sa) d m_Tape_wrong [.ref l0, .int (nI 5)] M (xrI fun r2 M2 => ((nI 0) = 0 ∨ (nI 0) = 1) ∧ Q (some (.int (nI 0))) M2))))) else (xgfR M l0 7 4 fun v3 => (xobj M v3 8 ∧ xEv xP (xprim sa) d m_Text_clauseOf [.ref v3, .int l1] M (xrI fun r3 M3 => if r3 = (-1 : Int32) then (xgfR M3 l0 7 4 fun v4 => (xgfI M3 v4 8 8 fun v5 => (if v5 < (nI 12) then (((nI 1) = 0 ∨ (nI 1) = 1) ∧ Q (some (.int (nI 1))) M3) else (xobj M3 l0 7 ∧ xEv xP (xprim sa) d m_Tape_wrong [.ref l0, .int (nI 5)] M3 (xrI fun r4 M4 => ((nI 0) = 0 ∨ (nI 0) = 1) ∧ Q (some (.int (nI 0))) M4))))) else (xobj M3 l0 7 ∧ xEv xP (xprim sa) d m_Tape_wrong [.ref l0, .int (nI 4)] M3 (xrI fun r5 M5 => ((nI 0) = 0 ∨ (nI 0) = 1) ∧ Q (some (.int (nI 0))) M5)))))) else (xobj M l0 7 ∧ xEv xP (xprim sa) d m_Tape_wrong [.ref l0, .int (nI 1)] M (xrI fun r6 M6 => ((nI 0) = 0 ∨ (nI 0) = 1) ∧ Q (some (.int (nI 0))) M6)))) : xEv xP (xprim sa) (d + 1) m_Tape_mayBegin [.ref l0, .int l1] M Q := e_Tape_mayBegin (t_Tape_mayBegin_0 h)
set_option maxRecDepth 100000 in
theorem t_Tape_readEither_0 {sa : Nat → Nat} {d : Nat} {Q : xQ} {l0 : Nat} {l1 : Int32} {M : xM} {u : xU} (h : xobj M l0 7 ∧ xEv xP (xprim sa) d m_Tape_readBoth [.ref l0, .int l1] M (xrI fun r1 M1 => K_Tape_readEither sa d Q 1 [some (.ref l0), some (.int l1), some (.int r1), some (.int (nI 0))] [] M1 u)) : K_Tape_readEither sa d Q 0 [some (.ref l0), some (.int l1), none, none] [] M u := b_Tape_readEither_0 h
set_option maxRecDepth 100000 in
theorem t_Tape_readEither_1 {sa : Nat → Nat} {d : Nat} {Q : xQ} {l0 : Nat} {l1 : Int32} {l2 : Int32} {l3 : Int32} {M : xM} {u : xU} (h : if (nI 300) ≤ l3 then (Q (some (.int l2)) M) else (if l2 = (-1 : Int32) then (Q (some (.int l2)) M) else (xgfI M l0 7 5 fun v1 => (if ¬ v1 = (nI 407) then (Q (some (.int l2)) M) else (xobj M l0 7 ∧ xEv xP (xprim sa) d m_Tape_next [.ref l0] M (xrV fun M1 => xobj M1 l0 7 ∧ xEv xP (xprim sa) d m_Tape_readBoth [.ref l0, .int l1] M1 (xrI fun r1 M2 => xobj M2 l0 7 ∧ xEv xP (xprim sa) d m_Tape_pair [.ref l0, .int (nI 407), .int l2, .int r1] M2 (xrI fun r2 M3 => K_Tape_readEither sa d Q 1 [some (.ref l0), some (.int l1), some (.int r2), some (.int (l3 + (nI 1)))] [] M3 u)))))))) : K_Tape_readEither sa d Q 1 [some (.ref l0), some (.int l1), some (.int l2), some (.int l3)] [] M u := by
  refine b_Tape_readEither_1 ?_
  refine xite_mono (fun h => ?_) (fun h => ?_) h
  · exact b_Tape_readEither_5 h
  · refine b_Tape_readEither_2 ?_
    refine xite_mono (fun h => ?_) (fun h => ?_) h
    · exact b_Tape_readEither_5 h
    · refine b_Tape_readEither_3 ?_
      refine xgfI_mono (fun _ h => ?_) h
      refine xite_mono (fun h => ?_) (fun h => ?_) h
      · exact b_Tape_readEither_5 h
      · exact b_Tape_readEither_4 h
theorem t_Tape_readEither {sa : Nat → Nat} {d : Nat} {Q : xQ} {l0 : Nat} {l1 : Int32} {M : xM} (h : xobj M l0 7 ∧ xEv xP (xprim sa) d m_Tape_readBoth [.ref l0, .int l1] M (xrI fun r1 M1 => K_Tape_readEither sa d Q 1 [some (.ref l0), some (.int l1), some (.int r1), some (.int (nI 0))] [] M1 (0, 0))) : xEv xP (xprim sa) (d + 1) m_Tape_readEither [.ref l0, .int l1] M Q := e_Tape_readEither (t_Tape_readEither_0 h)
set_option maxRecDepth 100000 in
theorem t_Tape_readBoth_0 {sa : Nat → Nat} {d : Nat} {Q : xQ} {l0 : Nat} {l1 : Int32} {M : xM} {u : xU} (h : xobj M l0 7 ∧ xEv xP (xprim sa) d m_Tape_readAsk [.ref l0, .int l1] M (xrI fun r1 M1 => K_Tape_readBoth sa d Q 1 [some (.ref l0), some (.int l1), some (.int r1), some (.int (nI 0))] [] M1 u)) : K_Tape_readBoth sa d Q 0 [some (.ref l0), some (.int l1), none, none] [] M u := b_Tape_readBoth_0 h
set_option maxRecDepth 100000 in
theorem t_Tape_readBoth_1 {sa : Nat → Nat} {d : Nat} {Q : xQ} {l0 : Nat} {l1 : Int32} {l2 : Int32} {l3 : Int32} {M : xM} {u : xU} (h : if (nI 300) ≤ l3 then (Q (some (.int l2)) M) else (if l2 = (-1 : Int32) then (Q (some (.int l2)) M) else (xgfI M l0 7 5 fun v1 => (if ¬ v1 = (nI 408) then (Q (some (.int l2)) M) else (xobj M l0 7 ∧ xEv xP (xprim sa) d m_Tape_next [.ref l0] M (xrV fun M1 => xobj M1 l0 7 ∧ xEv xP (xprim sa) d m_Tape_readAsk [.ref l0, .int l1] M1 (xrI fun r1 M2 => xobj M2 l0 7 ∧ xEv xP (xprim sa) d m_Tape_pair [.ref l0, .int (nI 408), .int l2, .int r1] M2 (xrI fun r2 M3 => K_Tape_readBoth sa d Q 1 [some (.ref l0), some (.int l1), some (.int r2), some (.int (l3 + (nI 1)))] [] M3 u)))))))) : K_Tape_readBoth sa d Q 1 [some (.ref l0), some (.int l1), some (.int l2), some (.int l3)] [] M u := by
  refine b_Tape_readBoth_1 ?_
  refine xite_mono (fun h => ?_) (fun h => ?_) h
  · exact b_Tape_readBoth_5 h
  · refine b_Tape_readBoth_2 ?_
    refine xite_mono (fun h => ?_) (fun h => ?_) h
    · exact b_Tape_readBoth_5 h
    · refine b_Tape_readBoth_3 ?_
      refine xgfI_mono (fun _ h => ?_) h
      refine xite_mono (fun h => ?_) (fun h => ?_) h
      · exact b_Tape_readBoth_5 h
      · exact b_Tape_readBoth_4 h
theorem t_Tape_readBoth {sa : Nat → Nat} {d : Nat} {Q : xQ} {l0 : Nat} {l1 : Int32} {M : xM} (h : xobj M l0 7 ∧ xEv xP (xprim sa) d m_Tape_readAsk [.ref l0, .int l1] M (xrI fun r1 M1 => K_Tape_readBoth sa d Q 1 [some (.ref l0), some (.int l1), some (.int r1), some (.int (nI 0))] [] M1 (0, 0))) : xEv xP (xprim sa) (d + 1) m_Tape_readBoth [.ref l0, .int l1] M Q := e_Tape_readBoth (t_Tape_readBoth_0 h)
set_option maxRecDepth 100000 in
theorem t_Tape_readAsk_0 {sa : Nat → Nat} {d : Nat} {Q : xQ} {l0 : Nat} {l1 : Int32} {M : xM} {u : xU} (h : xgfI M l0 7 5 fun v1 => (if ¬ v1 = (nI 409) then (xobj M l0 7 ∧ xEv xP (xprim sa) d m_Tape_readSum [.ref l0, .int l1] M (xrI fun r1 M1 => if ¬ r1 = (-1 : Int32) then (xgfI M1 l0 7 5 fun v2 => (if v2 = (nI 60) then K_Tape_readAsk sa d Q 16 [some (.ref l0), some (.int l1), some (.int r1), some (.int v2)] [] M1 u else (if v2 = (nI 62) then K_Tape_readAsk sa d Q 16 [some (.ref l0), some (.int l1), some (.int r1), some (.int v2)] [] M1 u else (if v2 = (nI 61) then K_Tape_readAsk sa d Q 16 [some (.ref l0), some (.int l1), some (.int r1), some (.int v2)] [] M1 u else (if v2 = (nI 35) then K_Tape_readAsk sa d Q 16 [some (.ref l0), some (.int l1), some (.int r1), some (.int v2)] [] M1 u else (if v2 = (nI 301) then K_Tape_readAsk sa d Q 16 [some (.ref l0), some (.int l1), some (.int r1), some (.int v2)] [] M1 u else (if v2 = (nI 302) then K_Tape_readAsk sa d Q 16 [some (.ref l0), some (.int l1), some (.int r1), some (.int v2)] [] M1 u else (xobj M1 l0 7 ∧ xEv xP (xprim sa) d m_Tape_wrong [.ref l0, .int (nI 1)] M1 (xrI fun r2 M2 => Q (some (.int r2)) M2))))))))) else (Q (some (.int (-1 : Int32))) M1))) else (if l1 < (nI 8) then (xobj M l0 7 ∧ xEv xP (xprim sa) d m_Tape_next [.ref l0] M (xrV fun M3 => xobj M3 l0 7 ∧ xEv xP (xprim sa) d m_Tape_readAsk [.ref l0, .int (l1 + (nI 1))] M3 (xrI fun r3 M4 => if ¬ r3 = (-1 : Int32) then (xgfR M4 l0 7 4 fun v3 => (xobj M4 v3 8 ∧ xEv xP (xprim sa) d m_Text_add [.ref v3, .int (nI 409), .int r3, .int (nI 0), .int (nI 0)] M4 (xrI fun r4 M5 => Q (some (.int r4)) M5))) else (Q (some (.int (-1 : Int32))) M4)))) else (xobj M l0 7 ∧ xEv xP (xprim sa) d m_Tape_wrong [.ref l0, .int (nI 3)] M (xrI fun r5 M6 => Q (some (.int r5)) M6))))) : K_Tape_readAsk sa d Q 0 [some (.ref l0), some (.int l1), none, none] [] M u := by
  refine b_Tape_readAsk_0 ?_
  refine xgfI_mono (fun _ h => ?_) h
  refine xite_mono (fun h => ?_) (fun h => ?_) h
  · refine b_Tape_readAsk_7 ?_
    obtain ⟨hz, h⟩ := h
    refine ⟨hz, ?_⟩
    refine xEv_post' _ _ _ _ _ (xrI_mono (fun _ _ h => ?_)) h
    refine xite_mono (fun h => ?_) (fun h => ?_) h
    · refine b_Tape_readAsk_9 ?_
      refine xgfI_mono (fun _ h => ?_) h
      refine xite_mono (fun h => ?_) (fun h => ?_) h
      · exact h
      · refine b_Tape_readAsk_10 ?_
        refine xite_mono (fun h => ?_) (fun h => ?_) h
        · exact h
        · refine b_Tape_readAsk_11 ?_
          refine xite_mono (fun h => ?_) (fun h => ?_) h
          · exact h
          · refine b_Tape_readAsk_12 ?_
            refine xite_mono (fun h => ?_) (fun h => ?_) h
            · exact h
            · refine b_Tape_readAsk_13 ?_
              refine xite_mono (fun h => ?_) (fun h => ?_) h
              · exact h
              · refine b_Tape_readAsk_14 ?_
                refine xite_mono (fun h => ?_) (fun h => ?_) h
                · exact h
                · exact b_Tape_readAsk_15 h
    · exact b_Tape_readAsk_8 h
  · refine b_Tape_readAsk_1 ?_
    refine xite_mono (fun h => ?_) (fun h => ?_) h
    · refine b_Tape_readAsk_3 ?_
      obtain ⟨hz, h⟩ := h
      refine ⟨hz, ?_⟩
      refine xEv_post' _ _ _ _ _ (xrV_mono (fun _ h => ?_)) h
      obtain ⟨hz, h⟩ := h
      refine ⟨hz, ?_⟩
      refine xEv_post' _ _ _ _ _ (xrI_mono (fun _ _ h => ?_)) h
      refine xite_mono (fun h => ?_) (fun h => ?_) h
      · refine b_Tape_readAsk_5 ?_
        refine xgfR_mono (fun _ h => ?_) h
        obtain ⟨hz, h⟩ := h
        refine ⟨hz, ?_⟩
        refine xEv_post' _ _ _ _ _ (xrI_mono (fun _ _ h => ?_)) h
        exact b_Tape_readAsk_6 h
      · refine b_Tape_readAsk_4 ?_
        exact b_Tape_readAsk_6 h
    · exact b_Tape_readAsk_2 h
set_option maxRecDepth 100000 in
theorem t_Tape_readAsk_16 {sa : Nat → Nat} {d : Nat} {Q : xQ} {l0 : Nat} {l1 : Int32} {l2 : Int32} {l3 : Int32} {M : xM} {u : xU} (h : xobj M l0 7 ∧ xEv xP (xprim sa) d m_Tape_next [.ref l0] M (xrV fun M1 => xobj M1 l0 7 ∧ xEv xP (xprim sa) d m_Tape_readSum [.ref l0, .int l1] M1 (xrI fun r1 M2 => xobj M2 l0 7 ∧ xEv xP (xprim sa) d m_Tape_pair [.ref l0, .int l3, .int l2, .int r1] M2 (xrI fun r2 M3 => Q (some (.int r2)) M3)))) : K_Tape_readAsk sa d Q 16 [some (.ref l0), some (.int l1), some (.int l2), some (.int l3)] [] M u := b_Tape_readAsk_16 h
theorem t_Tape_readAsk {sa : Nat → Nat} {d : Nat} {Q : xQ} {l0 : Nat} {l1 : Int32} {M : xM} (h : xgfI M l0 7 5 fun v1 => (if ¬ v1 = (nI 409) then (xobj M l0 7 ∧ xEv xP (xprim sa) d m_Tape_readSum [.ref l0, .int l1] M (xrI fun r1 M1 => if ¬ r1 = (-1 : Int32) then (xgfI M1 l0 7 5 fun v2 => (if v2 = (nI 60) then K_Tape_readAsk sa d Q 16 [some (.ref l0), some (.int l1), some (.int r1), some (.int v2)] [] M1 (0, 0) else (if v2 = (nI 62) then K_Tape_readAsk sa d Q 16 [some (.ref l0), some (.int l1), some (.int r1), some (.int v2)] [] M1 (0, 0) else (if v2 = (nI 61) then K_Tape_readAsk sa d Q 16 [some (.ref l0), some (.int l1), some (.int r1), some (.int v2)] [] M1 (0, 0) else (if v2 = (nI 35) then K_Tape_readAsk sa d Q 16 [some (.ref l0), some (.int l1), some (.int r1), some (.int v2)] [] M1 (0, 0) else (if v2 = (nI 301) then K_Tape_readAsk sa d Q 16 [some (.ref l0), some (.int l1), some (.int r1), some (.int v2)] [] M1 (0, 0) else (if v2 = (nI 302) then K_Tape_readAsk sa d Q 16 [some (.ref l0), some (.int l1), some (.int r1), some (.int v2)] [] M1 (0, 0) else (xobj M1 l0 7 ∧ xEv xP (xprim sa) d m_Tape_wrong [.ref l0, .int (nI 1)] M1 (xrI fun r2 M2 => Q (some (.int r2)) M2))))))))) else (Q (some (.int (-1 : Int32))) M1))) else (if l1 < (nI 8) then (xobj M l0 7 ∧ xEv xP (xprim sa) d m_Tape_next [.ref l0] M (xrV fun M3 => xobj M3 l0 7 ∧ xEv xP (xprim sa) d m_Tape_readAsk [.ref l0, .int (l1 + (nI 1))] M3 (xrI fun r3 M4 => if ¬ r3 = (-1 : Int32) then (xgfR M4 l0 7 4 fun v3 => (xobj M4 v3 8 ∧ xEv xP (xprim sa) d m_Text_add [.ref v3, .int (nI 409), .int r3, .int (nI 0), .int (nI 0)] M4 (xrI fun r4 M5 => Q (some (.int r4)) M5))) else (Q (some (.int (-1 : Int32))) M4)))) else (xobj M l0 7 ∧ xEv xP (xprim sa) d m_Tape_wrong [.ref l0, .int (nI 3)] M (xrI fun r5 M6 => Q (some (.int r5)) M6))))) : xEv xP (xprim sa) (d + 1) m_Tape_readAsk [.ref l0, .int l1] M Q := e_Tape_readAsk (t_Tape_readAsk_0 h)
set_option maxRecDepth 100000 in
theorem t_Tape_readSum_0 {sa : Nat → Nat} {d : Nat} {Q : xQ} {l0 : Nat} {l1 : Int32} {M : xM} {u : xU} (h : xobj M l0 7 ∧ xEv xP (xprim sa) d m_Tape_readProduct [.ref l0, .int l1] M (xrI fun r1 M1 => K_Tape_readSum sa d Q 1 [some (.ref l0), some (.int l1), some (.int r1), some (.int (nI 0)), none] [] M1 u)) : K_Tape_readSum sa d Q 0 [some (.ref l0), some (.int l1), none, none, none] [] M u := b_Tape_readSum_0 h
set_option maxRecDepth 100000 in
theorem t_Tape_readSum_1 {sa : Nat → Nat} {d : Nat} {Q : xQ} {l0 : Nat} {l1 : Int32} {l2 : Int32} {l3 : Int32} {M : xM} {u : xU} (h : if (nI 300) ≤ l3 then (Q (some (.int l2)) M) else (if l2 = (-1 : Int32) then (Q (some (.int l2)) M) else (xgfI M l0 7 5 fun v1 => (if v1 = (nI 43) then (xgfI M l0 7 5 fun v2 => (xobj M l0 7 ∧ xEv xP (xprim sa) d m_Tape_next [.ref l0] M (xrV fun M1 => xobj M1 l0 7 ∧ xEv xP (xprim sa) d m_Tape_readProduct [.ref l0, .int l1] M1 (xrI fun r1 M2 => xobj M2 l0 7 ∧ xEv xP (xprim sa) d m_Tape_pair [.ref l0, .int v2, .int l2, .int r1] M2 (xrI fun r2 M3 => K_Tape_readSum sa d Q 1 [some (.ref l0), some (.int l1), some (.int r2), some (.int (l3 + (nI 1))), none] [] M3 u))))) else (xgfI M l0 7 5 fun v3 => (if ¬ v3 = (nI 45) then (Q (some (.int l2)) M) else (xgfI M l0 7 5 fun v4 => (xobj M l0 7 ∧ xEv xP (xprim sa) d m_Tape_next [.ref l0] M (xrV fun M4 => xobj M4 l0 7 ∧ xEv xP (xprim sa) d m_Tape_readProduct [.ref l0, .int l1] M4 (xrI fun r3 M5 => xobj M5 l0 7 ∧ xEv xP (xprim sa) d m_Tape_pair [.ref l0, .int v4, .int l2, .int r3] M5 (xrI fun r4 M6 => K_Tape_readSum sa d Q 1 [some (.ref l0), some (.int l1), some (.int r4), some (.int (l3 + (nI 1))), none] [] M6 u))))))))))) : K_Tape_readSum sa d Q 1 [some (.ref l0), some (.int l1), some (.int l2), some (.int l3), none] [] M u := by
  refine b_Tape_readSum_1 ?_
  refine xite_mono (fun h => ?_) (fun h => ?_) h
  · exact b_Tape_readSum_6 h
  · refine b_Tape_readSum_2 ?_
    refine xite_mono (fun h => ?_) (fun h => ?_) h
    · exact b_Tape_readSum_6 h
    · refine b_Tape_readSum_3 ?_
      refine xgfI_mono (fun _ h => ?_) h
      refine xite_mono (fun h => ?_) (fun h => ?_) h
      · exact b_Tape_readSum_5 h
      · refine b_Tape_readSum_4 ?_
        refine xgfI_mono (fun _ h => ?_) h
        refine xite_mono (fun h => ?_) (fun h => ?_) h
        · exact b_Tape_readSum_6 h
        · exact b_Tape_readSum_5 h
theorem t_Tape_readSum {sa : Nat → Nat} {d : Nat} {Q : xQ} {l0 : Nat} {l1 : Int32} {M : xM} (h : xobj M l0 7 ∧ xEv xP (xprim sa) d m_Tape_readProduct [.ref l0, .int l1] M (xrI fun r1 M1 => K_Tape_readSum sa d Q 1 [some (.ref l0), some (.int l1), some (.int r1), some (.int (nI 0)), none] [] M1 (0, 0))) : xEv xP (xprim sa) (d + 1) m_Tape_readSum [.ref l0, .int l1] M Q := e_Tape_readSum (t_Tape_readSum_0 h)
set_option maxRecDepth 100000 in
theorem t_Tape_readProduct_0 {sa : Nat → Nat} {d : Nat} {Q : xQ} {l0 : Nat} {l1 : Int32} {M : xM} {u : xU} (h : xobj M l0 7 ∧ xEv xP (xprim sa) d m_Tape_readOne [.ref l0, .int l1] M (xrI fun r1 M1 => K_Tape_readProduct sa d Q 1 [some (.ref l0), some (.int l1), some (.int r1), some (.int (nI 0)), none] [] M1 u)) : K_Tape_readProduct sa d Q 0 [some (.ref l0), some (.int l1), none, none, none] [] M u := b_Tape_readProduct_0 h
set_option maxRecDepth 100000 in
theorem t_Tape_readProduct_1 {sa : Nat → Nat} {d : Nat} {Q : xQ} {l0 : Nat} {l1 : Int32} {l2 : Int32} {l3 : Int32} {M : xM} {u : xU} (h : if (nI 300) ≤ l3 then (Q (some (.int l2)) M) else (if l2 = (-1 : Int32) then (Q (some (.int l2)) M) else (xgfI M l0 7 5 fun v1 => (if v1 = (nI 42) then (xgfI M l0 7 5 fun v2 => (xobj M l0 7 ∧ xEv xP (xprim sa) d m_Tape_next [.ref l0] M (xrV fun M1 => xobj M1 l0 7 ∧ xEv xP (xprim sa) d m_Tape_readOne [.ref l0, .int l1] M1 (xrI fun r1 M2 => xobj M2 l0 7 ∧ xEv xP (xprim sa) d m_Tape_pair [.ref l0, .int v2, .int l2, .int r1] M2 (xrI fun r2 M3 => K_Tape_readProduct sa d Q 1 [some (.ref l0), some (.int l1), some (.int r2), some (.int (l3 + (nI 1))), none] [] M3 u))))) else (xgfI M l0 7 5 fun v3 => (if ¬ v3 = (nI 47) then (Q (some (.int l2)) M) else (xgfI M l0 7 5 fun v4 => (xobj M l0 7 ∧ xEv xP (xprim sa) d m_Tape_next [.ref l0] M (xrV fun M4 => xobj M4 l0 7 ∧ xEv xP (xprim sa) d m_Tape_readOne [.ref l0, .int l1] M4 (xrI fun r3 M5 => xobj M5 l0 7 ∧ xEv xP (xprim sa) d m_Tape_pair [.ref l0, .int v4, .int l2, .int r3] M5 (xrI fun r4 M6 => K_Tape_readProduct sa d Q 1 [some (.ref l0), some (.int l1), some (.int r4), some (.int (l3 + (nI 1))), none] [] M6 u))))))))))) : K_Tape_readProduct sa d Q 1 [some (.ref l0), some (.int l1), some (.int l2), some (.int l3), none] [] M u := by
  refine b_Tape_readProduct_1 ?_
  refine xite_mono (fun h => ?_) (fun h => ?_) h
  · exact b_Tape_readProduct_6 h
  · refine b_Tape_readProduct_2 ?_
    refine xite_mono (fun h => ?_) (fun h => ?_) h
    · exact b_Tape_readProduct_6 h
    · refine b_Tape_readProduct_3 ?_
      refine xgfI_mono (fun _ h => ?_) h
      refine xite_mono (fun h => ?_) (fun h => ?_) h
      · exact b_Tape_readProduct_5 h
      · refine b_Tape_readProduct_4 ?_
        refine xgfI_mono (fun _ h => ?_) h
        refine xite_mono (fun h => ?_) (fun h => ?_) h
        · exact b_Tape_readProduct_6 h
        · exact b_Tape_readProduct_5 h
theorem t_Tape_readProduct {sa : Nat → Nat} {d : Nat} {Q : xQ} {l0 : Nat} {l1 : Int32} {M : xM} (h : xobj M l0 7 ∧ xEv xP (xprim sa) d m_Tape_readOne [.ref l0, .int l1] M (xrI fun r1 M1 => K_Tape_readProduct sa d Q 1 [some (.ref l0), some (.int l1), some (.int r1), some (.int (nI 0)), none] [] M1 (0, 0))) : xEv xP (xprim sa) (d + 1) m_Tape_readProduct [.ref l0, .int l1] M Q := e_Tape_readProduct (t_Tape_readProduct_0 h)
set_option maxRecDepth 100000 in
theorem t_Tape_readOne_0 {sa : Nat → Nat} {d : Nat} {Q : xQ} {l0 : Nat} {l1 : Int32} {M : xM} {u : xU} (h : xgfI M l0 7 5 fun v1 => (xgfI M l0 7 8 fun v2 => (if v1 = (nI 40) then K_Tape_readOne sa d Q 3 [some (.ref l0), some (.int l1), some (.int v1), some (.int v2), none, none] [] M u else (if v1 = (nI 45) then K_Tape_readOne sa d Q 3 [some (.ref l0), some (.int l1), some (.int v1), some (.int v2), none, none] [] M u else (if ¬ v1 = (nI 405) then K_Tape_readOne sa d Q 5 [some (.ref l0), some (.int l1), some (.int v1), some (.int v2), none, none] [.int (nI 0)] M u else K_Tape_readOne sa d Q 3 [some (.ref l0), some (.int l1), some (.int v1), some (.int v2), none, none] [] M u))))) : K_Tape_readOne sa d Q 0 [some (.ref l0), some (.int l1), none, none, none, none] [] M u := by
  refine b_Tape_readOne_0 ?_
  refine xgfI_mono (fun _ h => ?_) h
  refine xgfI_mono (fun _ h => ?_) h
  refine xite_mono (fun h => ?_) (fun h => ?_) h
  · exact h
  · refine b_Tape_readOne_1 ?_
    refine xite_mono (fun h => ?_) (fun h => ?_) h
    · exact h
    · refine b_Tape_readOne_2 ?_
      refine xite_mono (fun h => ?_) (fun h => ?_) h
      · exact b_Tape_readOne_4 h
      · exact h
set_option maxRecDepth 100000 in
theorem t_Tape_readOne_3 {sa : Nat → Nat} {d : Nat} {Q : xQ} {l0 : Nat} {l1 : Int32} {l2 : Int32} {l3 : Int32} {M : xM} {u : xU} (h : K_Tape_readOne sa d Q 5 [some (.ref l0), some (.int l1), some (.int l2), some (.int l3), none, none] [.int (nI 1)] M u) : K_Tape_readOne sa d Q 3 [some (.ref l0), some (.int l1), some (.int l2), some (.int l3), none, none] [] M u := b_Tape_readOne_3 h
set_option maxRecDepth 100000 in
theorem t_Tape_readOne_5 {sa : Nat → Nat} {d : Nat} {Q : xQ} {l0 : Nat} {l1 : Int32} {l2 : Int32} {l3 : Int32} {s0 : Int32} {M : xM} {u : xU} (h : if ¬ l2 = (nI 300) then K_Tape_readOne sa d Q 8 [some (.ref l0), some (.int l1), some (.int l2), some (.int l3), some (.int s0), none] [] M u else (if l3 ≤ (nI 9999) then K_Tape_readOne sa d Q 8 [some (.ref l0), some (.int l1), some (.int l2), some (.int l3), some (.int s0), none] [] M u else (xobj M l0 7 ∧ xEv xP (xprim sa) d m_Tape_wrong [.ref l0, .int (nI 2)] M (xrI fun r1 M1 => Q (some (.int r1)) M1)))) : K_Tape_readOne sa d Q 5 [some (.ref l0), some (.int l1), some (.int l2), some (.int l3), none, none] [.int s0] M u := by
  refine b_Tape_readOne_5 ?_
  refine xite_mono (fun h => ?_) (fun h => ?_) h
  · exact h
  · refine b_Tape_readOne_6 ?_
    refine xite_mono (fun h => ?_) (fun h => ?_) h
    · exact h
    · exact b_Tape_readOne_7 h
set_option maxRecDepth 100000 in
theorem t_Tape_readOne_8 {sa : Nat → Nat} {d : Nat} {Q : xQ} {l0 : Nat} {l1 : Int32} {l2 : Int32} {l3 : Int32} {l4 : Int32} {M : xM} {u : xU} (h : if l4 = 0 then K_Tape_readOne sa d Q 11 [some (.ref l0), some (.int l1), some (.int l2), some (.int l3), some (.int l4), none] [] M u else (if l1 < (nI 8) then K_Tape_readOne sa d Q 11 [some (.ref l0), some (.int l1), some (.int l2), some (.int l3), some (.int l4), none] [] M u else (xobj M l0 7 ∧ xEv xP (xprim sa) d m_Tape_wrong [.ref l0, .int (nI 3)] M (xrI fun r1 M1 => Q (some (.int r1)) M1)))) : K_Tape_readOne sa d Q 8 [some (.ref l0), some (.int l1), some (.int l2), some (.int l3), some (.int l4), none] [] M u := by
  refine b_Tape_readOne_8 ?_
  refine xite_mono (fun h => ?_) (fun h => ?_) h
  · exact h
  · refine b_Tape_readOne_9 ?_
    refine xite_mono (fun h => ?_) (fun h => ?_) h
    · exact h
    · exact b_Tape_readOne_10 h
set_option maxRecDepth 100000 in
theorem t_Tape_readOne_11 {sa : Nat → Nat} {d : Nat} {Q : xQ} {l0 : Nat} {l1 : Int32} {l2 : Int32} {l3 : Int32} {l4 : Int32} {M : xM} {u : xU} (h : if ¬ l4 = 0 then K_Tape_readOne sa d Q 16 [some (.ref l0), some (.int l1), some (.int l2), some (.int l3), some (.int l4), none] [] M u else (if l2 = (nI 300) then K_Tape_readOne sa d Q 16 [some (.ref l0), some (.int l1), some (.int l2), some (.int l3), some (.int l4), none] [] M u else (if l2 < (nI 410) then (xobj M l0 7 ∧ xEv xP (xprim sa) d m_Tape_wrong [.ref l0, .int (nI 1)] M (xrI fun r1 M1 => Q (some (.int r1)) M1)) else (if l2 ≤ (nI 417) then K_Tape_readOne sa d Q 16 [some (.ref l0), some (.int l1), some (.int l2), some (.int l3), some (.int l4), none] [] M u else (xobj M l0 7 ∧ xEv xP (xprim sa) d m_Tape_wrong [.ref l0, .int (nI 1)] M (xrI fun r2 M2 => Q (some (.int r2)) M2)))))) : K_Tape_readOne sa d Q 11 [some (.ref l0), some (.int l1), some (.int l2), some (.int l3), some (.int l4), none] [] M u := by
  refine b_Tape_readOne_11 ?_
  refine xite_mono (fun h => ?_) (fun h => ?_) h
  · exact h
  · refine b_Tape_readOne_12 ?_
    refine xite_mono (fun h => ?_) (fun h => ?_) h
    · exact h
    · refine b_Tape_readOne_13 ?_
      refine xite_mono (fun h => ?_) (fun h => ?_) h
      · exact b_Tape_readOne_15 h
      · refine b_Tape_readOne_14 ?_
        refine xite_mono (fun h => ?_) (fun h => ?_) h
        · exact h
        · exact b_Tape_readOne_15 h
set_option maxRecDepth 100000 in
theorem t_Tape_readOne_16 {sa : Nat → Nat} {d : Nat} {Q : xQ} {l0 : Nat} {l1 : Int32} {l2 : Int32} {l3 : Int32} {l4 : Int32} {M : xM} {u : xU} (h : xobj M l0 7 ∧ xEv xP (xprim sa) d m_Tape_next [.ref l0] M (xrV fun M1 => if ¬ l4 = 0 then (if ¬ l2 = (nI 405) then (if ¬ l2 = (nI 45) then (xobj M1 l0 7 ∧ xEv xP (xprim sa) d m_Tape_readSum [.ref l0, .int (l1 + (nI 1))] M1 (xrI fun r1 M2 => if r1 = (-1 : Int32) then (Q (some (.int (-1 : Int32))) M2) else (xobj M2 l0 7 ∧ xEv xP (xprim sa) d m_Tape_isPassed [.ref l0, .int (nI 41)] M2 (xrI fun r2 M3 => if r2 = 0 then (Q (some (.int (-1 : Int32))) M3) else (Q (some (.int r1)) M3))))) else (xobj M1 l0 7 ∧ xEv xP (xprim sa) d m_Tape_readOne [.ref l0, .int (l1 + (nI 1))] M1 (xrI fun r3 M4 => if ¬ r3 = (-1 : Int32) then (xgfR M4 l0 7 4 fun v1 => (xobj M4 v1 8 ∧ xEv xP (xprim sa) d m_Text_add [.ref v1, .int (nI 603), .int r3, .int (nI 0), .int (nI 0)] M4 (xrI fun r4 M5 => Q (some (.int r4)) M5))) else (Q (some (.int (-1 : Int32))) M4)))) else (xobj M1 l0 7 ∧ xEv xP (xprim sa) d m_Tape_readChoice [.ref l0, .int (l1 + (nI 1))] M1 (xrI fun r5 M6 => Q (some (.int r5)) M6))) else (xgfR M1 l0 7 4 fun v2 => (xobj M1 v2 8 ∧ xEv xP (xprim sa) d m_Text_add [.ref v2, .int l2, .int l3, .int (nI 0), .int (nI 0)] M1 (xrI fun r6 M7 => Q (some (.int r6)) M7))))) : K_Tape_readOne sa d Q 16 [some (.ref l0), some (.int l1), some (.int l2), some (.int l3), some (.int l4), none] [] M u := by
  refine b_Tape_readOne_16 ?_
  obtain ⟨hz, h⟩ := h
  refine ⟨hz, ?_⟩
  refine xEv_post' _ _ _ _ _ (xrV_mono (fun _ h => ?_)) h
  refine xite_mono (fun h => ?_) (fun h => ?_) h
  · refine b_Tape_readOne_18 ?_
    refine xite_mono (fun h => ?_) (fun h => ?_) h
    · refine b_Tape_readOne_20 ?_
      refine xite_mono (fun h => ?_) (fun h => ?_) h
      · refine b_Tape_readOne_25 ?_
        obtain ⟨hz, h⟩ := h
        refine ⟨hz, ?_⟩
        refine xEv_post' _ _ _ _ _ (xrI_mono (fun _ _ h => ?_)) h
        refine xite_mono (fun h => ?_) (fun h => ?_) h
        · refine b_Tape_readOne_28 ?_
          exact b_Tape_readOne_29 h
        · refine b_Tape_readOne_26 ?_
          obtain ⟨hz, h⟩ := h
          refine ⟨hz, ?_⟩
          refine xEv_post' _ _ _ _ _ (xrI_mono (fun _ _ h => ?_)) h
          refine xite_mono (fun h => ?_) (fun h => ?_) h
          · refine b_Tape_readOne_28 ?_
            exact b_Tape_readOne_29 h
          · refine b_Tape_readOne_27 ?_
            exact b_Tape_readOne_29 h
      · refine b_Tape_readOne_21 ?_
        obtain ⟨hz, h⟩ := h
        refine ⟨hz, ?_⟩
        refine xEv_post' _ _ _ _ _ (xrI_mono (fun _ _ h => ?_)) h
        refine xite_mono (fun h => ?_) (fun h => ?_) h
        · refine b_Tape_readOne_23 ?_
          refine xgfR_mono (fun _ h => ?_) h
          obtain ⟨hz, h⟩ := h
          refine ⟨hz, ?_⟩
          refine xEv_post' _ _ _ _ _ (xrI_mono (fun _ _ h => ?_)) h
          exact b_Tape_readOne_24 h
        · refine b_Tape_readOne_22 ?_
          exact b_Tape_readOne_24 h
    · exact b_Tape_readOne_19 h
  · exact b_Tape_readOne_17 h
theorem t_Tape_readOne {sa : Nat → Nat} {d : Nat} {Q : xQ} {l0 : Nat} {l1 : Int32} {M : xM} (h : xgfI M l0 7 5 fun v1 => (xgfI M l0 7 8 fun v2 => (if v1 = (nI 40) then K_Tape_readOne sa d Q 3 [some (.ref l0), some (.int l1), some (.int v1), some (.int v2), none, none] [] M (0, 0) else (if v1 = (nI 45) then K_Tape_readOne sa d Q 3 [some (.ref l0), some (.int l1), some (.int v1), some (.int v2), none, none] [] M (0, 0) else (if ¬ v1 = (nI 405) then K_Tape_readOne sa d Q 5 [some (.ref l0), some (.int l1), some (.int v1), some (.int v2), none, none] [.int (nI 0)] M (0, 0) else K_Tape_readOne sa d Q 3 [some (.ref l0), some (.int l1), some (.int v1), some (.int v2), none, none] [] M (0, 0)))))) : xEv xP (xprim sa) (d + 1) m_Tape_readOne [.ref l0, .int l1] M Q := e_Tape_readOne (t_Tape_readOne_0 h)
set_option maxRecDepth 100000 in
theorem t_Tape_readChoice_0 {sa : Nat → Nat} {d : Nat} {Q : xQ} {l0 : Nat} {l1 : Int32} {M : xM} {u : xU} (h : xobj M l0 7 ∧ xEv xP (xprim sa) d m_Tape_readEither [.ref l0, .int l1] M (xrI fun r1 M1 => if r1 = (-1 : Int32) then (Q (some (.int (-1 : Int32))) M1) else (xobj M1 l0 7 ∧ xEv xP (xprim sa) d m_Tape_isPassed [.ref l0, .int (nI 63)] M1 (xrI fun r2 M2 => if ¬ r2 = 0 then (xgfR M2 l0 7 4 fun v1 => (xobj M2 v1 8 ∧ xEv xP (xprim sa) d m_Text_add [.ref v1, .int (nI 600), .int r1, .int (nI 0), .int (nI 0)] M2 (xrI fun r3 M3 => xobj M3 l0 7 ∧ xEv xP (xprim sa) d m_Tape_readSum [.ref l0, .int l1] M3 (xrI fun r4 M4 => if r4 = (-1 : Int32) then (Q (some (.int (-1 : Int32))) M4) else (xobj M4 l0 7 ∧ xEv xP (xprim sa) d m_Tape_isPassed [.ref l0, .int (nI 58)] M4 (xrI fun r5 M5 => if ¬ r5 = 0 then (xgfR M5 l0 7 4 fun v2 => (xobj M5 v2 8 ∧ xEv xP (xprim sa) d m_Text_add [.ref v2, .int (nI 601), .int (nI 0), .int (nI 0), .int (nI 0)] M5 (xrI fun r6 M6 => xgfR M6 l0 7 4 fun v3 => (xobj M6 v3 8 ∧ xEv xP (xprim sa) d m_Text_skipFrom [.ref v3, .int r3, .int (r6 - r3)] M6 (xrV fun M7 => xobj M7 l0 7 ∧ xEv xP (xprim sa) d m_Tape_readSum [.ref l0, .int l1] M7 (xrI fun r7 M8 => if r7 = (-1 : Int32) then (Q (some (.int (-1 : Int32))) M8) else (xobj M8 l0 7 ∧ xEv xP (xprim sa) d m_Tape_isPassed [.ref l0, .int (nI 406)] M8 (xrI fun r8 M9 => if ¬ r8 = 0 then (xgfR M9 l0 7 4 fun v4 => (xobj M9 v4 8 ∧ xEv xP (xprim sa) d m_Text_skipFrom [.ref v4, .int r6, .int (r7 - r6)] M9 (xrV fun M10 => xgfR M10 l0 7 4 fun v5 => (xobj M10 v5 8 ∧ xEv xP (xprim sa) d m_Text_add [.ref v5, .int (nI 602), .int r1, .int r4, .int r7] M10 (xrI fun r9 M11 => Q (some (.int r9)) M11))))) else (Q (some (.int (-1 : Int32))) M9))))))))) else (Q (some (.int (-1 : Int32))) M5))))))) else (Q (some (.int (-1 : Int32))) M2))))) : K_Tape_readChoice sa d Q 0 [some (.ref l0), some (.int l1), none, none, none, none, none] [] M u := by
  refine b_Tape_readChoice_0 ?_
  obtain ⟨hz, h⟩ := h
  refine ⟨hz, ?_⟩
  refine xEv_post' _ _ _ _ _ (xrI_mono (fun _ _ h => ?_)) h
  refine xite_mono (fun h => ?_) (fun h => ?_) h
  · exact b_Tape_readChoice_2 h
  · refine b_Tape_readChoice_1 ?_
    obtain ⟨hz, h⟩ := h
    refine ⟨hz, ?_⟩
    refine xEv_post' _ _ _ _ _ (xrI_mono (fun _ _ h => ?_)) h
    refine xite_mono (fun h => ?_) (fun h => ?_) h
    · refine b_Tape_readChoice_3 ?_
      refine xgfR_mono (fun _ h => ?_) h
      obtain ⟨hz, h⟩ := h
      refine ⟨hz, ?_⟩
      refine xEv_post' _ _ _ _ _ (xrI_mono (fun _ _ h => ?_)) h
      obtain ⟨hz, h⟩ := h
      refine ⟨hz, ?_⟩
      refine xEv_post' _ _ _ _ _ (xrI_mono (fun _ _ h => ?_)) h
      refine xite_mono (fun h => ?_) (fun h => ?_) h
      · exact b_Tape_readChoice_5 h
      · refine b_Tape_readChoice_4 ?_
        obtain ⟨hz, h⟩ := h
        refine ⟨hz, ?_⟩
        refine xEv_post' _ _ _ _ _ (xrI_mono (fun _ _ h => ?_)) h
        refine xite_mono (fun h => ?_) (fun h => ?_) h
        · refine b_Tape_readChoice_6 ?_
          refine xgfR_mono (fun _ h => ?_) h
          obtain ⟨hz, h⟩ := h
          refine ⟨hz, ?_⟩
          refine xEv_post' _ _ _ _ _ (xrI_mono (fun _ _ h => ?_)) h
          refine xgfR_mono (fun _ h => ?_) h
          obtain ⟨hz, h⟩ := h
          refine ⟨hz, ?_⟩
          refine xEv_post' _ _ _ _ _ (xrV_mono (fun _ h => ?_)) h
          obtain ⟨hz, h⟩ := h
          refine ⟨hz, ?_⟩
          refine xEv_post' _ _ _ _ _ (xrI_mono (fun _ _ h => ?_)) h
          refine xite_mono (fun h => ?_) (fun h => ?_) h
          · exact b_Tape_readChoice_8 h
          · refine b_Tape_readChoice_7 ?_
            obtain ⟨hz, h⟩ := h
            refine ⟨hz, ?_⟩
            refine xEv_post' _ _ _ _ _ (xrI_mono (fun _ _ h => ?_)) h
            refine xite_mono (fun h => ?_) (fun h => ?_) h
            · exact b_Tape_readChoice_9 h
            · exact b_Tape_readChoice_8 h
        · exact b_Tape_readChoice_5 h
    · exact b_Tape_readChoice_2 h
theorem t_Tape_readChoice {sa : Nat → Nat} {d : Nat} {Q : xQ} {l0 : Nat} {l1 : Int32} {M : xM} (h : xobj M l0 7 ∧ xEv xP (xprim sa) d m_Tape_readEither [.ref l0, .int l1] M (xrI fun r1 M1 => if r1 = (-1 : Int32) then (Q (some (.int (-1 : Int32))) M1) else (xobj M1 l0 7 ∧ xEv xP (xprim sa) d m_Tape_isPassed [.ref l0, .int (nI 63)] M1 (xrI fun r2 M2 => if ¬ r2 = 0 then (xgfR M2 l0 7 4 fun v1 => (xobj M2 v1 8 ∧ xEv xP (xprim sa) d m_Text_add [.ref v1, .int (nI 600), .int r1, .int (nI 0), .int (nI 0)] M2 (xrI fun r3 M3 => xobj M3 l0 7 ∧ xEv xP (xprim sa) d m_Tape_readSum [.ref l0, .int l1] M3 (xrI fun r4 M4 => if r4 = (-1 : Int32) then (Q (some (.int (-1 : Int32))) M4) else (xobj M4 l0 7 ∧ xEv xP (xprim sa) d m_Tape_isPassed [.ref l0, .int (nI 58)] M4 (xrI fun r5 M5 => if ¬ r5 = 0 then (xgfR M5 l0 7 4 fun v2 => (xobj M5 v2 8 ∧ xEv xP (xprim sa) d m_Text_add [.ref v2, .int (nI 601), .int (nI 0), .int (nI 0), .int (nI 0)] M5 (xrI fun r6 M6 => xgfR M6 l0 7 4 fun v3 => (xobj M6 v3 8 ∧ xEv xP (xprim sa) d m_Text_skipFrom [.ref v3, .int r3, .int (r6 - r3)] M6 (xrV fun M7 => xobj M7 l0 7 ∧ xEv xP (xprim sa) d m_Tape_readSum [.ref l0, .int l1] M7 (xrI fun r7 M8 => if r7 = (-1 : Int32) then (Q (some (.int (-1 : Int32))) M8) else (xobj M8 l0 7 ∧ xEv xP (xprim sa) d m_Tape_isPassed [.ref l0, .int (nI 406)] M8 (xrI fun r8 M9 => if ¬ r8 = 0 then (xgfR M9 l0 7 4 fun v4 => (xobj M9 v4 8 ∧ xEv xP (xprim sa) d m_Text_skipFrom [.ref v4, .int r6, .int (r7 - r6)] M9 (xrV fun M10 => xgfR M10 l0 7 4 fun v5 => (xobj M10 v5 8 ∧ xEv xP (xprim sa) d m_Text_add [.ref v5, .int (nI 602), .int r1, .int r4, .int r7] M10 (xrI fun r9 M11 => Q (some (.int r9)) M11))))) else (Q (some (.int (-1 : Int32))) M9))))))))) else (Q (some (.int (-1 : Int32))) M5))))))) else (Q (some (.int (-1 : Int32))) M2))))) : xEv xP (xprim sa) (d + 1) m_Tape_readChoice [.ref l0, .int l1] M Q := e_Tape_readChoice (t_Tape_readChoice_0 h)
set_option maxRecDepth 100000 in
theorem t_Tape_pair_0 {sa : Nat → Nat} {d : Nat} {Q : xQ} {l0 : Nat} {l1 : Int32} {l2 : Int32} {l3 : Int32} {M : xM} {u : xU} (h : if ¬ l3 = (-1 : Int32) then (xgfR M l0 7 4 fun v1 => (xobj M v1 8 ∧ xEv xP (xprim sa) d m_Text_add [.ref v1, .int l1, .int l2, .int l3, .int (nI 0)] M (xrI fun r1 M1 => Q (some (.int r1)) M1))) else (Q (some (.int (-1 : Int32))) M)) : K_Tape_pair sa d Q 0 [some (.ref l0), some (.int l1), some (.int l2), some (.int l3)] [] M u := by
  refine b_Tape_pair_0 ?_
  refine xite_mono (fun h => ?_) (fun h => ?_) h
  · refine b_Tape_pair_2 ?_
    refine xgfR_mono (fun _ h => ?_) h
    obtain ⟨hz, h⟩ := h
    refine ⟨hz, ?_⟩
    refine xEv_post' _ _ _ _ _ (xrI_mono (fun _ _ h => ?_)) h
    exact b_Tape_pair_3 h
  · refine b_Tape_pair_1 ?_
    exact b_Tape_pair_3 h
theorem t_Tape_pair {sa : Nat → Nat} {d : Nat} {Q : xQ} {l0 : Nat} {l1 : Int32} {l2 : Int32} {l3 : Int32} {M : xM} (h : if ¬ l3 = (-1 : Int32) then (xgfR M l0 7 4 fun v1 => (xobj M v1 8 ∧ xEv xP (xprim sa) d m_Text_add [.ref v1, .int l1, .int l2, .int l3, .int (nI 0)] M (xrI fun r1 M1 => Q (some (.int r1)) M1))) else (Q (some (.int (-1 : Int32))) M)) : xEv xP (xprim sa) (d + 1) m_Tape_pair [.ref l0, .int l1, .int l2, .int l3] M Q := e_Tape_pair (t_Tape_pair_0 h)
set_option maxRecDepth 100000 in
theorem t_Tape_isPassed_0 {sa : Nat → Nat} {d : Nat} {Q : xQ} {l0 : Nat} {l1 : Int32} {M : xM} {u : xU} (h : xgfI M l0 7 5 fun v1 => (if v1 = l1 then (xobj M l0 7 ∧ xEv xP (xprim sa) d m_Tape_next [.ref l0] M (xrV fun M1 => ((nI 1) = 0 ∨ (nI 1) = 1) ∧ Q (some (.int (nI 1))) M1)) else (xobj M l0 7 ∧ xEv xP (xprim sa) d m_Tape_wrong [.ref l0, .int (nI 1)] M (xrI fun r1 M2 => ((nI 0) = 0 ∨ (nI 0) = 1) ∧ Q (some (.int (nI 0))) M2)))) : K_Tape_isPassed sa d Q 0 [some (.ref l0), some (.int l1)] [] M u := by
  refine b_Tape_isPassed_0 ?_
  refine xgfI_mono (fun _ h => ?_) h
  refine xite_mono (fun h => ?_) (fun h => ?_) h
  · exact b_Tape_isPassed_2 h
  · exact b_Tape_isPassed_1 h
theorem t_Tape_isPassed {sa : Nat → Nat} {d : Nat} {Q : xQ} {l0 : Nat} {l1 : Int32} {M : xM} (h : xgfI M l0 7 5 fun v1 => (if v1 = l1 then (xobj M l0 7 ∧ xEv xP (xprim sa) d m_Tape_next [.ref l0] M (xrV fun M1 => ((nI 1) = 0 ∨ (nI 1) = 1) ∧ Q (some (.int (nI 1))) M1)) else (xobj M l0 7 ∧ xEv xP (xprim sa) d m_Tape_wrong [.ref l0, .int (nI 1)] M (xrI fun r1 M2 => ((nI 0) = 0 ∨ (nI 0) = 1) ∧ Q (some (.int (nI 0))) M2)))) : xEv xP (xprim sa) (d + 1) m_Tape_isPassed [.ref l0, .int l1] M Q := e_Tape_isPassed (t_Tape_isPassed_0 h)
set_option maxRecDepth 100000 in
theorem t_Tape_wrong_0 {sa : Nat → Nat} {d : Nat} {Q : xQ} {l0 : Nat} {l1 : Int32} {M : xM} {u : xU} (h : xpf M l0 7 2 (.int l1) fun M1 => (xgfI M1 l0 7 6 fun v1 => (xpf M1 l0 7 3 (.int v1) fun M2 => (Q (some (.int (-1 : Int32))) M2)))) : K_Tape_wrong sa d Q 0 [some (.ref l0), some (.int l1)] [] M u := b_Tape_wrong_0 h
theorem t_Tape_wrong {sa : Nat → Nat} {d : Nat} {Q : xQ} {l0 : Nat} {l1 : Int32} {M : xM} (h : xpf M l0 7 2 (.int l1) fun M1 => (xgfI M1 l0 7 6 fun v1 => (xpf M1 l0 7 3 (.int v1) fun M2 => (Q (some (.int (-1 : Int32))) M2)))) : xEv xP (xprim sa) (d + 1) m_Tape_wrong [.ref l0, .int l1] M Q := e_Tape_wrong (t_Tape_wrong_0 h)
set_option maxRecDepth 100000 in
theorem t_Tape_next_0 {sa : Nat → Nat} {d : Nat} {Q : xQ} {l0 : Nat} {M : xM} {u : xU} (h : xgfI M l0 7 7 fun v1 => (xgfI M l0 7 1 fun v2 => (if v2 ≤ v1 then K_Tape_next sa d Q 4 [some (.ref l0)] [] M u else (xgfR M l0 7 0 fun v3 => (xgfI M l0 7 7 fun v4 => (xaI M v3 v4 fun v5 => (if v5 = (nI 32) then (xgfI M l0 7 7 fun v6 => (xpf M l0 7 7 (.int (v6 + (nI 1))) fun M1 => (K_Tape_next sa d Q 0 [some (.ref l0)] [] M1 u))) else (xgfR M l0 7 0 fun v7 => (xgfI M l0 7 7 fun v8 => (xaI M v7 v8 fun v9 => (if ¬ v9 = (nI 10) then K_Tape_next sa d Q 4 [some (.ref l0)] [] M u else (xgfI M l0 7 7 fun v10 => (xpf M l0 7 7 (.int (v10 + (nI 1))) fun M2 => (K_Tape_next sa d Q 0 [some (.ref l0)] [] M2 u)))))))))))))) : K_Tape_next sa d Q 0 [some (.ref l0)] [] M u := by
  refine b_Tape_next_0 ?_
  refine xgfI_mono (fun _ h => ?_) h
  refine xgfI_mono (fun _ h => ?_) h
  refine xite_mono (fun h => ?_) (fun h => ?_) h
  · exact h
  · refine b_Tape_next_1 ?_
    refine xgfR_mono (fun _ h => ?_) h
    refine xgfI_mono (fun _ h => ?_) h
    refine xaI_mono (fun _ h => ?_) h
    refine xite_mono (fun h => ?_) (fun h => ?_) h
    · exact b_Tape_next_3 h
    · refine b_Tape_next_2 ?_
      refine xgfR_mono (fun _ h => ?_) h
      refine xgfI_mono (fun _ h => ?_) h
      refine xaI_mono (fun _ h => ?_) h
      refine xite_mono (fun h => ?_) (fun h => ?_) h
      · exact h
      · exact b_Tape_next_3 h
set_option maxRecDepth 100000 in
theorem t_Tape_next_4 {sa : Nat → Nat} {d : Nat} {Q : xQ} {l0 : Nat} {M : xM} {u : xU} (h : xgfI M l0 7 7 fun v1 => (xpf M l0 7 6 (.int v1) fun M1 => (xgfI M1 l0 7 7 fun v2 => (xgfI M1 l0 7 1 fun v3 => (if v2 < v3 then (xgfR M1 l0 7 0 fun v4 => (xgfI M1 l0 7 7 fun v5 => (xaI M1 v4 v5 fun v6 => (xEv xP (xprim sa) d m_Tape_isDigit [.int v6] M1 (xrI fun r1 M2 => if r1 = 0 then (xgfR M2 l0 7 0 fun v7 => (xgfI M2 l0 7 7 fun v8 => (xaI M2 v7 v8 fun v9 => (xEv xP (xprim sa) d m_Tape_isLetter [.int v9] M2 (xrI fun r2 M3 => if r2 = 0 then (xobj M3 l0 7 ∧ xEv xP (xprim sa) d m_Tape_takeSign [.ref l0] M3 (xrI fun r3 M4 => xpf M4 l0 7 5 (.int r3) fun M5 => (Q none M5))) else (xobj M3 l0 7 ∧ xEv xP (xprim sa) d m_Tape_takeWord [.ref l0] M3 (xrI fun r4 M6 => xpf M6 l0 7 5 (.int r4) fun M7 => (Q none M7)))))))) else (xpf M2 l0 7 5 (.int (nI 300)) fun M8 => (xobj M8 l0 7 ∧ xEv xP (xprim sa) d m_Tape_takeNumber [.ref l0] M8 (xrV fun M9 => Q none M9)))))))) else (xpf M1 l0 7 5 (.int (nI 303)) fun M10 => (Q none M10))))))) : K_Tape_next sa d Q 4 [some (.ref l0)] [] M u := by
  refine b_Tape_next_4 ?_
  refine xgfI_mono (fun _ h => ?_) h
  refine xpf_mono (fun _ h => ?_) h
  refine xgfI_mono (fun _ h => ?_) h
  refine xgfI_mono (fun _ h => ?_) h
  refine xite_mono (fun h => ?_) (fun h => ?_) h
  · refine b_Tape_next_6 ?_
    refine xgfR_mono (fun _ h => ?_) h
    refine xgfI_mono (fun _ h => ?_) h
    refine xaI_mono (fun _ h => ?_) h
    refine xEv_post' _ _ _ _ _ (xrI_mono (fun _ _ h => ?_)) h
    refine xite_mono (fun h => ?_) (fun h => ?_) h
    · refine b_Tape_next_8 ?_
      refine xgfR_mono (fun _ h => ?_) h
      refine xgfI_mono (fun _ h => ?_) h
      refine xaI_mono (fun _ h => ?_) h
      refine xEv_post' _ _ _ _ _ (xrI_mono (fun _ _ h => ?_)) h
      refine xite_mono (fun h => ?_) (fun h => ?_) h
      · refine b_Tape_next_10 ?_
        obtain ⟨hz, h⟩ := h
        refine ⟨hz, ?_⟩
        refine xEv_post' _ _ _ _ _ (xrI_mono (fun _ _ h => ?_)) h
        refine xpf_mono (fun _ h => ?_) h
        exact b_Tape_next_11 h
      · refine b_Tape_next_9 ?_
        obtain ⟨hz, h⟩ := h
        refine ⟨hz, ?_⟩
        refine xEv_post' _ _ _ _ _ (xrI_mono (fun _ _ h => ?_)) h
        refine xpf_mono (fun _ h => ?_) h
        exact b_Tape_next_11 h
    · refine b_Tape_next_7 ?_
      refine xpf_mono (fun _ h => ?_) h
      obtain ⟨hz, h⟩ := h
      refine ⟨hz, ?_⟩
      refine xEv_post' _ _ _ _ _ (xrV_mono (fun _ h => ?_)) h
      exact b_Tape_next_11 h
  · refine b_Tape_next_5 ?_
    refine xpf_mono (fun _ h => ?_) h
    exact b_Tape_next_11 h
theorem t_Tape_next {sa : Nat → Nat} {d : Nat} {Q : xQ} {l0 : Nat} {M : xM} (h : xgfI M l0 7 7 fun v1 => (xgfI M l0 7 1 fun v2 => (if v2 ≤ v1 then K_Tape_next sa d Q 4 [some (.ref l0)] [] M (0, 0) else (xgfR M l0 7 0 fun v3 => (xgfI M l0 7 7 fun v4 => (xaI M v3 v4 fun v5 => (if v5 = (nI 32) then (xgfI M l0 7 7 fun v6 => (xpf M l0 7 7 (.int (v6 + (nI 1))) fun M1 => (K_Tape_next sa d Q 0 [some (.ref l0)] [] M1 (0, 0)))) else (xgfR M l0 7 0 fun v7 => (xgfI M l0 7 7 fun v8 => (xaI M v7 v8 fun v9 => (if ¬ v9 = (nI 10) then K_Tape_next sa d Q 4 [some (.ref l0)] [] M (0, 0) else (xgfI M l0 7 7 fun v10 => (xpf M l0 7 7 (.int (v10 + (nI 1))) fun M2 => (K_Tape_next sa d Q 0 [some (.ref l0)] [] M2 (0, 0))))))))))))))) : xEv xP (xprim sa) (d + 1) m_Tape_next [.ref l0] M Q := e_Tape_next (t_Tape_next_0 h)
set_option maxRecDepth 100000 in
theorem t_Tape_takeNumber_0 {sa : Nat → Nat} {d : Nat} {Q : xQ} {l0 : Nat} {M : xM} {u : xU} (h : xpf M l0 7 8 (.int (nI 0)) fun M1 => (K_Tape_takeNumber sa d Q 1 [some (.ref l0)] [] M1 u)) : K_Tape_takeNumber sa d Q 0 [some (.ref l0)] [] M u := b_Tape_takeNumber_0 h
set_option maxRecDepth 100000 in
theorem t_Tape_takeNumber_1 {sa : Nat → Nat} {d : Nat} {Q : xQ} {l0 : Nat} {M : xM} {u : xU} (h : xgfI M l0 7 7 fun v1 => (xgfI M l0 7 1 fun v2 => (if v2 ≤ v1 then (Q none M) else (xgfR M l0 7 0 fun v3 => (xgfI M l0 7 7 fun v4 => (xaI M v3 v4 fun v5 => (xEv xP (xprim sa) d m_Tape_isDigit [.int v5] M (xrI fun r1 M1 => if r1 = 0 then (Q none M1) else (xgfI M1 l0 7 8 fun v6 => (if v6 ≤ (nI 9999) then (xgfI M1 l0 7 8 fun v7 => (xgfR M1 l0 7 0 fun v8 => (xgfI M1 l0 7 7 fun v9 => (xaI M1 v8 v9 fun v10 => (xpf M1 l0 7 8 (.int (((v7 * (nI 10)) + v10) - (nI 48))) fun M2 => (xgfI M2 l0 7 7 fun v11 => (xpf M2 l0 7 7 (.int (v11 + (nI 1))) fun M3 => (K_Tape_takeNumber sa d Q 1 [some (.ref l0)] [] M3 u)))))))) else (xgfI M1 l0 7 8 fun v12 => (xpf M1 l0 7 8 (.int v12) fun M4 => (xgfI M4 l0 7 7 fun v13 => (xpf M4 l0 7 7 (.int (v13 + (nI 1))) fun M5 => (K_Tape_takeNumber sa d Q 1 [some (.ref l0)] [] M5 u))))))))))))))) : K_Tape_takeNumber sa d Q 1 [some (.ref l0)] [] M u := by
  refine b_Tape_takeNumber_1 ?_
  refine xgfI_mono (fun _ h => ?_) h
  refine xgfI_mono (fun _ h => ?_) h
  refine xite_mono (fun h => ?_) (fun h => ?_) h
  · exact b_Tape_takeNumber_7 h
  · refine b_Tape_takeNumber_2 ?_
    refine xgfR_mono (fun _ h => ?_) h
    refine xgfI_mono (fun _ h => ?_) h
    refine xaI_mono (fun _ h => ?_) h
    refine xEv_post' _ _ _ _ _ (xrI_mono (fun _ _ h => ?_)) h
    refine xite_mono (fun h => ?_) (fun h => ?_) h
    · exact b_Tape_takeNumber_7 h
    · refine b_Tape_takeNumber_3 ?_
      refine xgfI_mono (fun _ h => ?_) h
      refine xite_mono (fun h => ?_) (fun h => ?_) h
      · refine b_Tape_takeNumber_5 ?_
        refine xgfI_mono (fun _ h => ?_) h
        refine xgfR_mono (fun _ h => ?_) h
        refine xgfI_mono (fun _ h => ?_) h
        refine xaI_mono (fun _ h => ?_) h
        exact b_Tape_takeNumber_6 h
      · refine b_Tape_takeNumber_4 ?_
        refine xgfI_mono (fun _ h => ?_) h
        exact b_Tape_takeNumber_6 h
theorem t_Tape_takeNumber {sa : Nat → Nat} {d : Nat} {Q : xQ} {l0 : Nat} {M : xM} (h : xpf M l0 7 8 (.int (nI 0)) fun M1 => (K_Tape_takeNumber sa d Q 1 [some (.ref l0)] [] M1 (0, 0))) : xEv xP (xprim sa) (d + 1) m_Tape_takeNumber [.ref l0] M Q := e_Tape_takeNumber (t_Tape_takeNumber_0 h)
set_option maxRecDepth 100000 in
theorem t_Tape_takeWord_0 {sa : Nat → Nat} {d : Nat} {Q : xQ} {l0 : Nat} {M : xM} {u : xU} (h : xgfI M l0 7 7 fun v1 => (xgfI M l0 7 1 fun v2 => (if v2 ≤ v1 then K_Tape_takeWord sa d Q 4 [some (.ref l0), some (.int (nI 400))] [] M u else (xgfR M l0 7 0 fun v3 => (xgfI M l0 7 7 fun v4 => (xaI M v3 v4 fun v5 => (xEv xP (xprim sa) d m_Tape_isLetter [.int v5] M (xrI fun r1 M1 => if r1 = 0 then K_Tape_takeWord sa d Q 4 [some (.ref l0), some (.int (nI 400))] [] M1 u else (xgfI M1 l0 7 7 fun v6 => (xpf M1 l0 7 7 (.int (v6 + (nI 1))) fun M2 => (K_Tape_takeWord sa d Q 0 [some (.ref l0), none] [] M2 u))))))))))) : K_Tape_takeWord sa d Q 0 [some (.ref l0), none] [] M u := by
  refine b_Tape_takeWord_0 ?_
  refine xgfI_mono (fun _ h => ?_) h
  refine xgfI_mono (fun _ h => ?_) h
  refine xite_mono (fun h => ?_) (fun h => ?_) h
  · exact b_Tape_takeWord_3 h
  · refine b_Tape_takeWord_1 ?_
    refine xgfR_mono (fun _ h => ?_) h
    refine xgfI_mono (fun _ h => ?_) h
    refine xaI_mono (fun _ h => ?_) h
    refine xEv_post' _ _ _ _ _ (xrI_mono (fun _ _ h => ?_)) h
    refine xite_mono (fun h => ?_) (fun h => ?_) h
    · exact b_Tape_takeWord_3 h
    · exact b_Tape_takeWord_2 h
set_option maxRecDepth 100000 in
theorem t_Tape_takeWord_4 {sa : Nat → Nat} {d : Nat} {Q : xQ} {l0 : Nat} {l1 : Int32} {M : xM} {u : xU} (h : if (nI 417) < l1 then (Q (some (.int (nI 304))) M) else (xEv xP (xprim sa) d m_Tape_spelling [.int l1] M (xrR fun r1 M1 => xobj M1 l0 7 ∧ xEv xP (xprim sa) d m_Tape_isSpelled [.ref l0, .ref r1] M1 (xrI fun r2 M2 => if r2 = 0 then K_Tape_takeWord sa d Q 4 [some (.ref l0), some (.int (l1 + (nI 1)))] [] M2 u else (Q (some (.int l1)) M2))))) : K_Tape_takeWord sa d Q 4 [some (.ref l0), some (.int l1)] [] M u := by
  refine b_Tape_takeWord_4 ?_
  refine xite_mono (fun h => ?_) (fun h => ?_) h
  · exact b_Tape_takeWord_8 h
  · refine b_Tape_takeWord_5 ?_
    refine xEv_post' _ _ _ _ _ (xrR_mono (fun _ _ h => ?_)) h
    obtain ⟨hz, h⟩ := h
    refine ⟨hz, ?_⟩
    refine xEv_post' _ _ _ _ _ (xrI_mono (fun _ _ h => ?_)) h
    refine xite_mono (fun h => ?_) (fun h => ?_) h
    · exact b_Tape_takeWord_7 h
    · exact b_Tape_takeWord_6 h
theorem t_Tape_takeWord {sa : Nat → Nat} {d : Nat} {Q : xQ} {l0 : Nat} {M : xM} (h : xgfI M l0 7 7 fun v1 => (xgfI M l0 7 1 fun v2 => (if v2 ≤ v1 then K_Tape_takeWord sa d Q 4 [some (.ref l0), some (.int (nI 400))] [] M (0, 0) else (xgfR M l0 7 0 fun v3 => (xgfI M l0 7 7 fun v4 => (xaI M v3 v4 fun v5 => (xEv xP (xprim sa) d m_Tape_isLetter [.int v5] M (xrI fun r1 M1 => if r1 = 0 then K_Tape_takeWord sa d Q 4 [some (.ref l0), some (.int (nI 400))] [] M1 (0, 0) else (xgfI M1 l0 7 7 fun v6 => (xpf M1 l0 7 7 (.int (v6 + (nI 1))) fun M2 => (K_Tape_takeWord sa d Q 0 [some (.ref l0), none] [] M2 (0, 0)))))))))))) : xEv xP (xprim sa) (d + 1) m_Tape_takeWord [.ref l0] M Q := e_Tape_takeWord (t_Tape_takeWord_0 h)
set_option maxRecDepth 100000 in
theorem t_Tape_isSpelled_0 {sa : Nat → Nat} {d : Nat} {Q : xQ} {l0 : Nat} {l1 : Nat} {M : xM} {u : xU} (h : xgfI M l0 7 7 fun v1 => (xgfI M l0 7 6 fun v2 => (xobj M l1 20 ∧ xEv xP (xprim sa) d 1100 [.ref l1] M (xrI fun r1 M1 => if (v1 - v2) = r1 then K_Tape_isSpelled sa d Q 3 [some (.ref l0), some (.ref l1), some (.int (nI 0))] [] M1 u else (((nI 0) = 0 ∨ (nI 0) = 1) ∧ Q (some (.int (nI 0))) M1))))) : K_Tape_isSpelled sa d Q 0 [some (.ref l0), some (.ref l1), none] [] M u := by
  refine b_Tape_isSpelled_0 ?_
  refine xgfI_mono (fun _ h => ?_) h
  refine xgfI_mono (fun _ h => ?_) h
  obtain ⟨hz, h⟩ := h
  refine ⟨hz, ?_⟩
  refine xEv_post' _ _ _ _ _ (xrI_mono (fun _ _ h => ?_)) h
  refine xite_mono (fun h => ?_) (fun h => ?_) h
  · exact b_Tape_isSpelled_2 h
  · exact b_Tape_isSpelled_1 h
set_option maxRecDepth 100000 in
theorem t_Tape_isSpelled_3 {sa : Nat → Nat} {d : Nat} {Q : xQ} {l0 : Nat} {l1 : Nat} {l2 : Int32} {M : xM} {u : xU} (h : xobj M l1 20 ∧ xEv xP (xprim sa) d 1100 [.ref l1] M (xrI fun r1 M1 => if r1 ≤ l2 then (((nI 1) = 0 ∨ (nI 1) = 1) ∧ Q (some (.int (nI 1))) M1) else (xgfI M1 l0 7 6 fun v1 => (if (nI 300) ≤ (v1 + l2) then (((nI 1) = 0 ∨ (nI 1) = 1) ∧ Q (some (.int (nI 1))) M1) else (xgfR M1 l0 7 0 fun v2 => (xgfI M1 l0 7 6 fun v3 => (xaI M1 v2 (v3 + l2) fun v4 => (xobj M1 l1 20 ∧ xEv xP (xprim sa) d 1101 [.ref l1, .int l2] M1 (xrI fun r2 M2 => if v4 = r2 then K_Tape_isSpelled sa d Q 3 [some (.ref l0), some (.ref l1), some (.int (l2 + (nI 1)))] [] M2 u else (((nI 0) = 0 ∨ (nI 0) = 1) ∧ Q (some (.int (nI 0))) M2)))))))))) : K_Tape_isSpelled sa d Q 3 [some (.ref l0), some (.ref l1), some (.int l2)] [] M u := by
  refine b_Tape_isSpelled_3 ?_
  obtain ⟨hz, h⟩ := h
  refine ⟨hz, ?_⟩
  refine xEv_post' _ _ _ _ _ (xrI_mono (fun _ _ h => ?_)) h
  refine xite_mono (fun h => ?_) (fun h => ?_) h
  · exact b_Tape_isSpelled_8 h
  · refine b_Tape_isSpelled_4 ?_
    refine xgfI_mono (fun _ h => ?_) h
    refine xite_mono (fun h => ?_) (fun h => ?_) h
    · exact b_Tape_isSpelled_8 h
    · refine b_Tape_isSpelled_5 ?_
      refine xgfR_mono (fun _ h => ?_) h
      refine xgfI_mono (fun _ h => ?_) h
      refine xaI_mono (fun _ h => ?_) h
      obtain ⟨hz, h⟩ := h
      refine ⟨hz, ?_⟩
      refine xEv_post' _ _ _ _ _ (xrI_mono (fun _ _ h => ?_)) h
      refine xite_mono (fun h => ?_) (fun h => ?_) h
      · exact b_Tape_isSpelled_7 h
      · exact b_Tape_isSpelled_6 h
theorem t_Tape_isSpelled {sa : Nat → Nat} {d : Nat} {Q : xQ} {l0 : Nat} {l1 : Nat} {M : xM} (h : xgfI M l0 7 7 fun v1 => (xgfI M l0 7 6 fun v2 => (xobj M l1 20 ∧ xEv xP (xprim sa) d 1100 [.ref l1] M (xrI fun r1 M1 => if (v1 - v2) = r1 then K_Tape_isSpelled sa d Q 3 [some (.ref l0), some (.ref l1), some (.int (nI 0))] [] M1 (0, 0) else (((nI 0) = 0 ∨ (nI 0) = 1) ∧ Q (some (.int (nI 0))) M1))))) : xEv xP (xprim sa) (d + 1) m_Tape_isSpelled [.ref l0, .ref l1] M Q := e_Tape_isSpelled (t_Tape_isSpelled_0 h)
set_option maxRecDepth 100000 in
theorem t_Tape_takeSign_0 {sa : Nat → Nat} {d : Nat} {Q : xQ} {l0 : Nat} {M : xM} {u : xU} (h : xgfR M l0 7 0 fun v1 => (xgfI M l0 7 7 fun v2 => (xaI M v1 v2 fun v3 => (xgfI M l0 7 7 fun v4 => (xpf M l0 7 7 (.int (v4 + (nI 1))) fun M1 => (xgfI M1 l0 7 7 fun v5 => (xgfI M1 l0 7 1 fun v6 => (if v6 ≤ v5 then K_Tape_takeSign sa d Q 3 [some (.ref l0), some (.int v3), none] [] M1 u else (xgfR M1 l0 7 0 fun v7 => (xgfI M1 l0 7 7 fun v8 => (xaI M1 v7 v8 fun v9 => (if ¬ v9 = (nI 61) then K_Tape_takeSign sa d Q 3 [some (.ref l0), some (.int v3), none] [] M1 u else (if (nI 1) = 0 then (Q (some (.int v3)) M1) else (if v3 = (nI 60) then (xgfI M1 l0 7 7 fun v10 => (xpf M1 l0 7 7 (.int (v10 + (nI 1))) fun M2 => (if ¬ v3 = (nI 60) then (Q (some (.int (nI 302))) M2) else (Q (some (.int (nI 301))) M2)))) else (if ¬ v3 = (nI 62) then (Q (some (.int v3)) M1) else (xgfI M1 l0 7 7 fun v11 => (xpf M1 l0 7 7 (.int (v11 + (nI 1))) fun M3 => (if ¬ v3 = (nI 60) then (Q (some (.int (nI 302))) M3) else (Q (some (.int (nI 301))) M3))))))))))))))))))) : K_Tape_takeSign sa d Q 0 [some (.ref l0), none, none] [] M u := by
  refine b_Tape_takeSign_0 ?_
  refine xgfR_mono (fun _ h => ?_) h
  refine xgfI_mono (fun _ h => ?_) h
  refine xaI_mono (fun _ h => ?_) h
  refine xgfI_mono (fun _ h => ?_) h
  refine xpf_mono (fun _ h => ?_) h
  refine xgfI_mono (fun _ h => ?_) h
  refine xgfI_mono (fun _ h => ?_) h
  refine xite_mono (fun h => ?_) (fun h => ?_) h
  · exact h
  · refine b_Tape_takeSign_1 ?_
    refine xgfR_mono (fun _ h => ?_) h
    refine xgfI_mono (fun _ h => ?_) h
    refine xaI_mono (fun _ h => ?_) h
    refine xite_mono (fun h => ?_) (fun h => ?_) h
    · exact h
    · refine b_Tape_takeSign_2 ?_
      refine b_Tape_takeSign_4 ?_
      refine xite_mono (fun h => ?_) (fun h => ?_) h
      · exact b_Tape_takeSign_11 h
      · refine b_Tape_takeSign_5 ?_
        refine xite_mono (fun h => ?_) (fun h => ?_) h
        · refine b_Tape_takeSign_7 ?_
          refine xgfI_mono (fun _ h => ?_) h
          refine xpf_mono (fun _ h => ?_) h
          refine xite_mono (fun h => ?_) (fun h => ?_) h
          · refine b_Tape_takeSign_9 ?_
            exact b_Tape_takeSign_10 h
          · refine b_Tape_takeSign_8 ?_
            exact b_Tape_takeSign_10 h
        · refine b_Tape_takeSign_6 ?_
          refine xite_mono (fun h => ?_) (fun h => ?_) h
          · exact b_Tape_takeSign_11 h
          · refine b_Tape_takeSign_7 ?_
            refine xgfI_mono (fun _ h => ?_) h
            refine xpf_mono (fun _ h => ?_) h
            refine xite_mono (fun h => ?_) (fun h => ?_) h
            · refine b_Tape_takeSign_9 ?_
              exact b_Tape_takeSign_10 h
            · refine b_Tape_takeSign_8 ?_
              exact b_Tape_takeSign_10 h
set_option maxRecDepth 100000 in
theorem t_Tape_takeSign_3 {sa : Nat → Nat} {d : Nat} {Q : xQ} {l0 : Nat} {l1 : Int32} {M : xM} {u : xU} (h : if (nI 0) = 0 then (Q (some (.int l1)) M) else (if l1 = (nI 60) then (xgfI M l0 7 7 fun v1 => (xpf M l0 7 7 (.int (v1 + (nI 1))) fun M1 => (if ¬ l1 = (nI 60) then (Q (some (.int (nI 302))) M1) else (Q (some (.int (nI 301))) M1)))) else (if ¬ l1 = (nI 62) then (Q (some (.int l1)) M) else (xgfI M l0 7 7 fun v2 => (xpf M l0 7 7 (.int (v2 + (nI 1))) fun M2 => (if ¬ l1 = (nI 60) then (Q (some (.int (nI 302))) M2) else (Q (some (.int (nI 301))) M2))))))) : K_Tape_takeSign sa d Q 3 [some (.ref l0), some (.int l1), none] [] M u := by
  refine b_Tape_takeSign_3 ?_
  refine b_Tape_takeSign_4 ?_
  refine xite_mono (fun h => ?_) (fun h => ?_) h
  · exact b_Tape_takeSign_11 h
  · refine b_Tape_takeSign_5 ?_
    refine xite_mono (fun h => ?_) (fun h => ?_) h
    · refine b_Tape_takeSign_7 ?_
      refine xgfI_mono (fun _ h => ?_) h
      refine xpf_mono (fun _ h => ?_) h
      refine xite_mono (fun h => ?_) (fun h => ?_) h
      · refine b_Tape_takeSign_9 ?_
        exact b_Tape_takeSign_10 h
      · refine b_Tape_takeSign_8 ?_
        exact b_Tape_takeSign_10 h
    · refine b_Tape_takeSign_6 ?_
      refine xite_mono (fun h => ?_) (fun h => ?_) h
      · exact b_Tape_takeSign_11 h
      · refine b_Tape_takeSign_7 ?_
        refine xgfI_mono (fun _ h => ?_) h
        refine xpf_mono (fun _ h => ?_) h
        refine xite_mono (fun h => ?_) (fun h => ?_) h
        · refine b_Tape_takeSign_9 ?_
          exact b_Tape_takeSign_10 h
        · refine b_Tape_takeSign_8 ?_
          exact b_Tape_takeSign_10 h
theorem t_Tape_takeSign {sa : Nat → Nat} {d : Nat} {Q : xQ} {l0 : Nat} {M : xM} (h : xgfR M l0 7 0 fun v1 => (xgfI M l0 7 7 fun v2 => (xaI M v1 v2 fun v3 => (xgfI M l0 7 7 fun v4 => (xpf M l0 7 7 (.int (v4 + (nI 1))) fun M1 => (xgfI M1 l0 7 7 fun v5 => (xgfI M1 l0 7 1 fun v6 => (if v6 ≤ v5 then K_Tape_takeSign sa d Q 3 [some (.ref l0), some (.int v3), none] [] M1 (0, 0) else (xgfR M1 l0 7 0 fun v7 => (xgfI M1 l0 7 7 fun v8 => (xaI M1 v7 v8 fun v9 => (if ¬ v9 = (nI 61) then K_Tape_takeSign sa d Q 3 [some (.ref l0), some (.int v3), none] [] M1 (0, 0) else (if (nI 1) = 0 then (Q (some (.int v3)) M1) else (if v3 = (nI 60) then (xgfI M1 l0 7 7 fun v10 => (xpf M1 l0 7 7 (.int (v10 + (nI 1))) fun M2 => (if ¬ v3 = (nI 60) then (Q (some (.int (nI 302))) M2) else (Q (some (.int (nI 301))) M2)))) else (if ¬ v3 = (nI 62) then (Q (some (.int v3)) M1) else (xgfI M1 l0 7 7 fun v11 => (xpf M1 l0 7 7 (.int (v11 + (nI 1))) fun M3 => (if ¬ v3 = (nI 60) then (Q (some (.int (nI 302))) M3) else (Q (some (.int (nI 301))) M3))))))))))))))))))) : xEv xP (xprim sa) (d + 1) m_Tape_takeSign [.ref l0] M Q := e_Tape_takeSign (t_Tape_takeSign_0 h)
set_option maxRecDepth 100000 in
theorem t_Tape_isDigit_0 {sa : Nat → Nat} {d : Nat} {Q : xQ} {l0 : Int32} {M : xM} {u : xU} (h : if l0 < (nI 48) then (((nI 0) = 0 ∨ (nI 0) = 1) ∧ Q (some (.int (nI 0))) M) else (if (nI 57) < l0 then (((nI 0) = 0 ∨ (nI 0) = 1) ∧ Q (some (.int (nI 0))) M) else (((nI 1) = 0 ∨ (nI 1) = 1) ∧ Q (some (.int (nI 1))) M))) : K_Tape_isDigit sa d Q 0 [some (.int l0)] [] M u := by
  refine b_Tape_isDigit_0 ?_
  refine xite_mono (fun h => ?_) (fun h => ?_) h
  · refine b_Tape_isDigit_3 ?_
    exact b_Tape_isDigit_4 h
  · refine b_Tape_isDigit_1 ?_
    refine xite_mono (fun h => ?_) (fun h => ?_) h
    · refine b_Tape_isDigit_3 ?_
      exact b_Tape_isDigit_4 h
    · refine b_Tape_isDigit_2 ?_
      exact b_Tape_isDigit_4 h
theorem t_Tape_isDigit {sa : Nat → Nat} {d : Nat} {Q : xQ} {l0 : Int32} {M : xM} (h : if l0 < (nI 48) then (((nI 0) = 0 ∨ (nI 0) = 1) ∧ Q (some (.int (nI 0))) M) else (if (nI 57) < l0 then (((nI 0) = 0 ∨ (nI 0) = 1) ∧ Q (some (.int (nI 0))) M) else (((nI 1) = 0 ∨ (nI 1) = 1) ∧ Q (some (.int (nI 1))) M))) : xEv xP (xprim sa) (d + 1) m_Tape_isDigit [.int l0] M Q := e_Tape_isDigit (t_Tape_isDigit_0 h)
set_option maxRecDepth 100000 in
theorem t_Tape_isLetter_0 {sa : Nat → Nat} {d : Nat} {Q : xQ} {l0 : Int32} {M : xM} {u : xU} (h : if l0 < (nI 97) then (if l0 < (nI 65) then (((nI 0) = 0 ∨ (nI 0) = 1) ∧ Q (some (.int (nI 0))) M) else (if (nI 90) < l0 then (((nI 0) = 0 ∨ (nI 0) = 1) ∧ Q (some (.int (nI 0))) M) else (((nI 1) = 0 ∨ (nI 1) = 1) ∧ Q (some (.int (nI 1))) M))) else (if l0 ≤ (nI 122) then (((nI 1) = 0 ∨ (nI 1) = 1) ∧ Q (some (.int (nI 1))) M) else (if l0 < (nI 65) then (((nI 0) = 0 ∨ (nI 0) = 1) ∧ Q (some (.int (nI 0))) M) else (if (nI 90) < l0 then (((nI 0) = 0 ∨ (nI 0) = 1) ∧ Q (some (.int (nI 0))) M) else (((nI 1) = 0 ∨ (nI 1) = 1) ∧ Q (some (.int (nI 1))) M))))) : K_Tape_isLetter sa d Q 0 [some (.int l0)] [] M u := by
  refine b_Tape_isLetter_0 ?_
  refine xite_mono (fun h => ?_) (fun h => ?_) h
  · refine b_Tape_isLetter_2 ?_
    refine xite_mono (fun h => ?_) (fun h => ?_) h
    · refine b_Tape_isLetter_5 ?_
      exact b_Tape_isLetter_6 h
    · refine b_Tape_isLetter_3 ?_
      refine xite_mono (fun h => ?_) (fun h => ?_) h
      · refine b_Tape_isLetter_5 ?_
        exact b_Tape_isLetter_6 h
      · refine b_Tape_isLetter_4 ?_
        exact b_Tape_isLetter_6 h
  · refine b_Tape_isLetter_1 ?_
    refine xite_mono (fun h => ?_) (fun h => ?_) h
    · refine b_Tape_isLetter_4 ?_
      exact b_Tape_isLetter_6 h
    · refine b_Tape_isLetter_2 ?_
      refine xite_mono (fun h => ?_) (fun h => ?_) h
      · refine b_Tape_isLetter_5 ?_
        exact b_Tape_isLetter_6 h
      · refine b_Tape_isLetter_3 ?_
        refine xite_mono (fun h => ?_) (fun h => ?_) h
        · refine b_Tape_isLetter_5 ?_
          exact b_Tape_isLetter_6 h
        · refine b_Tape_isLetter_4 ?_
          exact b_Tape_isLetter_6 h
theorem t_Tape_isLetter {sa : Nat → Nat} {d : Nat} {Q : xQ} {l0 : Int32} {M : xM} (h : if l0 < (nI 97) then (if l0 < (nI 65) then (((nI 0) = 0 ∨ (nI 0) = 1) ∧ Q (some (.int (nI 0))) M) else (if (nI 90) < l0 then (((nI 0) = 0 ∨ (nI 0) = 1) ∧ Q (some (.int (nI 0))) M) else (((nI 1) = 0 ∨ (nI 1) = 1) ∧ Q (some (.int (nI 1))) M))) else (if l0 ≤ (nI 122) then (((nI 1) = 0 ∨ (nI 1) = 1) ∧ Q (some (.int (nI 1))) M) else (if l0 < (nI 65) then (((nI 0) = 0 ∨ (nI 0) = 1) ∧ Q (some (.int (nI 0))) M) else (if (nI 90) < l0 then (((nI 0) = 0 ∨ (nI 0) = 1) ∧ Q (some (.int (nI 0))) M) else (((nI 1) = 0 ∨ (nI 1) = 1) ∧ Q (some (.int (nI 1))) M))))) : xEv xP (xprim sa) (d + 1) m_Tape_isLetter [.int l0] M Q := e_Tape_isLetter (t_Tape_isLetter_0 h)
set_option maxRecDepth 100000 in
theorem t_Tape_spelling_0 {sa : Nat → Nat} {d : Nat} {Q : xQ} {l0 : Int32} {M : xM} {u : xU} (h : if l0 = (nI 400) then (xEv xP (xprim sa) d 1000 [] M (xrR fun r2 M2 => (Q (some (.ref r2)) M2))) else (if l0 = (nI 401) then (xEv xP (xprim sa) d 1001 [] M (xrR fun r3 M3 => (Q (some (.ref r3)) M3))) else (if l0 = (nI 402) then (xEv xP (xprim sa) d 1002 [] M (xrR fun r4 M4 => (Q (some (.ref r4)) M4))) else (if l0 = (nI 403) then (xEv xP (xprim sa) d 1003 [] M (xrR fun r5 M5 => (Q (some (.ref r5)) M5))) else (if l0 = (nI 404) then (xEv xP (xprim sa) d 1004 [] M (xrR fun r6 M6 => (Q (some (.ref r6)) M6))) else (if l0 = (nI 405) then (xEv xP (xprim sa) d 1005 [] M (xrR fun r7 M7 => (Q (some (.ref r7)) M7))) else (if l0 = (nI 406) then (xEv xP (xprim sa) d 1006 [] M (xrR fun r8 M8 => (Q (some (.ref r8)) M8))) else (if l0 = (nI 407) then (xEv xP (xprim sa) d 1007 [] M (xrR fun r9 M9 => (Q (some (.ref r9)) M9))) else (if l0 = (nI 408) then (xEv xP (xprim sa) d 1008 [] M (xrR fun r10 M10 => (Q (some (.ref r10)) M10))) else (if l0 = (nI 409) then (xEv xP (xprim sa) d 1009 [] M (xrR fun r11 M11 => (Q (some (.ref r11)) M11))) else (if l0 = (nI 410) then (xEv xP (xprim sa) d 1010 [] M (xrR fun r12 M12 => (Q (some (.ref r12)) M12))) else (if l0 = (nI 411) then (xEv xP (xprim sa) d 1011 [] M (xrR fun r13 M13 => (Q (some (.ref r13)) M13))) else (if l0 = (nI 412) then (xEv xP (xprim sa) d 1012 [] M (xrR fun r14 M14 => (Q (some (.ref r14)) M14))) else (if l0 = (nI 413) then (xEv xP (xprim sa) d 1013 [] M (xrR fun r15 M15 => (Q (some (.ref r15)) M15))) else (if l0 = (nI 414) then (xEv xP (xprim sa) d 1014 [] M (xrR fun r16 M16 => (Q (some (.ref r16)) M16))) else (if l0 = (nI 415) then (xEv xP (xprim sa) d 1015 [] M (xrR fun r17 M17 => (Q (some (.ref r17)) M17))) else (if l0 = (nI 416) then (xEv xP (xprim sa) d 1016 [] M (xrR fun r18 M18 => (Q (some (.ref r18)) M18))) else (xEv xP (xprim sa) d 1017 [] M (xrR fun r1 M1 => (Q (some (.ref r1)) M1)))))))))))))))))))) : K_Tape_spelling sa d Q 0 [some (.int l0)] [] M u := by
  refine b_Tape_spelling_0 ?_
  refine xite_mono (fun h => ?_) (fun h => ?_) h
  · exact b_Tape_spelling_1 h
  · refine xite_mono (fun h => ?_) (fun h => ?_) h
    · exact b_Tape_spelling_2 h
    · refine xite_mono (fun h => ?_) (fun h => ?_) h
      · exact b_Tape_spelling_3 h
      · refine xite_mono (fun h => ?_) (fun h => ?_) h
        · exact b_Tape_spelling_4 h
        · refine xite_mono (fun h => ?_) (fun h => ?_) h
          · exact b_Tape_spelling_5 h
          · refine xite_mono (fun h => ?_) (fun h => ?_) h
            · exact b_Tape_spelling_6 h
            · refine xite_mono (fun h => ?_) (fun h => ?_) h
              · exact b_Tape_spelling_7 h
              · refine xite_mono (fun h => ?_) (fun h => ?_) h
                · exact b_Tape_spelling_8 h
                · refine xite_mono (fun h => ?_) (fun h => ?_) h
                  · exact b_Tape_spelling_9 h
                  · refine xite_mono (fun h => ?_) (fun h => ?_) h
                    · exact b_Tape_spelling_10 h
                    · refine xite_mono (fun h => ?_) (fun h => ?_) h
                      · exact b_Tape_spelling_11 h
                      · refine xite_mono (fun h => ?_) (fun h => ?_) h
                        · exact b_Tape_spelling_12 h
                        · refine xite_mono (fun h => ?_) (fun h => ?_) h
                          · exact b_Tape_spelling_13 h
                          · refine xite_mono (fun h => ?_) (fun h => ?_) h
                            · exact b_Tape_spelling_14 h
                            · refine xite_mono (fun h => ?_) (fun h => ?_) h
                              · exact b_Tape_spelling_15 h
                              · refine xite_mono (fun h => ?_) (fun h => ?_) h
                                · exact b_Tape_spelling_16 h
                                · refine xite_mono (fun h => ?_) (fun h => ?_) h
                                  · exact b_Tape_spelling_17 h
                                  · exact b_Tape_spelling_18 h
theorem t_Tape_spelling {sa : Nat → Nat} {d : Nat} {Q : xQ} {l0 : Int32} {M : xM} (h : if l0 = (nI 400) then (xEv xP (xprim sa) d 1000 [] M (xrR fun r2 M2 => (Q (some (.ref r2)) M2))) else (if l0 = (nI 401) then (xEv xP (xprim sa) d 1001 [] M (xrR fun r3 M3 => (Q (some (.ref r3)) M3))) else (if l0 = (nI 402) then (xEv xP (xprim sa) d 1002 [] M (xrR fun r4 M4 => (Q (some (.ref r4)) M4))) else (if l0 = (nI 403) then (xEv xP (xprim sa) d 1003 [] M (xrR fun r5 M5 => (Q (some (.ref r5)) M5))) else (if l0 = (nI 404) then (xEv xP (xprim sa) d 1004 [] M (xrR fun r6 M6 => (Q (some (.ref r6)) M6))) else (if l0 = (nI 405) then (xEv xP (xprim sa) d 1005 [] M (xrR fun r7 M7 => (Q (some (.ref r7)) M7))) else (if l0 = (nI 406) then (xEv xP (xprim sa) d 1006 [] M (xrR fun r8 M8 => (Q (some (.ref r8)) M8))) else (if l0 = (nI 407) then (xEv xP (xprim sa) d 1007 [] M (xrR fun r9 M9 => (Q (some (.ref r9)) M9))) else (if l0 = (nI 408) then (xEv xP (xprim sa) d 1008 [] M (xrR fun r10 M10 => (Q (some (.ref r10)) M10))) else (if l0 = (nI 409) then (xEv xP (xprim sa) d 1009 [] M (xrR fun r11 M11 => (Q (some (.ref r11)) M11))) else (if l0 = (nI 410) then (xEv xP (xprim sa) d 1010 [] M (xrR fun r12 M12 => (Q (some (.ref r12)) M12))) else (if l0 = (nI 411) then (xEv xP (xprim sa) d 1011 [] M (xrR fun r13 M13 => (Q (some (.ref r13)) M13))) else (if l0 = (nI 412) then (xEv xP (xprim sa) d 1012 [] M (xrR fun r14 M14 => (Q (some (.ref r14)) M14))) else (if l0 = (nI 413) then (xEv xP (xprim sa) d 1013 [] M (xrR fun r15 M15 => (Q (some (.ref r15)) M15))) else (if l0 = (nI 414) then (xEv xP (xprim sa) d 1014 [] M (xrR fun r16 M16 => (Q (some (.ref r16)) M16))) else (if l0 = (nI 415) then (xEv xP (xprim sa) d 1015 [] M (xrR fun r17 M17 => (Q (some (.ref r17)) M17))) else (if l0 = (nI 416) then (xEv xP (xprim sa) d 1016 [] M (xrR fun r18 M18 => (Q (some (.ref r18)) M18))) else (xEv xP (xprim sa) d 1017 [] M (xrR fun r1 M1 => (Q (some (.ref r1)) M1)))))))))))))))))))) : xEv xP (xprim sa) (d + 1) m_Tape_spelling [.int l0] M Q := e_Tape_spelling (t_Tape_spelling_0 h)
set_option maxRecDepth 100000 in
theorem t_Text_init_0 {sa : Nat → Nat} {d : Nat} {Q : xQ} {l0 : Nat} {M : xM} {u : xU} (h : ¬ (nI 300) < 0 ∧ (nI 300).toNatClampNeg ≤ 1000000 ∧ xalloc M u (nI 300).toNatClampNeg (.inl (0, (nI 300).toNatClampNeg, .inl (fun _ => 0))) fun q1 M1 u1 => (xpf M1 l0 8 0 (.ref q1) fun M2 => (¬ (nI 300) < 0 ∧ (nI 300).toNatClampNeg ≤ 1000000 ∧ xalloc M2 u1 (nI 300).toNatClampNeg (.inl (0, (nI 300).toNatClampNeg, .inl (fun _ => 0))) fun q2 M3 u2 => (xpf M3 l0 8 1 (.ref q2) fun M4 => (¬ (nI 300) < 0 ∧ (nI 300).toNatClampNeg ≤ 1000000 ∧ xalloc M4 u2 (nI 300).toNatClampNeg (.inl (0, (nI 300).toNatClampNeg, .inl (fun _ => 0))) fun q3 M5 u3 => (xpf M5 l0 8 2 (.ref q3) fun M6 => (¬ (nI 300) < 0 ∧ (nI 300).toNatClampNeg ≤ 1000000 ∧ xalloc M6 u3 (nI 300).toNatClampNeg (.inl (0, (nI 300).toNatClampNeg, .inl (fun _ => 0))) fun q4 M7 u4 => (xpf M7 l0 8 3 (.ref q4) fun M8 => (¬ (nI 12) < 0 ∧ (nI 12).toNatClampNeg ≤ 1000000 ∧ xalloc M8 u4 (nI 12).toNatClampNeg (.inl (0, (nI 12).toNatClampNeg, .inl (fun _ => 0))) fun q5 M9 u5 => (xpf M9 l0 8 4 (.ref q5) fun M10 => (¬ (nI 12) < 0 ∧ (nI 12).toNatClampNeg ≤ 1000000 ∧ xalloc M10 u5 (nI 12).toNatClampNeg (.inl (0, (nI 12).toNatClampNeg, .inl (fun _ => 0))) fun q6 M11 u6 => (xpf M11 l0 8 5 (.ref q6) fun M12 => (¬ (nI 12) < 0 ∧ (nI 12).toNatClampNeg ≤ 1000000 ∧ xalloc M12 u6 (nI 12).toNatClampNeg (.inl (0, (nI 12).toNatClampNeg, .inl (fun _ => 0))) fun q7 M13 u7 => (xpf M13 l0 8 6 (.ref q7) fun M14 => (Q none M14))))))))))))))) : K_Text_init sa d Q 0 [some (.ref l0)] [] M u := b_Text_init_0 h
theorem t_Text_init {sa : Nat → Nat} {d : Nat} {Q : xQ} {l0 : Nat} {M : xM} (h : ¬ (nI 300) < 0 ∧ (nI 300).toNatClampNeg ≤ 1000000 ∧ xalloc M (7, 1236) (nI 300).toNatClampNeg (.inl (0, (nI 300).toNatClampNeg, .inl (fun _ => 0))) fun q1 M1 u1 => (xpf M1 l0 8 0 (.ref q1) fun M2 => (¬ (nI 300) < 0 ∧ (nI 300).toNatClampNeg ≤ 1000000 ∧ xalloc M2 u1 (nI 300).toNatClampNeg (.inl (0, (nI 300).toNatClampNeg, .inl (fun _ => 0))) fun q2 M3 u2 => (xpf M3 l0 8 1 (.ref q2) fun M4 => (¬ (nI 300) < 0 ∧ (nI 300).toNatClampNeg ≤ 1000000 ∧ xalloc M4 u2 (nI 300).toNatClampNeg (.inl (0, (nI 300).toNatClampNeg, .inl (fun _ => 0))) fun q3 M5 u3 => (xpf M5 l0 8 2 (.ref q3) fun M6 => (¬ (nI 300) < 0 ∧ (nI 300).toNatClampNeg ≤ 1000000 ∧ xalloc M6 u3 (nI 300).toNatClampNeg (.inl (0, (nI 300).toNatClampNeg, .inl (fun _ => 0))) fun q4 M7 u4 => (xpf M7 l0 8 3 (.ref q4) fun M8 => (¬ (nI 12) < 0 ∧ (nI 12).toNatClampNeg ≤ 1000000 ∧ xalloc M8 u4 (nI 12).toNatClampNeg (.inl (0, (nI 12).toNatClampNeg, .inl (fun _ => 0))) fun q5 M9 u5 => (xpf M9 l0 8 4 (.ref q5) fun M10 => (¬ (nI 12) < 0 ∧ (nI 12).toNatClampNeg ≤ 1000000 ∧ xalloc M10 u5 (nI 12).toNatClampNeg (.inl (0, (nI 12).toNatClampNeg, .inl (fun _ => 0))) fun q6 M11 u6 => (xpf M11 l0 8 5 (.ref q6) fun M12 => (¬ (nI 12) < 0 ∧ (nI 12).toNatClampNeg ≤ 1000000 ∧ xalloc M12 u6 (nI 12).toNatClampNeg (.inl (0, (nI 12).toNatClampNeg, .inl (fun _ => 0))) fun q7 M13 u7 => (xpf M13 l0 8 6 (.ref q7) fun M14 => (Q none M14))))))))))))))) : xEv xP (xprim sa) (d + 1) m_Text_init [.ref l0] M Q := e_Text_init (t_Text_init_0 h)
set_option maxRecDepth 100000 in
theorem t_Text_clear_0 {sa : Nat → Nat} {d : Nat} {Q : xQ} {l0 : Nat} {M : xM} {u : xU} (h : xpf M l0 8 7 (.int (nI 0)) fun M1 => (xpf M1 l0 8 8 (.int (nI 0)) fun M2 => (Q none M2))) : K_Text_clear sa d Q 0 [some (.ref l0)] [] M u := b_Text_clear_0 h
theorem t_Text_clear {sa : Nat → Nat} {d : Nat} {Q : xQ} {l0 : Nat} {M : xM} (h : xpf M l0 8 7 (.int (nI 0)) fun M1 => (xpf M1 l0 8 8 (.int (nI 0)) fun M2 => (Q none M2))) : xEv xP (xprim sa) (d + 1) m_Text_clear [.ref l0] M Q := e_Text_clear (t_Text_clear_0 h)
set_option maxRecDepth 100000 in
theorem t_Text_add_0 {sa : Nat → Nat} {d : Nat} {Q : xQ} {l0 : Nat} {l1 : Int32} {l2 : Int32} {l3 : Int32} {l4 : Int32} {M : xM} {u : xU} (h : xgfI M l0 8 7 fun v1 => (if v1 < (nI 300) then (xgfR M l0 8 0 fun v2 => (xgfI M l0 8 7 fun v3 => (xsI M v2 v3 l1 fun M1 => (xgfR M1 l0 8 1 fun v4 => (xgfI M1 l0 8 7 fun v5 => (xsI M1 v4 v5 l2 fun M2 => (xgfR M2 l0 8 2 fun v6 => (xgfI M2 l0 8 7 fun v7 => (xsI M2 v6 v7 l3 fun M3 => (xgfR M3 l0 8 3 fun v8 => (xgfI M3 l0 8 7 fun v9 => (xsI M3 v8 v9 l4 fun M4 => (xgfI M4 l0 8 7 fun v10 => (xpf M4 l0 8 7 (.int (v10 + (nI 1))) fun M5 => (xgfI M5 l0 8 7 fun v11 => (Q (some (.int (v11 - (nI 1)))) M5)))))))))))))))) else (Q (some (.int (-1 : Int32))) M))) : K_Text_add sa d Q 0 [some (.ref l0), some (.int l1), some (.int l2), some (.int l3), some (.int l4)] [] M u := by
  refine b_Text_add_0 ?_
  refine xgfI_mono (fun _ h => ?_) h
  refine xite_mono (fun h => ?_) (fun h => ?_) h
  · exact b_Text_add_2 h
  · exact b_Text_add_1 h
theorem t_Text_add {sa : Nat → Nat} {d : Nat} {Q : xQ} {l0 : Nat} {l1 : Int32} {l2 : Int32} {l3 : Int32} {l4 : Int32} {M : xM} (h : xgfI M l0 8 7 fun v1 => (if v1 < (nI 300) then (xgfR M l0 8 0 fun v2 => (xgfI M l0 8 7 fun v3 => (xsI M v2 v3 l1 fun M1 => (xgfR M1 l0 8 1 fun v4 => (xgfI M1 l0 8 7 fun v5 => (xsI M1 v4 v5 l2 fun M2 => (xgfR M2 l0 8 2 fun v6 => (xgfI M2 l0 8 7 fun v7 => (xsI M2 v6 v7 l3 fun M3 => (xgfR M3 l0 8 3 fun v8 => (xgfI M3 l0 8 7 fun v9 => (xsI M3 v8 v9 l4 fun M4 => (xgfI M4 l0 8 7 fun v10 => (xpf M4 l0 8 7 (.int (v10 + (nI 1))) fun M5 => (xgfI M5 l0 8 7 fun v11 => (Q (some (.int (v11 - (nI 1)))) M5)))))))))))))))) else (Q (some (.int (-1 : Int32))) M))) : xEv xP (xprim sa) (d + 1) m_Text_add [.ref l0, .int l1, .int l2, .int l3, .int l4] M Q := e_Text_add (t_Text_add_0 h)
set_option maxRecDepth 100000 in
theorem t_Text_skipFrom_0 {sa : Nat → Nat} {d : Nat} {Q : xQ} {l0 : Nat} {l1 : Int32} {l2 : Int32} {M : xM} {u : xU} (h : if l1 < 0 then (Q none M) else (xgfI M l0 8 7 fun v1 => (if v1 ≤ l1 then (Q none M) else (xgfR M l0 8 2 fun v2 => (xsI M v2 l1 l2 fun M1 => (Q none M1)))))) : K_Text_skipFrom sa d Q 0 [some (.ref l0), some (.int l1), some (.int l2)] [] M u := by
  refine b_Text_skipFrom_0 ?_
  refine xite_mono (fun h => ?_) (fun h => ?_) h
  · exact b_Text_skipFrom_3 h
  · refine b_Text_skipFrom_1 ?_
    refine xgfI_mono (fun _ h => ?_) h
    refine xite_mono (fun h => ?_) (fun h => ?_) h
    · exact b_Text_skipFrom_3 h
    · refine b_Text_skipFrom_2 ?_
      refine xgfR_mono (fun _ h => ?_) h
      refine xsI_mono (fun _ h => ?_) h
      exact b_Text_skipFrom_3 h
theorem t_Text_skipFrom {sa : Nat → Nat} {d : Nat} {Q : xQ} {l0 : Nat} {l1 : Int32} {l2 : Int32} {M : xM} (h : if l1 < 0 then (Q none M) else (xgfI M l0 8 7 fun v1 => (if v1 ≤ l1 then (Q none M) else (xgfR M l0 8 2 fun v2 => (xsI M v2 l1 l2 fun M1 => (Q none M1)))))) : xEv xP (xprim sa) (d + 1) m_Text_skipFrom [.ref l0, .int l1, .int l2] M Q := e_Text_skipFrom (t_Text_skipFrom_0 h)
set_option maxRecDepth 100000 in
theorem t_Text_addClause_0 {sa : Nat → Nat} {d : Nat} {Q : xQ} {l0 : Nat} {l1 : Int32} {l2 : Int32} {l3 : Int32} {M : xM} {u : xU} (h : xgfI M l0 8 8 fun v1 => (if (nI 12) ≤ v1 then (Q none M) else (xgfR M l0 8 4 fun v2 => (xgfI M l0 8 8 fun v3 => (xsI M v2 v3 l1 fun M1 => (xgfR M1 l0 8 5 fun v4 => (xgfI M1 l0 8 8 fun v5 => (xsI M1 v4 v5 l2 fun M2 => (xgfR M2 l0 8 6 fun v6 => (xgfI M2 l0 8 8 fun v7 => (xsI M2 v6 v7 l3 fun M3 => (xgfI M3 l0 8 8 fun v8 => (xpf M3 l0 8 8 (.int (v8 + (nI 1))) fun M4 => (Q none M4)))))))))))))) : K_Text_addClause sa d Q 0 [some (.ref l0), some (.int l1), some (.int l2), some (.int l3)] [] M u := by
  refine b_Text_addClause_0 ?_
  refine xgfI_mono (fun _ h => ?_) h
  refine xite_mono (fun h => ?_) (fun h => ?_) h
  · exact b_Text_addClause_2 h
  · refine b_Text_addClause_1 ?_
    refine xgfR_mono (fun _ h => ?_) h
    refine xgfI_mono (fun _ h => ?_) h
    refine xsI_mono (fun _ h => ?_) h
    refine xgfR_mono (fun _ h => ?_) h
    refine xgfI_mono (fun _ h => ?_) h
    refine xsI_mono (fun _ h => ?_) h
    refine xgfR_mono (fun _ h => ?_) h
    refine xgfI_mono (fun _ h => ?_) h
    refine xsI_mono (fun _ h => ?_) h
    refine xgfI_mono (fun _ h => ?_) h
    refine xpf_mono (fun _ h => ?_) h
    exact b_Text_addClause_2 h
theorem t_Text_addClause {sa : Nat → Nat} {d : Nat} {Q : xQ} {l0 : Nat} {l1 : Int32} {l2 : Int32} {l3 : Int32} {M : xM} (h : xgfI M l0 8 8 fun v1 => (if (nI 12) ≤ v1 then (Q none M) else (xgfR M l0 8 4 fun v2 => (xgfI M l0 8 8 fun v3 => (xsI M v2 v3 l1 fun M1 => (xgfR M1 l0 8 5 fun v4 => (xgfI M1 l0 8 8 fun v5 => (xsI M1 v4 v5 l2 fun M2 => (xgfR M2 l0 8 6 fun v6 => (xgfI M2 l0 8 8 fun v7 => (xsI M2 v6 v7 l3 fun M3 => (xgfI M3 l0 8 8 fun v8 => (xpf M3 l0 8 8 (.int (v8 + (nI 1))) fun M4 => (Q none M4)))))))))))))) : xEv xP (xprim sa) (d + 1) m_Text_addClause [.ref l0, .int l1, .int l2, .int l3] M Q := e_Text_addClause (t_Text_addClause_0 h)
set_option maxRecDepth 100000 in
theorem t_Text_clauseOf_0 {sa : Nat → Nat} {d : Nat} {Q : xQ} {l0 : Nat} {l1 : Int32} {M : xM} {u : xU} (h : K_Text_clauseOf sa d Q 1 [some (.ref l0), some (.int l1), some (.int (nI 0))] [] M u) : K_Text_clauseOf sa d Q 0 [some (.ref l0), some (.int l1), none] [] M u := b_Text_clauseOf_0 h
set_option maxRecDepth 100000 in
theorem t_Text_clauseOf_1 {sa : Nat → Nat} {d : Nat} {Q : xQ} {l0 : Nat} {l1 : Int32} {l2 : Int32} {M : xM} {u : xU} (h : xgfI M l0 8 8 fun v1 => (if v1 ≤ l2 then (Q (some (.int (-1 : Int32))) M) else (xgfR M l0 8 4 fun v2 => (xaI M v2 l2 fun v3 => (if ¬ v3 = l1 then K_Text_clauseOf sa d Q 1 [some (.ref l0), some (.int l1), some (.int (l2 + (nI 1)))] [] M u else (Q (some (.int l2)) M)))))) : K_Text_clauseOf sa d Q 1 [some (.ref l0), some (.int l1), some (.int l2)] [] M u := by
  refine b_Text_clauseOf_1 ?_
  refine xgfI_mono (fun _ h => ?_) h
  refine xite_mono (fun h => ?_) (fun h => ?_) h
  · exact b_Text_clauseOf_5 h
  · refine b_Text_clauseOf_2 ?_
    refine xgfR_mono (fun _ h => ?_) h
    refine xaI_mono (fun _ h => ?_) h
    refine xite_mono (fun h => ?_) (fun h => ?_) h
    · exact b_Text_clauseOf_4 h
    · exact b_Text_clauseOf_3 h
theorem t_Text_clauseOf {sa : Nat → Nat} {d : Nat} {Q : xQ} {l0 : Nat} {l1 : Int32} {M : xM} (h : K_Text_clauseOf sa d Q 1 [some (.ref l0), some (.int l1), some (.int (nI 0))] [] M (0, 0)) : xEv xP (xprim sa) (d + 1) m_Text_clauseOf [.ref l0, .int l1] M Q := e_Text_clauseOf (t_Text_clauseOf_0 h)
set_option maxRecDepth 100000 in
theorem t_Tries_init_0 {sa : Nat → Nat} {d : Nat} {Q : xQ} {l0 : Nat} {l1 : Int32} {l2 : Nat} {M : xM} {u : xU} (h : ¬ (nI 10) < 0 ∧ ¬ (nI 40) < 0 ∧ (nI 10).toNatClampNeg ≤ 1000000 ∧ (nI 40).toNatClampNeg ≤ 1000000 ∧ xmul M u (nI 10).toNatClampNeg (nI 40).toNatClampNeg fun q1 M1 u1 => (xpf M1 l0 9 4 (.ref q1) fun M2 => (xpf M2 l0 9 0 (.int l1) fun M3 => (xpf M3 l0 9 1 (.ref l2) fun M4 => (xalloc M4 u1 5 (.inr (4, [.null, .null, .null, .int 0, .int 0])) fun q2 M5 u2 => (3 ≤ u2.1 ∧ 27 ≤ u2.2 ∧ xEv xP (xprim sa) d m_Moment_init [.ref q2, .int l1] M5 (xrV fun M6 => xpf M6 l0 9 2 (.ref q2) fun M7 => (xalloc M7 (u2.1 - 3, u2.2 - 27) 5 (.inr (4, [.null, .null, .null, .int 0, .int 0])) fun q3 M8 u3 => (3 ≤ u3.1 ∧ 27 ≤ u3.2 ∧ xEv xP (xprim sa) d m_Moment_init [.ref q3, .int l1] M8 (xrV fun M9 => xpf M9 l0 9 3 (.ref q3) fun M10 => (Q none M10))))))))))) : K_Tries_init sa d Q 0 [some (.ref l0), some (.int l1), some (.ref l2)] [] M u := b_Tries_init_0 h
theorem t_Tries_init {sa : Nat → Nat} {d : Nat} {Q : xQ} {l0 : Nat} {l1 : Int32} {l2 : Nat} {M : xM} (h : ¬ (nI 10) < 0 ∧ ¬ (nI 40) < 0 ∧ (nI 10).toNatClampNeg ≤ 1000000 ∧ (nI 40).toNatClampNeg ≤ 1000000 ∧ xmul M (19, 474) (nI 10).toNatClampNeg (nI 40).toNatClampNeg fun q1 M1 u1 => (xpf M1 l0 9 4 (.ref q1) fun M2 => (xpf M2 l0 9 0 (.int l1) fun M3 => (xpf M3 l0 9 1 (.ref l2) fun M4 => (xalloc M4 u1 5 (.inr (4, [.null, .null, .null, .int 0, .int 0])) fun q2 M5 u2 => (3 ≤ u2.1 ∧ 27 ≤ u2.2 ∧ xEv xP (xprim sa) d m_Moment_init [.ref q2, .int l1] M5 (xrV fun M6 => xpf M6 l0 9 2 (.ref q2) fun M7 => (xalloc M7 (u2.1 - 3, u2.2 - 27) 5 (.inr (4, [.null, .null, .null, .int 0, .int 0])) fun q3 M8 u3 => (3 ≤ u3.1 ∧ 27 ≤ u3.2 ∧ xEv xP (xprim sa) d m_Moment_init [.ref q3, .int l1] M8 (xrV fun M9 => xpf M9 l0 9 3 (.ref q3) fun M10 => (Q none M10))))))))))) : xEv xP (xprim sa) (d + 1) m_Tries_init [.ref l0, .int l1, .ref l2] M Q := e_Tries_init (t_Tries_init_0 h)
set_option maxRecDepth 100000 in
theorem t_Tries_agreement_0 {sa : Nat → Nat} {d : Nat} {Q : xQ} {l0 : Nat} {l1 : Nat} {l2 : Int32} {M : xM} {u : xU} (h : xgfR M l0 9 2 fun v1 => (xobj M v1 4 ∧ xEv xP (xprim sa) d m_Moment_begin [.ref v1, .ref l1] M (xrV fun M1 => K_Tries_agreement sa d Q 1 [some (.ref l0), some (.ref l1), some (.int l2), some (.int (-1 : Int32)), some (.int (-1 : Int32)), some (.int (nI 0)), some (.int (nI 0))] [] M1 u))) : K_Tries_agreement sa d Q 0 [some (.ref l0), some (.ref l1), some (.int l2), none, none, none, none] [] M u := b_Tries_agreement_0 h
set_option maxRecDepth 100000 in
theorem t_Tries_agreement_1 {sa : Nat → Nat} {d : Nat} {Q : xQ} {l0 : Nat} {l1 : Nat} {l2 : Int32} {l3 : Int32} {l4 : Int32} {l5 : Int32} {l6 : Int32} {M : xM} {u : xU} (h : if (nI 40) < l6 then (if l2 = 0 then (Q (some (.int l3)) M) else (Q (some (.int l4)) M)) else (xgfR M l0 9 2 fun v1 => (xobj M v1 4 ∧ xEv xP (xprim sa) d m_Moment_countNotes [.ref v1] M (xrI fun r1 M1 => xgfR M1 l0 9 1 fun v2 => (xgfR M1 l0 9 2 fun v3 => (xobj M1 v2 2 ∧ xEv xP (xprim sa) d m_Hall_isAgreed [.ref v2, .ref l1, .ref v3] M1 (xrI fun r2 M2 => if ¬ r2 = 0 then (if ¬ l3 = (-1 : Int32) then (xgfR M2 l0 9 1 fun v4 => (xgfR M2 l0 9 2 fun v5 => (xobj M2 v4 2 ∧ xEv xP (xprim sa) d m_Hall_pass [.ref v4, .ref l1, .ref v5] M2 (xrV fun M3 => K_Tries_agreement sa d Q 1 [some (.ref l0), some (.ref l1), some (.int l2), some (.int l3), some (.int l4), some (.int (l5 + r1)), some (.int (l6 + (nI 1)))] [] M3 u)))) else (xgfR M2 l0 9 1 fun v6 => (xgfR M2 l0 9 2 fun v7 => (xobj M2 v6 2 ∧ xEv xP (xprim sa) d m_Hall_pass [.ref v6, .ref l1, .ref v7] M2 (xrV fun M4 => K_Tries_agreement sa d Q 1 [some (.ref l0), some (.ref l1), some (.int l2), some (.int l6), some (.int (l5 + r1)), some (.int (l5 + r1)), some (.int (l6 + (nI 1)))] [] M4 u))))) else (xgfR M2 l0 9 1 fun v8 => (xgfR M2 l0 9 2 fun v9 => (xobj M2 v8 2 ∧ xEv xP (xprim sa) d m_Hall_pass [.ref v8, .ref l1, .ref v9] M2 (xrV fun M5 => K_Tries_agreement sa d Q 1 [some (.ref l0), some (.ref l1), some (.int l2), some (.int (-1 : Int32)), some (.int (-1 : Int32)), some (.int (l5 + r1)), some (.int (l6 + (nI 1)))] [] M5 u))))))))))) : K_Tries_agreement sa d Q 1 [some (.ref l0), some (.ref l1), some (.int l2), some (.int l3), some (.int l4), some (.int l5), some (.int l6)] [] M u := by
  refine b_Tries_agreement_1 ?_
  refine xite_mono (fun h => ?_) (fun h => ?_) h
  · refine b_Tries_agreement_7 ?_
    refine xite_mono (fun h => ?_) (fun h => ?_) h
    · refine b_Tries_agreement_9 ?_
      exact b_Tries_agreement_10 h
    · refine b_Tries_agreement_8 ?_
      exact b_Tries_agreement_10 h
  · refine b_Tries_agreement_2 ?_
    refine xgfR_mono (fun _ h => ?_) h
    obtain ⟨hz, h⟩ := h
    refine ⟨hz, ?_⟩
    refine xEv_post' _ _ _ _ _ (xrI_mono (fun _ _ h => ?_)) h
    refine xgfR_mono (fun _ h => ?_) h
    refine xgfR_mono (fun _ h => ?_) h
    obtain ⟨hz, h⟩ := h
    refine ⟨hz, ?_⟩
    refine xEv_post' _ _ _ _ _ (xrI_mono (fun _ _ h => ?_)) h
    refine xite_mono (fun h => ?_) (fun h => ?_) h
    · refine b_Tries_agreement_4 ?_
      refine xite_mono (fun h => ?_) (fun h => ?_) h
      · exact b_Tries_agreement_6 h
      · refine b_Tries_agreement_5 ?_
        exact b_Tries_agreement_6 h
    · refine b_Tries_agreement_3 ?_
      exact b_Tries_agreement_6 h
theorem t_Tries_agreement {sa : Nat → Nat} {d : Nat} {Q : xQ} {l0 : Nat} {l1 : Nat} {l2 : Int32} {M : xM} (h : xgfR M l0 9 2 fun v1 => (xobj M v1 4 ∧ xEv xP (xprim sa) d m_Moment_begin [.ref v1, .ref l1] M (xrV fun M1 => K_Tries_agreement sa d Q 1 [some (.ref l0), some (.ref l1), some (.int l2), some (.int (-1 : Int32)), some (.int (-1 : Int32)), some (.int (nI 0)), some (.int (nI 0))] [] M1 (0, 0)))) : xEv xP (xprim sa) (d + 1) m_Tries_agreement [.ref l0, .ref l1, .int l2] M Q := e_Tries_agreement (t_Tries_agreement_0 h)
set_option maxRecDepth 100000 in
theorem t_Tries_slipsTo_0 {sa : Nat → Nat} {d : Nat} {Q : xQ} {l0 : Nat} {l1 : Nat} {l2 : Int32} {l3 : Int32} {l4 : Int32} {l5 : Int32} {M : xM} {u : xU} (h : xgfR M l0 9 2 fun v1 => (xobj M v1 4 ∧ xEv xP (xprim sa) d m_Moment_begin [.ref v1, .ref l1] M (xrV fun M1 => K_Tries_slipsTo sa d Q 1 [some (.ref l0), some (.ref l1), some (.int l2), some (.int l3), some (.int l4), some (.int l5), some (.int (nI 0)), some (.int (nI 0)), none, none] [] M1 u))) : K_Tries_slipsTo sa d Q 0 [some (.ref l0), some (.ref l1), some (.int l2), some (.int l3), some (.int l4), some (.int l5), none, none, none, none] [] M u := b_Tries_slipsTo_0 h
set_option maxRecDepth 100000 in
theorem t_Tries_slipsTo_1 {sa : Nat → Nat} {d : Nat} {Q : xQ} {l0 : Nat} {l1 : Nat} {l2 : Int32} {l3 : Int32} {l4 : Int32} {l5 : Int32} {l6 : Int32} {l7 : Int32} {M : xM} {u : xU} (h : if l2 ≤ l7 then (if ¬ l5 = (-1 : Int32) then (Q (some (.int (-1 : Int32))) M) else (Q (some (.int l6)) M)) else (xgfR M l0 9 1 fun v1 => (xgfR M l0 9 2 fun v2 => (xobj M v1 2 ∧ xEv xP (xprim sa) d m_Hall_pass [.ref v1, .ref l1, .ref v2] M (xrV fun M1 => K_Tries_slipsTo sa d Q 3 [some (.ref l0), some (.ref l1), some (.int l2), some (.int l3), some (.int l4), some (.int l5), some (.int l6), some (.int l7), some (.int (nI 0)), none] [] M1 u))))) : K_Tries_slipsTo sa d Q 1 [some (.ref l0), some (.ref l1), some (.int l2), some (.int l3), some (.int l4), some (.int l5), some (.int l6), some (.int l7), none, none] [] M u := by
  refine b_Tries_slipsTo_1 ?_
  refine xite_mono (fun h => ?_) (fun h => ?_) h
  · refine b_Tries_slipsTo_15 ?_
    refine xite_mono (fun h => ?_) (fun h => ?_) h
    · refine b_Tries_slipsTo_17 ?_
      exact b_Tries_slipsTo_18 h
    · refine b_Tries_slipsTo_16 ?_
      exact b_Tries_slipsTo_18 h
  · exact b_Tries_slipsTo_2 h
set_option maxRecDepth 100000 in
theorem t_Tries_slipsTo_3 {sa : Nat → Nat} {d : Nat} {Q : xQ} {l0 : Nat} {l1 : Nat} {l2 : Int32} {l3 : Int32} {l4 : Int32} {l5 : Int32} {l6 : Int32} {l7 : Int32} {l8 : Int32} {M : xM} {u : xU} (h : xgfI M l0 9 0 fun v1 => (if ((nI 2) * v1) ≤ l8 then K_Tries_slipsTo sa d Q 1 [some (.ref l0), some (.ref l1), some (.int l2), some (.int l3), some (.int l4), some (.int l5), some (.int l6), some (.int (l7 + (nI 1))), none, none] [] M u else (xobj M l0 9 ∧ xEv xP (xprim sa) d m_Tries_slip [.ref l0, .int l8] M (xrI fun r1 M1 => if ¬ r1 = 0 then K_Tries_slipsTo sa d Q 7 [some (.ref l0), some (.ref l1), some (.int l2), some (.int l3), some (.int l4), some (.int l5), some (.int l6), some (.int l7), some (.int l8), some (.int (l7 + (nI 1)))] [] M1 u else K_Tries_slipsTo sa d Q 3 [some (.ref l0), some (.ref l1), some (.int l2), some (.int l3), some (.int l4), some (.int l5), some (.int l6), some (.int l7), some (.int (l8 + (nI 1))), none] [] M1 u)))) : K_Tries_slipsTo sa d Q 3 [some (.ref l0), some (.ref l1), some (.int l2), some (.int l3), some (.int l4), some (.int l5), some (.int l6), some (.int l7), some (.int l8), none] [] M u := by
  refine b_Tries_slipsTo_3 ?_
  refine xgfI_mono (fun _ h => ?_) h
  refine xite_mono (fun h => ?_) (fun h => ?_) h
  · exact b_Tries_slipsTo_14 h
  · refine b_Tries_slipsTo_4 ?_
    obtain ⟨hz, h⟩ := h
    refine ⟨hz, ?_⟩
    refine xEv_post' _ _ _ _ _ (xrI_mono (fun _ _ h => ?_)) h
    refine xite_mono (fun h => ?_) (fun h => ?_) h
    · exact b_Tries_slipsTo_6 h
    · refine b_Tries_slipsTo_5 ?_
      exact b_Tries_slipsTo_13 h
set_option maxRecDepth 100000 in
theorem t_Tries_slipsTo_7 {sa : Nat → Nat} {d : Nat} {Q : xQ} {l0 : Nat} {l1 : Nat} {l2 : Int32} {l3 : Int32} {l4 : Int32} {l5 : Int32} {l6 : Int32} {l7 : Int32} {l8 : Int32} {l9 : Int32} {M : xM} {u : xU} (h : if l2 ≤ l9 then (xgfR M l0 9 1 fun v1 => (xgfR M l0 9 3 fun v2 => (xobj M v1 2 ∧ xEv xP (xprim sa) d m_Hall_wordOf [.ref v1, .ref l1, .ref v2, .int l3] M (xrI fun r1 M1 => if ¬ r1 = l4 then K_Tries_slipsTo sa d Q 3 [some (.ref l0), some (.ref l1), some (.int l2), some (.int l3), some (.int l4), some (.int l5), some (.int l6), some (.int l7), some (.int (l8 + (nI 1))), none] [] M1 u else (if ¬ l6 = l5 then K_Tries_slipsTo sa d Q 3 [some (.ref l0), some (.ref l1), some (.int l2), some (.int l3), some (.int l4), some (.int l5), some (.int (l6 + (nI 1))), some (.int l7), some (.int (l8 + (nI 1))), none] [] M1 u else (¬ (nI 2) = 0 ∧ ¬ (nI 2) = 0 ∧ Q (some (.int ((((nI 100) * l7) + ((nI 10) * (l8 / (nI 2)))) + (l8 - l8 / (nI 2) * (nI 2))))) M1)))))) else (xgfR M l0 9 1 fun v3 => (xgfR M l0 9 3 fun v4 => (xobj M v3 2 ∧ xEv xP (xprim sa) d m_Hall_pass [.ref v3, .ref l1, .ref v4] M (xrV fun M2 => K_Tries_slipsTo sa d Q 7 [some (.ref l0), some (.ref l1), some (.int l2), some (.int l3), some (.int l4), some (.int l5), some (.int l6), some (.int l7), some (.int l8), some (.int (l9 + (nI 1)))] [] M2 u))))) : K_Tries_slipsTo sa d Q 7 [some (.ref l0), some (.ref l1), some (.int l2), some (.int l3), some (.int l4), some (.int l5), some (.int l6), some (.int l7), some (.int l8), some (.int l9)] [] M u := by
  refine b_Tries_slipsTo_7 ?_
  refine xite_mono (fun h => ?_) (fun h => ?_) h
  · refine b_Tries_slipsTo_9 ?_
    refine xgfR_mono (fun _ h => ?_) h
    refine xgfR_mono (fun _ h => ?_) h
    obtain ⟨hz, h⟩ := h
    refine ⟨hz, ?_⟩
    refine xEv_post' _ _ _ _ _ (xrI_mono (fun _ _ h => ?_)) h
    refine xite_mono (fun h => ?_) (fun h => ?_) h
    · exact b_Tries_slipsTo_13 h
    · refine b_Tries_slipsTo_10 ?_
      refine xite_mono (fun h => ?_) (fun h => ?_) h
      · refine b_Tries_slipsTo_12 ?_
        exact b_Tries_slipsTo_13 h
      · exact b_Tries_slipsTo_11 h
  · exact b_Tries_slipsTo_8 h
theorem t_Tries_slipsTo {sa : Nat → Nat} {d : Nat} {Q : xQ} {l0 : Nat} {l1 : Nat} {l2 : Int32} {l3 : Int32} {l4 : Int32} {l5 : Int32} {M : xM} (h : xgfR M l0 9 2 fun v1 => (xobj M v1 4 ∧ xEv xP (xprim sa) d m_Moment_begin [.ref v1, .ref l1] M (xrV fun M1 => K_Tries_slipsTo sa d Q 1 [some (.ref l0), some (.ref l1), some (.int l2), some (.int l3), some (.int l4), some (.int l5), some (.int (nI 0)), some (.int (nI 0)), none, none] [] M1 (0, 0)))) : xEv xP (xprim sa) (d + 1) m_Tries_slipsTo [.ref l0, .ref l1, .int l2, .int l3, .int l4, .int l5] M Q := e_Tries_slipsTo (t_Tries_slipsTo_0 h)
set_option maxRecDepth 100000 in
theorem t_Tries_slip_0 {sa : Nat → Nat} {d : Nat} {Q : xQ} {l0 : Nat} {l1 : Int32} {M : xM} {u : xU} (h : ¬ (nI 2) = 0 ∧ ¬ (nI 2) = 0 ∧ if ¬ (l1 - l1 / (nI 2) * (nI 2)) = 0 then K_Tries_slip sa d Q 3 [some (.ref l0), none, some (.int (l1 / (nI 2))), none, none, none, none] [.int (nI 0)] M u else K_Tries_slip sa d Q 3 [some (.ref l0), none, some (.int (l1 / (nI 2))), none, none, none, none] [.int (nI 1)] M u) : K_Tries_slip sa d Q 0 [some (.ref l0), some (.int l1), none, none, none, none, none] [] M u := by
  refine b_Tries_slip_0 ?_
  obtain ⟨hz, h⟩ := h
  refine ⟨hz, ?_⟩
  obtain ⟨hz, h⟩ := h
  refine ⟨hz, ?_⟩
  refine xite_mono (fun h => ?_) (fun h => ?_) h
  · exact b_Tries_slip_2 h
  · exact b_Tries_slip_1 h
set_option maxRecDepth 100000 in
theorem t_Tries_slip_3 {sa : Nat → Nat} {d : Nat} {Q : xQ} {l0 : Nat} {l2 : Int32} {s0 : Int32} {M : xM} {u : xU} (h : if s0 = 0 then (xgfR M l0 9 1 fun v1 => (xobj M v1 2 ∧ xEv xP (xprim sa) d m_Hall_rightOf [.ref v1, .int l2] M (xrI fun r1 M1 => K_Tries_slip sa d Q 6 [some (.ref l0), none, none, some (.int s0), none, none, none] [.int r1] M1 u))) else (xgfR M l0 9 1 fun v2 => (xobj M v2 2 ∧ xEv xP (xprim sa) d m_Hall_leftOf [.ref v2, .int l2] M (xrI fun r2 M2 => K_Tries_slip sa d Q 6 [some (.ref l0), none, none, some (.int s0), none, none, none] [.int r2] M2 u)))) : K_Tries_slip sa d Q 3 [some (.ref l0), none, some (.int l2), none, none, none, none] [.int s0] M u := by
  refine b_Tries_slip_3 ?_
  refine xite_mono (fun h => ?_) (fun h => ?_) h
  · exact b_Tries_slip_5 h
  · exact b_Tries_slip_4 h
set_option maxRecDepth 100000 in
theorem t_Tries_slip_6 {sa : Nat → Nat} {d : Nat} {Q : xQ} {l0 : Nat} {l3 : Int32} {s0 : Int32} {M : xM} {u : xU} (h : if l3 = 0 then (xgfR M l0 9 2 fun v1 => (xgfR M v1 4 1 fun v2 => (xaI M v2 s0 fun v3 => (K_Tries_slip sa d Q 9 [some (.ref l0), none, none, some (.int l3), some (.int s0), none, none] [.int v3] M u)))) else (xgfR M l0 9 2 fun v4 => (xgfR M v4 4 2 fun v5 => (xaI M v5 s0 fun v6 => (K_Tries_slip sa d Q 9 [some (.ref l0), none, none, some (.int l3), some (.int s0), none, none] [.int v6] M u))))) : K_Tries_slip sa d Q 6 [some (.ref l0), none, none, some (.int l3), none, none, none] [.int s0] M u := by
  refine b_Tries_slip_6 ?_
  refine xite_mono (fun h => ?_) (fun h => ?_) h
  · exact b_Tries_slip_8 h
  · exact b_Tries_slip_7 h
set_option maxRecDepth 100000 in
theorem t_Tries_slip_9 {sa : Nat → Nat} {d : Nat} {Q : xQ} {l0 : Nat} {l3 : Int32} {l4 : Int32} {s0 : Int32} {M : xM} {u : xU} (h : if ¬ s0 = (-1 : Int32) then (if (nI 99) ≤ s0 then (xgfR M l0 9 3 fun v1 => (xgfR M l0 9 2 fun v2 => (xobj M v1 4 ∧ xEv xP (xprim sa) d m_Moment_copyFrom [.ref v1, .ref v2] M (xrV fun M1 => if l3 = 0 then (xgfR M1 l0 9 3 fun v3 => (xgfR M1 v3 4 1 fun v4 => (xsI M1 v4 l4 (nI 0) fun M2 => (((nI 1) = 0 ∨ (nI 1) = 1) ∧ Q (some (.int (nI 1))) M2)))) else (xgfR M1 l0 9 3 fun v5 => (xgfR M1 v5 4 2 fun v6 => (xsI M1 v6 l4 (nI 0) fun M3 => (((nI 1) = 0 ∨ (nI 1) = 1) ∧ Q (some (.int (nI 1))) M3)))))))) else (xgfR M l0 9 3 fun v7 => (xgfR M l0 9 2 fun v8 => (xobj M v7 4 ∧ xEv xP (xprim sa) d m_Moment_copyFrom [.ref v7, .ref v8] M (xrV fun M4 => if l3 = 0 then (xgfR M4 l0 9 3 fun v9 => (xgfR M4 v9 4 1 fun v10 => (xsI M4 v10 l4 (s0 + (nI 1)) fun M5 => (((nI 1) = 0 ∨ (nI 1) = 1) ∧ Q (some (.int (nI 1))) M5)))) else (xgfR M4 l0 9 3 fun v11 => (xgfR M4 v11 4 2 fun v12 => (xsI M4 v12 l4 (s0 + (nI 1)) fun M6 => (((nI 1) = 0 ∨ (nI 1) = 1) ∧ Q (some (.int (nI 1))) M6))))))))) else (((nI 0) = 0 ∨ (nI 0) = 1) ∧ Q (some (.int (nI 0))) M)) : K_Tries_slip sa d Q 9 [some (.ref l0), none, none, some (.int l3), some (.int l4), none, none] [.int s0] M u := by
  refine b_Tries_slip_9 ?_
  refine xite_mono (fun h => ?_) (fun h => ?_) h
  · refine b_Tries_slip_11 ?_
    refine xite_mono (fun h => ?_) (fun h => ?_) h
    · refine b_Tries_slip_13 ?_
      refine b_Tries_slip_14 ?_
      refine xgfR_mono (fun _ h => ?_) h
      refine xgfR_mono (fun _ h => ?_) h
      obtain ⟨hz, h⟩ := h
      refine ⟨hz, ?_⟩
      refine xEv_post' _ _ _ _ _ (xrV_mono (fun _ h => ?_)) h
      refine xite_mono (fun h => ?_) (fun h => ?_) h
      · refine b_Tries_slip_16 ?_
        refine xgfR_mono (fun _ h => ?_) h
        refine xgfR_mono (fun _ h => ?_) h
        refine xsI_mono (fun _ h => ?_) h
        exact b_Tries_slip_17 h
      · refine b_Tries_slip_15 ?_
        refine xgfR_mono (fun _ h => ?_) h
        refine xgfR_mono (fun _ h => ?_) h
        refine xsI_mono (fun _ h => ?_) h
        exact b_Tries_slip_17 h
    · refine b_Tries_slip_12 ?_
      refine b_Tries_slip_14 ?_
      refine xgfR_mono (fun _ h => ?_) h
      refine xgfR_mono (fun _ h => ?_) h
      obtain ⟨hz, h⟩ := h
      refine ⟨hz, ?_⟩
      refine xEv_post' _ _ _ _ _ (xrV_mono (fun _ h => ?_)) h
      refine xite_mono (fun h => ?_) (fun h => ?_) h
      · refine b_Tries_slip_16 ?_
        refine xgfR_mono (fun _ h => ?_) h
        refine xgfR_mono (fun _ h => ?_) h
        refine xsI_mono (fun _ h => ?_) h
        exact b_Tries_slip_17 h
      · refine b_Tries_slip_15 ?_
        refine xgfR_mono (fun _ h => ?_) h
        refine xgfR_mono (fun _ h => ?_) h
        refine xsI_mono (fun _ h => ?_) h
        exact b_Tries_slip_17 h
  · exact b_Tries_slip_10 h
theorem t_Tries_slip {sa : Nat → Nat} {d : Nat} {Q : xQ} {l0 : Nat} {l1 : Int32} {M : xM} (h : ¬ (nI 2) = 0 ∧ ¬ (nI 2) = 0 ∧ if ¬ (l1 - l1 / (nI 2) * (nI 2)) = 0 then K_Tries_slip sa d Q 3 [some (.ref l0), none, some (.int (l1 / (nI 2))), none, none, none, none] [.int (nI 0)] M (0, 0) else K_Tries_slip sa d Q 3 [some (.ref l0), none, some (.int (l1 / (nI 2))), none, none, none, none] [.int (nI 1)] M (0, 0)) : xEv xP (xprim sa) (d + 1) m_Tries_slip [.ref l0, .int l1] M Q := e_Tries_slip (t_Tries_slip_0 h)
set_option maxRecDepth 100000 in
theorem t_Tries_unlikeRows_0 {sa : Nat → Nat} {d : Nat} {Q : xQ} {l0 : Nat} {l1 : Nat} {l2 : Int32} {l3 : Int32} {l4 : Int32} {M : xM} {u : xU} (h : K_Tries_unlikeRows sa d Q 1 [some (.ref l0), some (.ref l1), some (.int l2), some (.int l3), some (.int l4), some (.int (nI 0)), some (.int (nI 0)), none, none] [] M u) : K_Tries_unlikeRows sa d Q 0 [some (.ref l0), some (.ref l1), some (.int l2), some (.int l3), some (.int l4), none, none, none, none] [] M u := b_Tries_unlikeRows_0 h
set_option maxRecDepth 100000 in
theorem t_Tries_unlikeRows_1 {sa : Nat → Nat} {d : Nat} {Q : xQ} {l0 : Nat} {l1 : Nat} {l2 : Int32} {l3 : Int32} {l4 : Int32} {l5 : Int32} {l6 : Int32} {M : xM} {u : xU} (h : if (nI 9) < l6 then (Q (some (.int l5)) M) else (xgfR M l1 0 1 fun v1 => (xsI M v1 l4 l6 fun M1 => (xgfR M1 l0 9 4 fun v2 => (xaR M1 v2 l6 fun v3 => (xobj M1 l0 9 ∧ xEv xP (xprim sa) d m_Tries_watch [.ref l0, .ref l1, .int l2, .int l3, .ref v3] M1 (xrV fun M2 => K_Tries_unlikeRows sa d Q 3 [some (.ref l0), some (.ref l1), some (.int l2), some (.int l3), some (.int l4), some (.int l5), some (.int l6), some (.int (nI 1)), some (.int (nI 0))] [] M2 u))))))) : K_Tries_unlikeRows sa d Q 1 [some (.ref l0), some (.ref l1), some (.int l2), some (.int l3), some (.int l4), some (.int l5), some (.int l6), none, none] [] M u := by
  refine b_Tries_unlikeRows_1 ?_
  refine xite_mono (fun h => ?_) (fun h => ?_) h
  · exact b_Tries_unlikeRows_13 h
  · exact b_Tries_unlikeRows_2 h
set_option maxRecDepth 100000 in
theorem t_Tries_unlikeRows_3 {sa : Nat → Nat} {d : Nat} {Q : xQ} {l0 : Nat} {l1 : Nat} {l2 : Int32} {l3 : Int32} {l4 : Int32} {l5 : Int32} {l6 : Int32} {l7 : Int32} {l8 : Int32} {M : xM} {u : xU} (h : if l6 ≤ l8 then (if l7 = 0 then K_Tries_unlikeRows sa d Q 1 [some (.ref l0), some (.ref l1), some (.int l2), some (.int l3), some (.int l4), some (.int (l5 + (nI 0))), some (.int (l6 + (nI 1))), none, none] [] M u else K_Tries_unlikeRows sa d Q 1 [some (.ref l0), some (.ref l1), some (.int l2), some (.int l3), some (.int l4), some (.int (l5 + (nI 1))), some (.int (l6 + (nI 1))), none, none] [] M u) else (if l7 = 0 then (if l7 = 0 then K_Tries_unlikeRows sa d Q 1 [some (.ref l0), some (.ref l1), some (.int l2), some (.int l3), some (.int l4), some (.int (l5 + (nI 0))), some (.int (l6 + (nI 1))), none, none] [] M u else K_Tries_unlikeRows sa d Q 1 [some (.ref l0), some (.ref l1), some (.int l2), some (.int l3), some (.int l4), some (.int (l5 + (nI 1))), some (.int (l6 + (nI 1))), none, none] [] M u) else (xgfR M l0 9 4 fun v1 => (xaR M v1 l6 fun v2 => (xgfR M l0 9 4 fun v3 => (xaR M v3 l8 fun v4 => (xEv xP (xprim sa) d m_Tries_isSameRow [.ref v2, .ref v4, .int ((nI 2) * l3)] M (xrI fun r1 M1 => if ¬ r1 = 0 then K_Tries_unlikeRows sa d Q 3 [some (.ref l0), some (.ref l1), some (.int l2), some (.int l3), some (.int l4), some (.int l5), some (.int l6), some (.int (nI 0)), some (.int (l8 + (nI 1)))] [] M1 u else K_Tries_unlikeRows sa d Q 3 [some (.ref l0), some (.ref l1), some (.int l2), some (.int l3), some (.int l4), some (.int l5), some (.int l6), some (.int (nI 1)), some (.int (l8 + (nI 1)))] [] M1 u)))))))) : K_Tries_unlikeRows sa d Q 3 [some (.ref l0), some (.ref l1), some (.int l2), some (.int l3), some (.int l4), some (.int l5), some (.int l6), some (.int l7), some (.int l8)] [] M u := by
  refine b_Tries_unlikeRows_3 ?_
  refine xite_mono (fun h => ?_) (fun h => ?_) h
  · refine b_Tries_unlikeRows_9 ?_
    refine xite_mono (fun h => ?_) (fun h => ?_) h
    · refine b_Tries_unlikeRows_11 ?_
      exact b_Tries_unlikeRows_12 h
    · refine b_Tries_unlikeRows_10 ?_
      exact b_Tries_unlikeRows_12 h
  · refine b_Tries_unlikeRows_4 ?_
    refine xite_mono (fun h => ?_) (fun h => ?_) h
    · refine b_Tries_unlikeRows_9 ?_
      refine xite_mono (fun h => ?_) (fun h => ?_) h
      · refine b_Tries_unlikeRows_11 ?_
        exact b_Tries_unlikeRows_12 h
      · refine b_Tries_unlikeRows_10 ?_
        exact b_Tries_unlikeRows_12 h
    · refine b_Tries_unlikeRows_5 ?_
      refine xgfR_mono (fun _ h => ?_) h
      refine xaR_mono (fun _ h => ?_) h
      refine xgfR_mono (fun _ h => ?_) h
      refine xaR_mono (fun _ h => ?_) h
      refine xEv_post' _ _ _ _ _ (xrI_mono (fun _ _ h => ?_)) h
      refine xite_mono (fun h => ?_) (fun h => ?_) h
      · refine b_Tries_unlikeRows_7 ?_
        exact b_Tries_unlikeRows_8 h
      · refine b_Tries_unlikeRows_6 ?_
        exact b_Tries_unlikeRows_8 h
theorem t_Tries_unlikeRows {sa : Nat → Nat} {d : Nat} {Q : xQ} {l0 : Nat} {l1 : Nat} {l2 : Int32} {l3 : Int32} {l4 : Int32} {M : xM} (h : K_Tries_unlikeRows sa d Q 1 [some (.ref l0), some (.ref l1), some (.int l2), some (.int l3), some (.int l4), some (.int (nI 0)), some (.int (nI 0)), none, none] [] M (0, 0)) : xEv xP (xprim sa) (d + 1) m_Tries_unlikeRows [.ref l0, .ref l1, .int l2, .int l3, .int l4] M Q := e_Tries_unlikeRows (t_Tries_unlikeRows_0 h)
set_option maxRecDepth 100000 in
theorem t_Tries_watch_0 {sa : Nat → Nat} {d : Nat} {Q : xQ} {l0 : Nat} {l1 : Nat} {l2 : Int32} {l3 : Int32} {l4 : Nat} {M : xM} {u : xU} (h : xgfR M l0 9 2 fun v1 => (xobj M v1 4 ∧ xEv xP (xprim sa) d m_Moment_begin [.ref v1, .ref l1] M (xrV fun M1 => K_Tries_watch sa d Q 1 [some (.ref l0), some (.ref l1), some (.int l2), some (.int l3), some (.ref l4), some (.int (nI 0))] [] M1 u))) : K_Tries_watch sa d Q 0 [some (.ref l0), some (.ref l1), some (.int l2), some (.int l3), some (.ref l4), none] [] M u := b_Tries_watch_0 h
set_option maxRecDepth 100000 in
theorem t_Tries_watch_1 {sa : Nat → Nat} {d : Nat} {Q : xQ} {l0 : Nat} {l1 : Nat} {l2 : Int32} {l3 : Int32} {l4 : Nat} {l5 : Int32} {M : xM} {u : xU} (h : if l3 ≤ l5 then (Q none M) else (xgfR M l0 9 1 fun v1 => (xgfR M l0 9 2 fun v2 => (xobj M v1 2 ∧ xEv xP (xprim sa) d m_Hall_pass [.ref v1, .ref l1, .ref v2] M (xrV fun M1 => xgfR M1 l0 9 2 fun v3 => (xgfR M1 v3 4 2 fun v4 => (xaI M1 v4 l2 fun v5 => (xsI M1 l4 ((nI 2) * l5) v5 fun M2 => (xgfR M2 l0 9 2 fun v6 => (xgfR M2 v6 4 1 fun v7 => (xgfR M2 l0 9 1 fun v8 => (xobj M2 v8 2 ∧ xEv xP (xprim sa) d m_Hall_rightOf [.ref v8, .int l2] M2 (xrI fun r1 M3 => xaI M3 v7 r1 fun v9 => (xsI M3 l4 (((nI 2) * l5) + (nI 1)) v9 fun M4 => (K_Tries_watch sa d Q 1 [some (.ref l0), some (.ref l1), some (.int l2), some (.int l3), some (.ref l4), some (.int (l5 + (nI 1)))] [] M4 u))))))))))))))) : K_Tries_watch sa d Q 1 [some (.ref l0), some (.ref l1), some (.int l2), some (.int l3), some (.ref l4), some (.int l5)] [] M u := by
  refine b_Tries_watch_1 ?_
  refine xite_mono (fun h => ?_) (fun h => ?_) h
  · exact b_Tries_watch_3 h
  · exact b_Tries_watch_2 h
theorem t_Tries_watch {sa : Nat → Nat} {d : Nat} {Q : xQ} {l0 : Nat} {l1 : Nat} {l2 : Int32} {l3 : Int32} {l4 : Nat} {M : xM} (h : xgfR M l0 9 2 fun v1 => (xobj M v1 4 ∧ xEv xP (xprim sa) d m_Moment_begin [.ref v1, .ref l1] M (xrV fun M1 => K_Tries_watch sa d Q 1 [some (.ref l0), some (.ref l1), some (.int l2), some (.int l3), some (.ref l4), some (.int (nI 0))] [] M1 (0, 0)))) : xEv xP (xprim sa) (d + 1) m_Tries_watch [.ref l0, .ref l1, .int l2, .int l3, .ref l4] M Q := e_Tries_watch (t_Tries_watch_0 h)
set_option maxRecDepth 100000 in
theorem t_Tries_isSameRow_0 {sa : Nat → Nat} {d : Nat} {Q : xQ} {l0 : Nat} {l1 : Nat} {l2 : Int32} {M : xM} {u : xU} (h : K_Tries_isSameRow sa d Q 1 [some (.ref l0), some (.ref l1), some (.int l2), some (.int (nI 0))] [] M u) : K_Tries_isSameRow sa d Q 0 [some (.ref l0), some (.ref l1), some (.int l2), none] [] M u := b_Tries_isSameRow_0 h
set_option maxRecDepth 100000 in
theorem t_Tries_isSameRow_1 {sa : Nat → Nat} {d : Nat} {Q : xQ} {l0 : Nat} {l1 : Nat} {l2 : Int32} {l3 : Int32} {M : xM} {u : xU} (h : if l2 ≤ l3 then (((nI 1) = 0 ∨ (nI 1) = 1) ∧ Q (some (.int (nI 1))) M) else (xaI M l0 l3 fun v1 => (xaI M l1 l3 fun v2 => (if v1 = v2 then K_Tries_isSameRow sa d Q 1 [some (.ref l0), some (.ref l1), some (.int l2), some (.int (l3 + (nI 1)))] [] M u else (((nI 0) = 0 ∨ (nI 0) = 1) ∧ Q (some (.int (nI 0))) M))))) : K_Tries_isSameRow sa d Q 1 [some (.ref l0), some (.ref l1), some (.int l2), some (.int l3)] [] M u := by
  refine b_Tries_isSameRow_1 ?_
  refine xite_mono (fun h => ?_) (fun h => ?_) h
  · exact b_Tries_isSameRow_5 h
  · refine b_Tries_isSameRow_2 ?_
    refine xaI_mono (fun _ h => ?_) h
    refine xaI_mono (fun _ h => ?_) h
    refine xite_mono (fun h => ?_) (fun h => ?_) h
    · exact b_Tries_isSameRow_4 h
    · exact b_Tries_isSameRow_3 h
theorem t_Tries_isSameRow {sa : Nat → Nat} {d : Nat} {Q : xQ} {l0 : Nat} {l1 : Nat} {l2 : Int32} {M : xM} (h : K_Tries_isSameRow sa d Q 1 [some (.ref l0), some (.ref l1), some (.int l2), some (.int (nI 0))] [] M (0, 0)) : xEv xP (xprim sa) (d + 1) m_Tries_isSameRow [.ref l0, .ref l1, .int l2] M Q := e_Tries_isSameRow (t_Tries_isSameRow_0 h)
set_option maxRecDepth 100000 in
theorem t_Whole_init_0 {sa : Nat → Nat} {d : Nat} {Q : xQ} {l0 : Nat} {l1 : Int32} {M : xM} {u : xU} (h : xalloc M u 8 (.inr (0, [.null, .null, .null, .null, .null, .null, .null, .int 0])) fun q1 M1 u1 => (7 ≤ u1.1 ∧ 154 ≤ u1.2 ∧ xEv xP (xprim sa) d m_Elders_init [.ref q1, .int l1] M1 (xrV fun M2 => xpf M2 l0 10 0 (.ref q1) fun M3 => (xalloc M3 (u1.1 - 7, u1.2 - 154) 5 (.inr (4, [.null, .null, .null, .int 0, .int 0])) fun q2 M4 u2 => (3 ≤ u2.1 ∧ 27 ≤ u2.2 ∧ xEv xP (xprim sa) d m_Moment_init [.ref q2, .int l1] M4 (xrV fun M5 => xpf M5 l0 10 1 (.ref q2) fun M6 => (xalloc M6 (u2.1 - 3, u2.2 - 27) 3 (.inr (5, [.null, .int 0, .int 0])) fun q3 M7 u3 => (161 ≤ u3.1 ∧ 1320 ≤ u3.2 ∧ xEv xP (xprim sa) d m_Past_init [.ref q3, .int l1] M7 (xrV fun M8 => xpf M8 l0 10 2 (.ref q3) fun M9 => (xalloc M9 (u3.1 - 161, u3.2 - 1320) 4 (.inr (3, [.null, .null, .int 0, .int 0])) fun q4 M10 u4 => (2 ≤ u4.1 ∧ 16 ≤ u4.2 ∧ xEv xP (xprim sa) d m_Heard_init [.ref q4] M10 (xrV fun M11 => xpf M11 l0 10 3 (.ref q4) fun M12 => (Q none M12))))))))))))) : K_Whole_init sa d Q 0 [some (.ref l0), some (.int l1)] [] M u := b_Whole_init_0 h
theorem t_Whole_init {sa : Nat → Nat} {d : Nat} {Q : xQ} {l0 : Nat} {l1 : Int32} {M : xM} (h : xalloc M (177, 1537) 8 (.inr (0, [.null, .null, .null, .null, .null, .null, .null, .int 0])) fun q1 M1 u1 => (7 ≤ u1.1 ∧ 154 ≤ u1.2 ∧ xEv xP (xprim sa) d m_Elders_init [.ref q1, .int l1] M1 (xrV fun M2 => xpf M2 l0 10 0 (.ref q1) fun M3 => (xalloc M3 (u1.1 - 7, u1.2 - 154) 5 (.inr (4, [.null, .null, .null, .int 0, .int 0])) fun q2 M4 u2 => (3 ≤ u2.1 ∧ 27 ≤ u2.2 ∧ xEv xP (xprim sa) d m_Moment_init [.ref q2, .int l1] M4 (xrV fun M5 => xpf M5 l0 10 1 (.ref q2) fun M6 => (xalloc M6 (u2.1 - 3, u2.2 - 27) 3 (.inr (5, [.null, .int 0, .int 0])) fun q3 M7 u3 => (161 ≤ u3.1 ∧ 1320 ≤ u3.2 ∧ xEv xP (xprim sa) d m_Past_init [.ref q3, .int l1] M7 (xrV fun M8 => xpf M8 l0 10 2 (.ref q3) fun M9 => (xalloc M9 (u3.1 - 161, u3.2 - 1320) 4 (.inr (3, [.null, .null, .int 0, .int 0])) fun q4 M10 u4 => (2 ≤ u4.1 ∧ 16 ≤ u4.2 ∧ xEv xP (xprim sa) d m_Heard_init [.ref q4] M10 (xrV fun M11 => xpf M11 l0 10 3 (.ref q4) fun M12 => (Q none M12))))))))))))) : xEv xP (xprim sa) (d + 1) m_Whole_init [.ref l0, .int l1] M Q := e_Whole_init (t_Whole_init_0 h)
set_option maxRecDepth 100000 in
theorem t_Whole_copyFrom_0 {sa : Nat → Nat} {d : Nat} {Q : xQ} {l0 : Nat} {l1 : Nat} {M : xM} {u : xU} (h : xgfR M l0 10 0 fun v1 => (xgfR M l1 10 0 fun v2 => (xobj M v1 0 ∧ xEv xP (xprim sa) d m_Elders_copyFrom [.ref v1, .ref v2] M (xrV fun M1 => xgfR M1 l0 10 1 fun v3 => (xgfR M1 l1 10 1 fun v4 => (xobj M1 v3 4 ∧ xEv xP (xprim sa) d m_Moment_copyFrom [.ref v3, .ref v4] M1 (xrV fun M2 => xgfR M2 l0 10 2 fun v5 => (xgfR M2 l1 10 2 fun v6 => (xobj M2 v5 5 ∧ xEv xP (xprim sa) d m_Past_copyFrom [.ref v5, .ref v6] M2 (xrV fun M3 => xgfR M3 l0 10 3 fun v7 => (xgfR M3 l1 10 3 fun v8 => (xobj M3 v7 3 ∧ xEv xP (xprim sa) d m_Heard_copyFrom [.ref v7, .ref v8] M3 (xrV fun M4 => xgfI M4 l1 10 4 fun v9 => (xpf M4 l0 10 4 (.int v9) fun M5 => (Q none M5))))))))))))))) : K_Whole_copyFrom sa d Q 0 [some (.ref l0), some (.ref l1)] [] M u := b_Whole_copyFrom_0 h
theorem t_Whole_copyFrom {sa : Nat → Nat} {d : Nat} {Q : xQ} {l0 : Nat} {l1 : Nat} {M : xM} (h : xgfR M l0 10 0 fun v1 => (xgfR M l1 10 0 fun v2 => (xobj M v1 0 ∧ xEv xP (xprim sa) d m_Elders_copyFrom [.ref v1, .ref v2] M (xrV fun M1 => xgfR M1 l0 10 1 fun v3 => (xgfR M1 l1 10 1 fun v4 => (xobj M1 v3 4 ∧ xEv xP (xprim sa) d m_Moment_copyFrom [.ref v3, .ref v4] M1 (xrV fun M2 => xgfR M2 l0 10 2 fun v5 => (xgfR M2 l1 10 2 fun v6 => (xobj M2 v5 5 ∧ xEv xP (xprim sa) d m_Past_copyFrom [.ref v5, .ref v6] M2 (xrV fun M3 => xgfR M3 l0 10 3 fun v7 => (xgfR M3 l1 10 3 fun v8 => (xobj M3 v7 3 ∧ xEv xP (xprim sa) d m_Heard_copyFrom [.ref v7, .ref v8] M3 (xrV fun M4 => xgfI M4 l1 10 4 fun v9 => (xpf M4 l0 10 4 (.int v9) fun M5 => (Q none M5))))))))))))))) : xEv xP (xprim sa) (d + 1) m_Whole_copyFrom [.ref l0, .ref l1] M Q := e_Whole_copyFrom (t_Whole_copyFrom_0 h)
