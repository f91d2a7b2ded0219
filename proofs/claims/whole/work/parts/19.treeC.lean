/-! printed by gent.py: what follows from an entry or a loop's head, up to the next -/
set_option maxRecDepth 100000 in
theorem t_C_init_0 {sa : Nat → Nat} {d : Nat} {Q : xQ} {l0 : Nat} {l1 : Int32} {M : xM} {u : xU} (h : xEv xP (xprim sa) d m_C_bounded [.int l1, .int (nI 3), .int (nI 9)] M (xrI fun r1 M1 => xpf M1 l0 11 0 (.int r1) fun M2 => (¬ (nI 4) < 0 ∧ (nI 4).toNatClampNeg ≤ 1000000 ∧ xalloc M2 u (nI 4).toNatClampNeg (.inl (4, (nI 4).toNatClampNeg, .inr (.inr (.inr (.inr (fun _ => none)))))) fun q1 M3 u1 => (xpf M3 l0 11 1 (.ref q1) fun M4 => (K_C_init sa d Q 1 [some (.ref l0), none, some (.int (nI 0))] [] M4 u1))))) : K_C_init sa d Q 0 [some (.ref l0), some (.int l1), none] [] M u := b_C_init_0 h
set_option maxRecDepth 100000 in
theorem t_C_init_1 {sa : Nat → Nat} {d : Nat} {Q : xQ} {l0 : Nat} {l2 : Int32} {M : xM} {u : xU} (h : if (nI 4) ≤ l2 then (xalloc M u 9 (.inr (7, [.null, .int 0, .int 0, .int 0, .null, .int 0, .int 0, .int 0, .int 0])) fun q1 M1 u1 => (1 ≤ u1.1 ∧ 300 ≤ u1.2 ∧ xEv xP (xprim sa) d m_Tape_init [.ref q1] M1 (xrV fun M2 => xpf M2 l0 11 2 (.ref q1) fun M3 => (xalloc M3 (u1.1 - 1, u1.2 - 300) 7 (.inr (2, [.int 0, .null, .null, .null, .null, .null, .null])) fun q2 M4 u2 => (xgfI M4 l0 11 0 fun v1 => (xgfR M4 l0 11 1 fun v2 => (5 ≤ u2.1 ∧ 336 ≤ u2.2 ∧ xEv xP (xprim sa) d m_Hall_init [.ref q2, .int v1, .ref v2] M4 (xrV fun M5 => xpf M5 l0 11 3 (.ref q2) fun M6 => (xalloc M6 (u2.1 - 5, u2.2 - 336) 5 (.inr (9, [.int 0, .null, .null, .null, .null])) fun q3 M7 u3 => (xgfI M7 l0 11 0 fun v3 => (xgfR M7 l0 11 3 fun v4 => (19 ≤ u3.1 ∧ 474 ≤ u3.2 ∧ xEv xP (xprim sa) d m_Tries_init [.ref q3, .int v3, .ref v4] M7 (xrV fun M8 => xpf M8 l0 11 4 (.ref q3) fun M9 => (xalloc M9 (u3.1 - 19, u3.2 - 474) 13 (.inr (6, [.null, .null, .null, .null, .null, .null, .null, .null, .null, .null, .int 0, .int 0, .int 0])) fun q4 M10 u4 => (xgfI M10 l0 11 0 fun v5 => (xgfR M10 l0 11 3 fun v6 => (45 ≤ u4.1 ∧ 115444 ≤ u4.2 ∧ xEv xP (xprim sa) d m_Runs_init [.ref q4, .int v5, .ref v6] M10 (xrV fun M11 => xpf M11 l0 11 5 (.ref q4) fun M12 => (xalloc M12 (u4.1 - 45, u4.2 - 115444) 8 (.inr (0, [.null, .null, .null, .null, .null, .null, .null, .int 0])) fun q5 M13 u5 => (xgfI M13 l0 11 0 fun v7 => (7 ≤ u5.1 ∧ 154 ≤ u5.2 ∧ xEv xP (xprim sa) d m_Elders_init [.ref q5, .int v7] M13 (xrV fun M14 => xpf M14 l0 11 6 (.ref q5) fun M15 => (xalloc M15 (u5.1 - 7, u5.2 - 154) 4 (.inr (3, [.null, .null, .int 0, .int 0])) fun q6 M16 u6 => (2 ≤ u6.1 ∧ 16 ≤ u6.2 ∧ xEv xP (xprim sa) d m_Heard_init [.ref q6] M16 (xrV fun M17 => xpf M17 l0 11 7 (.ref q6) fun M18 => (xalloc M18 (u6.1 - 2, u6.2 - 16) 5 (.inr (10, [.null, .null, .null, .null, .int 0])) fun q7 M19 u7 => (xgfI M19 l0 11 0 fun v8 => (177 ≤ u7.1 ∧ 1537 ≤ u7.2 ∧ xEv xP (xprim sa) d m_Whole_init [.ref q7, .int v8] M19 (xrV fun M20 => xpf M20 l0 11 8 (.ref q7) fun M21 => (xalloc M21 (u7.1 - 177, u7.2 - 1537) 5 (.inr (10, [.null, .null, .null, .null, .int 0])) fun q8 M22 u8 => (xgfI M22 l0 11 0 fun v9 => (177 ≤ u8.1 ∧ 1537 ≤ u8.2 ∧ xEv xP (xprim sa) d m_Whole_init [.ref q8, .int v9] M22 (xrV fun M23 => xpf M23 l0 11 9 (.ref q8) fun M24 => (xpf M24 l0 11 10 (.int (-1 : Int32)) fun M25 => (xpf M25 l0 11 11 (.int (-1 : Int32)) fun M26 => (Q none M26)))))))))))))))))))))))))))))))))))) else (xgfR M l0 11 1 fun v10 => (xalloc M u 9 (.inr (8, [.null, .null, .null, .null, .null, .null, .null, .int 0, .int 0])) fun q9 M27 u9 => (7 ≤ u9.1 ∧ 1236 ≤ u9.2 ∧ xEv xP (xprim sa) d m_Text_init [.ref q9] M27 (xrV fun M28 => xsR M28 v10 l2 q9 fun M29 => (K_C_init sa d Q 1 [some (.ref l0), none, some (.int (l2 + (nI 1)))] [] M29 (u9.1 - 7, u9.2 - 1236))))))) : K_C_init sa d Q 1 [some (.ref l0), none, some (.int l2)] [] M u := by
  refine b_C_init_1 ?_
  refine xite_mono (fun h => ?_) (fun h => ?_) h
  · exact b_C_init_3 h
  · exact b_C_init_2 h
theorem t_C_init {sa : Nat → Nat} {d : Nat} {Q : xQ} {l0 : Nat} {l1 : Int32} {M : xM} (h : xEv xP (xprim sa) d m_C_bounded [.int l1, .int (nI 3), .int (nI 9)] M (xrI fun r1 M1 => xpf M1 l0 11 0 (.int r1) fun M2 => (¬ (nI 4) < 0 ∧ (nI 4).toNatClampNeg ≤ 1000000 ∧ xalloc M2 (474, 124838) (nI 4).toNatClampNeg (.inl (4, (nI 4).toNatClampNeg, .inr (.inr (.inr (.inr (fun _ => none)))))) fun q1 M3 u1 => (xpf M3 l0 11 1 (.ref q1) fun M4 => (K_C_init sa d Q 1 [some (.ref l0), none, some (.int (nI 0))] [] M4 u1))))) : xEv xP (xprim sa) (d + 1) m_C_init [.ref l0, .int l1] M Q := e_C_init (t_C_init_0 h)
set_option maxRecDepth 100000 in
theorem t_C_elder_0 {sa : Nat → Nat} {d : Nat} {Q : xQ} {l0 : Nat} {l1 : Int32} {l2 : Int32} {l3 : Int32} {M : xM} {u : xU} (h : xobj M l0 11 ∧ xEv xP (xprim sa) d m_C_isRoom [.ref l0, .int l1] M (xrI fun r1 M1 => if r1 = 0 then (((nI 0) = 0 ∨ (nI 0) = 1) ∧ Q (some (.int (nI 0))) M1) else (xEv xP (xprim sa) d m_C_isWithin [.int l2, .int (nI 0), .int (nI 2)] M1 (xrI fun r2 M2 => if r2 = 0 then (((nI 0) = 0 ∨ (nI 0) = 1) ∧ Q (some (.int (nI 0))) M2) else (xEv xP (xprim sa) d m_C_isWithin [.int l3, .int (nI 0), .int (nI 9)] M2 (xrI fun r3 M3 => if ¬ r3 = 0 then (xgfR M3 l0 11 8 fun v1 => (xgfR M3 v1 10 0 fun v2 => (xgfR M3 v2 0 0 fun v3 => (xsI M3 v3 l1 l2 fun M4 => (xgfR M4 l0 11 8 fun v4 => (xgfR M4 v4 10 0 fun v5 => (xgfR M4 v5 0 1 fun v6 => (xsI M4 v6 l1 l3 fun M5 => (((nI 1) = 0 ∨ (nI 1) = 1) ∧ Q (some (.int (nI 1))) M5))))))))) else (((nI 0) = 0 ∨ (nI 0) = 1) ∧ Q (some (.int (nI 0))) M3))))))) : K_C_elder sa d Q 0 [some (.ref l0), some (.int l1), some (.int l2), some (.int l3)] [] M u := by
  refine b_C_elder_0 ?_
  obtain ⟨hz, h⟩ := h
  refine ⟨hz, ?_⟩
  refine xEv_post' _ _ _ _ _ (xrI_mono (fun _ _ h => ?_)) h
  refine xite_mono (fun h => ?_) (fun h => ?_) h
  · exact b_C_elder_3 h
  · refine b_C_elder_1 ?_
    refine xEv_post' _ _ _ _ _ (xrI_mono (fun _ _ h => ?_)) h
    refine xite_mono (fun h => ?_) (fun h => ?_) h
    · exact b_C_elder_3 h
    · refine b_C_elder_2 ?_
      refine xEv_post' _ _ _ _ _ (xrI_mono (fun _ _ h => ?_)) h
      refine xite_mono (fun h => ?_) (fun h => ?_) h
      · exact b_C_elder_4 h
      · exact b_C_elder_3 h
theorem t_C_elder {sa : Nat → Nat} {d : Nat} {Q : xQ} {l0 : Nat} {l1 : Int32} {l2 : Int32} {l3 : Int32} {M : xM} (h : xobj M l0 11 ∧ xEv xP (xprim sa) d m_C_isRoom [.ref l0, .int l1] M (xrI fun r1 M1 => if r1 = 0 then (((nI 0) = 0 ∨ (nI 0) = 1) ∧ Q (some (.int (nI 0))) M1) else (xEv xP (xprim sa) d m_C_isWithin [.int l2, .int (nI 0), .int (nI 2)] M1 (xrI fun r2 M2 => if r2 = 0 then (((nI 0) = 0 ∨ (nI 0) = 1) ∧ Q (some (.int (nI 0))) M2) else (xEv xP (xprim sa) d m_C_isWithin [.int l3, .int (nI 0), .int (nI 9)] M2 (xrI fun r3 M3 => if ¬ r3 = 0 then (xgfR M3 l0 11 8 fun v1 => (xgfR M3 v1 10 0 fun v2 => (xgfR M3 v2 0 0 fun v3 => (xsI M3 v3 l1 l2 fun M4 => (xgfR M4 l0 11 8 fun v4 => (xgfR M4 v4 10 0 fun v5 => (xgfR M4 v5 0 1 fun v6 => (xsI M4 v6 l1 l3 fun M5 => (((nI 1) = 0 ∨ (nI 1) = 1) ∧ Q (some (.int (nI 1))) M5))))))))) else (((nI 0) = 0 ∨ (nI 0) = 1) ∧ Q (some (.int (nI 0))) M3))))))) : xEv xP (xprim sa) (d + 1) m_C_elder [.ref l0, .int l1, .int l2, .int l3] M Q := e_C_elder (t_C_elder_0 h)
set_option maxRecDepth 100000 in
theorem t_C_stuck_0 {sa : Nat → Nat} {d : Nat} {Q : xQ} {l0 : Nat} {l1 : Int32} {l2 : Int32} {M : xM} {u : xU} (h : xobj M l0 11 ∧ xEv xP (xprim sa) d m_C_isRoom [.ref l0, .int l1] M (xrI fun r1 M1 => if ¬ r1 = 0 then (xgfR M1 l0 11 8 fun v1 => (xgfR M1 v1 10 0 fun v2 => (xgfR M1 v2 0 5 fun v3 => (xsZ M1 v3 l1 l2 fun M2 => (((nI 1) = 0 ∨ (nI 1) = 1) ∧ Q (some (.int (nI 1))) M2))))) else (((nI 0) = 0 ∨ (nI 0) = 1) ∧ Q (some (.int (nI 0))) M1))) : K_C_stuck sa d Q 0 [some (.ref l0), some (.int l1), some (.int l2)] [] M u := by
  refine b_C_stuck_0 ?_
  obtain ⟨hz, h⟩ := h
  refine ⟨hz, ?_⟩
  refine xEv_post' _ _ _ _ _ (xrI_mono (fun _ _ h => ?_)) h
  refine xite_mono (fun h => ?_) (fun h => ?_) h
  · exact b_C_stuck_2 h
  · exact b_C_stuck_1 h
theorem t_C_stuck {sa : Nat → Nat} {d : Nat} {Q : xQ} {l0 : Nat} {l1 : Int32} {l2 : Int32} {M : xM} (h : xobj M l0 11 ∧ xEv xP (xprim sa) d m_C_isRoom [.ref l0, .int l1] M (xrI fun r1 M1 => if ¬ r1 = 0 then (xgfR M1 l0 11 8 fun v1 => (xgfR M1 v1 10 0 fun v2 => (xgfR M1 v2 0 5 fun v3 => (xsZ M1 v3 l1 l2 fun M2 => (((nI 1) = 0 ∨ (nI 1) = 1) ∧ Q (some (.int (nI 1))) M2))))) else (((nI 0) = 0 ∨ (nI 0) = 1) ∧ Q (some (.int (nI 0))) M1))) : xEv xP (xprim sa) (d + 1) m_C_stuck [.ref l0, .int l1, .int l2] M Q := e_C_stuck (t_C_stuck_0 h)
set_option maxRecDepth 100000 in
theorem t_C_lies_0 {sa : Nat → Nat} {d : Nat} {Q : xQ} {l0 : Nat} {l1 : Int32} {l2 : Int32} {l3 : Int32} {l4 : Int32} {M : xM} {u : xU} (h : xobj M l0 11 ∧ xEv xP (xprim sa) d m_C_isRoom [.ref l0, .int l1] M (xrI fun r1 M1 => if r1 = 0 then (((nI 0) = 0 ∨ (nI 0) = 1) ∧ Q (some (.int (nI 0))) M1) else (xEv xP (xprim sa) d m_C_isNoteOrNone [.int l2] M1 (xrI fun r2 M2 => if r2 = 0 then (((nI 0) = 0 ∨ (nI 0) = 1) ∧ Q (some (.int (nI 0))) M2) else (xEv xP (xprim sa) d m_C_isNoteOrNone [.int l3] M2 (xrI fun r3 M3 => if ¬ r3 = 0 then (xgfR M3 l0 11 8 fun v1 => (xgfR M3 v1 10 0 fun v2 => (xgfR M3 v2 0 2 fun v3 => (xsI M3 v3 l1 l2 fun M4 => (xgfR M4 l0 11 8 fun v4 => (xgfR M4 v4 10 0 fun v5 => (xgfR M4 v5 0 3 fun v6 => (xsI M4 v6 l1 l3 fun M5 => (xgfR M5 l0 11 8 fun v7 => (xgfR M5 v7 10 0 fun v8 => (xgfR M5 v8 0 4 fun v9 => (xsZ M5 v9 l1 l4 fun M6 => (((nI 1) = 0 ∨ (nI 1) = 1) ∧ Q (some (.int (nI 1))) M6))))))))))))) else (((nI 0) = 0 ∨ (nI 0) = 1) ∧ Q (some (.int (nI 0))) M3))))))) : K_C_lies sa d Q 0 [some (.ref l0), some (.int l1), some (.int l2), some (.int l3), some (.int l4)] [] M u := by
  refine b_C_lies_0 ?_
  obtain ⟨hz, h⟩ := h
  refine ⟨hz, ?_⟩
  refine xEv_post' _ _ _ _ _ (xrI_mono (fun _ _ h => ?_)) h
  refine xite_mono (fun h => ?_) (fun h => ?_) h
  · exact b_C_lies_3 h
  · refine b_C_lies_1 ?_
    refine xEv_post' _ _ _ _ _ (xrI_mono (fun _ _ h => ?_)) h
    refine xite_mono (fun h => ?_) (fun h => ?_) h
    · exact b_C_lies_3 h
    · refine b_C_lies_2 ?_
      refine xEv_post' _ _ _ _ _ (xrI_mono (fun _ _ h => ?_)) h
      refine xite_mono (fun h => ?_) (fun h => ?_) h
      · exact b_C_lies_4 h
      · exact b_C_lies_3 h
theorem t_C_lies {sa : Nat → Nat} {d : Nat} {Q : xQ} {l0 : Nat} {l1 : Int32} {l2 : Int32} {l3 : Int32} {l4 : Int32} {M : xM} (h : xobj M l0 11 ∧ xEv xP (xprim sa) d m_C_isRoom [.ref l0, .int l1] M (xrI fun r1 M1 => if r1 = 0 then (((nI 0) = 0 ∨ (nI 0) = 1) ∧ Q (some (.int (nI 0))) M1) else (xEv xP (xprim sa) d m_C_isNoteOrNone [.int l2] M1 (xrI fun r2 M2 => if r2 = 0 then (((nI 0) = 0 ∨ (nI 0) = 1) ∧ Q (some (.int (nI 0))) M2) else (xEv xP (xprim sa) d m_C_isNoteOrNone [.int l3] M2 (xrI fun r3 M3 => if ¬ r3 = 0 then (xgfR M3 l0 11 8 fun v1 => (xgfR M3 v1 10 0 fun v2 => (xgfR M3 v2 0 2 fun v3 => (xsI M3 v3 l1 l2 fun M4 => (xgfR M4 l0 11 8 fun v4 => (xgfR M4 v4 10 0 fun v5 => (xgfR M4 v5 0 3 fun v6 => (xsI M4 v6 l1 l3 fun M5 => (xgfR M5 l0 11 8 fun v7 => (xgfR M5 v7 10 0 fun v8 => (xgfR M5 v8 0 4 fun v9 => (xsZ M5 v9 l1 l4 fun M6 => (((nI 1) = 0 ∨ (nI 1) = 1) ∧ Q (some (.int (nI 1))) M6))))))))))))) else (((nI 0) = 0 ∨ (nI 0) = 1) ∧ Q (some (.int (nI 0))) M3))))))) : xEv xP (xprim sa) (d + 1) m_C_lies [.ref l0, .int l1, .int l2, .int l3, .int l4] M Q := e_C_lies (t_C_lies_0 h)
set_option maxRecDepth 100000 in
theorem t_C_bar_0 {sa : Nat → Nat} {d : Nat} {Q : xQ} {l0 : Nat} {l1 : Int32} {l2 : Int32} {M : xM} {u : xU} (h : xEv xP (xprim sa) d m_C_isWithin [.int l1, .int (nI 0), .int (nI 99)] M (xrI fun r1 M1 => if ¬ r1 = 0 then (xgfR M1 l0 11 8 fun v1 => (xgfR M1 v1 10 0 fun v2 => (xgfR M1 v2 0 6 fun v3 => (xsZ M1 v3 l1 l2 fun M2 => (((nI 1) = 0 ∨ (nI 1) = 1) ∧ Q (some (.int (nI 1))) M2))))) else (((nI 0) = 0 ∨ (nI 0) = 1) ∧ Q (some (.int (nI 0))) M1))) : K_C_bar sa d Q 0 [some (.ref l0), some (.int l1), some (.int l2)] [] M u := by
  refine b_C_bar_0 ?_
  refine xEv_post' _ _ _ _ _ (xrI_mono (fun _ _ h => ?_)) h
  refine xite_mono (fun h => ?_) (fun h => ?_) h
  · exact b_C_bar_2 h
  · exact b_C_bar_1 h
theorem t_C_bar {sa : Nat → Nat} {d : Nat} {Q : xQ} {l0 : Nat} {l1 : Int32} {l2 : Int32} {M : xM} (h : xEv xP (xprim sa) d m_C_isWithin [.int l1, .int (nI 0), .int (nI 99)] M (xrI fun r1 M1 => if ¬ r1 = 0 then (xgfR M1 l0 11 8 fun v1 => (xgfR M1 v1 10 0 fun v2 => (xgfR M1 v2 0 6 fun v3 => (xsZ M1 v3 l1 l2 fun M2 => (((nI 1) = 0 ∨ (nI 1) = 1) ∧ Q (some (.int (nI 1))) M2))))) else (((nI 0) = 0 ∨ (nI 0) = 1) ∧ Q (some (.int (nI 0))) M1))) : xEv xP (xprim sa) (d + 1) m_C_bar [.ref l0, .int l1, .int l2] M Q := e_C_bar (t_C_bar_0 h)
set_option maxRecDepth 100000 in
theorem t_C_feed_0 {sa : Nat → Nat} {d : Nat} {Q : xQ} {l0 : Nat} {l1 : Int32} {l2 : Int32} {l3 : Int32} {l4 : Int32} {l5 : Int32} {M : xM} {u : xU} (h : xgfR M l0 11 2 fun v1 => (xgfI M v1 7 1 fun v2 => (if (v2 + (nI 20)) ≤ (nI 300) then (xgfR M l0 11 2 fun v3 => (xobj M v3 7 ∧ xEv xP (xprim sa) d m_Tape_append [.ref v3, .int l1] M (xrV fun M1 => xgfR M1 l0 11 2 fun v4 => (xobj M1 v4 7 ∧ xEv xP (xprim sa) d m_Tape_append [.ref v4, .int l2] M1 (xrV fun M2 => xgfR M2 l0 11 2 fun v5 => (xobj M2 v5 7 ∧ xEv xP (xprim sa) d m_Tape_append [.ref v5, .int l3] M2 (xrV fun M3 => xgfR M3 l0 11 2 fun v6 => (xobj M3 v6 7 ∧ xEv xP (xprim sa) d m_Tape_append [.ref v6, .int l4] M3 (xrV fun M4 => xgfR M4 l0 11 2 fun v7 => (xobj M4 v7 7 ∧ xEv xP (xprim sa) d m_Tape_append [.ref v7, .int l5] M4 (xrV fun M5 => xgfR M5 l0 11 2 fun v8 => (xgfI M5 v8 7 1 fun v9 => (Q (some (.int v9)) M5))))))))))))) else (Q (some (.int (-1 : Int32))) M)))) : K_C_feed sa d Q 0 [some (.ref l0), some (.int l1), some (.int l2), some (.int l3), some (.int l4), some (.int l5)] [] M u := by
  refine b_C_feed_0 ?_
  refine xgfR_mono (fun _ h => ?_) h
  refine xgfI_mono (fun _ h => ?_) h
  refine xite_mono (fun h => ?_) (fun h => ?_) h
  · exact b_C_feed_2 h
  · exact b_C_feed_1 h
theorem t_C_feed {sa : Nat → Nat} {d : Nat} {Q : xQ} {l0 : Nat} {l1 : Int32} {l2 : Int32} {l3 : Int32} {l4 : Int32} {l5 : Int32} {M : xM} (h : xgfR M l0 11 2 fun v1 => (xgfI M v1 7 1 fun v2 => (if (v2 + (nI 20)) ≤ (nI 300) then (xgfR M l0 11 2 fun v3 => (xobj M v3 7 ∧ xEv xP (xprim sa) d m_Tape_append [.ref v3, .int l1] M (xrV fun M1 => xgfR M1 l0 11 2 fun v4 => (xobj M1 v4 7 ∧ xEv xP (xprim sa) d m_Tape_append [.ref v4, .int l2] M1 (xrV fun M2 => xgfR M2 l0 11 2 fun v5 => (xobj M2 v5 7 ∧ xEv xP (xprim sa) d m_Tape_append [.ref v5, .int l3] M2 (xrV fun M3 => xgfR M3 l0 11 2 fun v6 => (xobj M3 v6 7 ∧ xEv xP (xprim sa) d m_Tape_append [.ref v6, .int l4] M3 (xrV fun M4 => xgfR M4 l0 11 2 fun v7 => (xobj M4 v7 7 ∧ xEv xP (xprim sa) d m_Tape_append [.ref v7, .int l5] M4 (xrV fun M5 => xgfR M5 l0 11 2 fun v8 => (xgfI M5 v8 7 1 fun v9 => (Q (some (.int v9)) M5))))))))))))) else (Q (some (.int (-1 : Int32))) M)))) : xEv xP (xprim sa) (d + 1) m_C_feed [.ref l0, .int l1, .int l2, .int l3, .int l4, .int l5] M Q := e_C_feed (t_C_feed_0 h)
set_option maxRecDepth 100000 in
theorem t_C_end_0 {sa : Nat → Nat} {d : Nat} {Q : xQ} {l0 : Nat} {l1 : Int32} {M : xM} {u : xU} (h : if l1 < 0 then (Q (some (.int (-1 : Int32))) M) else (xgfR M l0 11 2 fun v1 => (xgfI M v1 7 1 fun v2 => (if l1 ≤ v2 then (xgfR M l0 11 2 fun v3 => (xpf M v3 7 1 (.int l1) fun M1 => (Q (some (.int l1)) M1))) else (Q (some (.int (-1 : Int32))) M))))) : K_C_end sa d Q 0 [some (.ref l0), some (.int l1)] [] M u := by
  refine b_C_end_0 ?_
  refine xite_mono (fun h => ?_) (fun h => ?_) h
  · exact b_C_end_2 h
  · refine b_C_end_1 ?_
    refine xgfR_mono (fun _ h => ?_) h
    refine xgfI_mono (fun _ h => ?_) h
    refine xite_mono (fun h => ?_) (fun h => ?_) h
    · exact b_C_end_3 h
    · exact b_C_end_2 h
theorem t_C_end {sa : Nat → Nat} {d : Nat} {Q : xQ} {l0 : Nat} {l1 : Int32} {M : xM} (h : if l1 < 0 then (Q (some (.int (-1 : Int32))) M) else (xgfR M l0 11 2 fun v1 => (xgfI M v1 7 1 fun v2 => (if l1 ≤ v2 then (xgfR M l0 11 2 fun v3 => (xpf M v3 7 1 (.int l1) fun M1 => (Q (some (.int l1)) M1))) else (Q (some (.int (-1 : Int32))) M))))) : xEv xP (xprim sa) (d + 1) m_C_end [.ref l0, .int l1] M Q := e_C_end (t_C_end_0 h)
set_option maxRecDepth 100000 in
theorem t_C_text_0 {sa : Nat → Nat} {d : Nat} {Q : xQ} {l0 : Nat} {M : xM} {u : xU} (h : xgfR M l0 11 8 fun v1 => (xgfI M v1 10 4 fun v2 => (xEv xP (xprim sa) d m_C_isWithin [.int v2, .int (nI 0), .int (nI 3)] M (xrI fun r1 M1 => if ¬ r1 = 0 then (xgfR M1 l0 11 2 fun v3 => (xgfR M1 l0 11 1 fun v4 => (xaR M1 v4 v2 fun v5 => (xobj M1 v3 7 ∧ xEv xP (xprim sa) d m_Tape_read [.ref v3, .ref v5] M1 (xrI fun r2 M2 => xgfR M2 l0 11 2 fun v6 => (xgfI M2 v6 7 2 fun v7 => (xpf M2 l0 11 10 (.int v7) fun M3 => (xgfR M3 l0 11 2 fun v8 => (xgfI M3 v8 7 3 fun v9 => (xpf M3 l0 11 11 (.int v9) fun M4 => (xgfR M4 l0 11 2 fun v10 => (xpf M4 v10 7 1 (.int (nI 0)) fun M5 => (if ¬ r2 = 0 then (xgfR M5 l0 11 8 fun v11 => (xpf M5 v11 10 4 (.int (v2 + (nI 1))) fun M6 => (Q (some (.int v2)) M6))) else (Q (some (.int (-1 : Int32))) M5)))))))))))))) else (Q (some (.int (-1 : Int32))) M1))))) : K_C_text sa d Q 0 [some (.ref l0), none, none] [] M u := by
  refine b_C_text_0 ?_
  refine xgfR_mono (fun _ h => ?_) h
  refine xgfI_mono (fun _ h => ?_) h
  refine xEv_post' _ _ _ _ _ (xrI_mono (fun _ _ h => ?_)) h
  refine xite_mono (fun h => ?_) (fun h => ?_) h
  · refine b_C_text_2 ?_
    refine xgfR_mono (fun _ h => ?_) h
    refine xgfR_mono (fun _ h => ?_) h
    refine xaR_mono (fun _ h => ?_) h
    obtain ⟨hz, h⟩ := h
    refine ⟨hz, ?_⟩
    refine xEv_post' _ _ _ _ _ (xrI_mono (fun _ _ h => ?_)) h
    refine xgfR_mono (fun _ h => ?_) h
    refine xgfI_mono (fun _ h => ?_) h
    refine xpf_mono (fun _ h => ?_) h
    refine xgfR_mono (fun _ h => ?_) h
    refine xgfI_mono (fun _ h => ?_) h
    refine xpf_mono (fun _ h => ?_) h
    refine xgfR_mono (fun _ h => ?_) h
    refine xpf_mono (fun _ h => ?_) h
    refine xite_mono (fun h => ?_) (fun h => ?_) h
    · exact b_C_text_4 h
    · exact b_C_text_3 h
  · exact b_C_text_1 h
theorem t_C_text {sa : Nat → Nat} {d : Nat} {Q : xQ} {l0 : Nat} {M : xM} (h : xgfR M l0 11 8 fun v1 => (xgfI M v1 10 4 fun v2 => (xEv xP (xprim sa) d m_C_isWithin [.int v2, .int (nI 0), .int (nI 3)] M (xrI fun r1 M1 => if ¬ r1 = 0 then (xgfR M1 l0 11 2 fun v3 => (xgfR M1 l0 11 1 fun v4 => (xaR M1 v4 v2 fun v5 => (xobj M1 v3 7 ∧ xEv xP (xprim sa) d m_Tape_read [.ref v3, .ref v5] M1 (xrI fun r2 M2 => xgfR M2 l0 11 2 fun v6 => (xgfI M2 v6 7 2 fun v7 => (xpf M2 l0 11 10 (.int v7) fun M3 => (xgfR M3 l0 11 2 fun v8 => (xgfI M3 v8 7 3 fun v9 => (xpf M3 l0 11 11 (.int v9) fun M4 => (xgfR M4 l0 11 2 fun v10 => (xpf M4 v10 7 1 (.int (nI 0)) fun M5 => (if ¬ r2 = 0 then (xgfR M5 l0 11 8 fun v11 => (xpf M5 v11 10 4 (.int (v2 + (nI 1))) fun M6 => (Q (some (.int v2)) M6))) else (Q (some (.int (-1 : Int32))) M5)))))))))))))) else (Q (some (.int (-1 : Int32))) M1))))) : xEv xP (xprim sa) (d + 1) m_C_text [.ref l0] M Q := e_C_text (t_C_text_0 h)
set_option maxRecDepth 100000 in
theorem t_C_fault_0 {sa : Nat → Nat} {d : Nat} {Q : xQ} {l0 : Nat} {l1 : Int32} {M : xM} {u : xU} (h : if ¬ l1 = 0 then (if ¬ l1 = (nI 1) then (Q (some (.int (-1 : Int32))) M) else (xgfI M l0 11 11 fun v1 => (Q (some (.int v1)) M))) else (xgfI M l0 11 10 fun v2 => (Q (some (.int v2)) M))) : K_C_fault sa d Q 0 [some (.ref l0), some (.int l1)] [] M u := by
  refine b_C_fault_0 ?_
  refine xite_mono (fun h => ?_) (fun h => ?_) h
  · refine b_C_fault_2 ?_
    refine xite_mono (fun h => ?_) (fun h => ?_) h
    · refine b_C_fault_4 ?_
      exact b_C_fault_5 h
    · refine b_C_fault_3 ?_
      refine xgfI_mono (fun _ h => ?_) h
      exact b_C_fault_5 h
  · exact b_C_fault_1 h
theorem t_C_fault {sa : Nat → Nat} {d : Nat} {Q : xQ} {l0 : Nat} {l1 : Int32} {M : xM} (h : if ¬ l1 = 0 then (if ¬ l1 = (nI 1) then (Q (some (.int (-1 : Int32))) M) else (xgfI M l0 11 11 fun v1 => (Q (some (.int v1)) M))) else (xgfI M l0 11 10 fun v2 => (Q (some (.int v2)) M))) : xEv xP (xprim sa) (d + 1) m_C_fault [.ref l0, .int l1] M Q := e_C_fault (t_C_fault_0 h)
set_option maxRecDepth 100000 in
theorem t_C_by_0 {sa : Nat → Nat} {d : Nat} {Q : xQ} {l0 : Nat} {l1 : Int32} {M : xM} {u : xU} (h : xgfR M l0 11 8 fun v1 => (xgfI M v1 10 4 fun v2 => (xEv xP (xprim sa) d m_C_isWithin [.int l1, .int (-1 : Int32), .int (v2 - (nI 1))] M (xrI fun r1 M1 => if ¬ r1 = 0 then (xgfR M1 l0 11 8 fun v3 => (xgfR M1 v3 10 0 fun v4 => (xpf M1 v4 0 7 (.int l1) fun M2 => (((nI 1) = 0 ∨ (nI 1) = 1) ∧ Q (some (.int (nI 1))) M2)))) else (((nI 0) = 0 ∨ (nI 0) = 1) ∧ Q (some (.int (nI 0))) M1))))) : K_C_by sa d Q 0 [some (.ref l0), some (.int l1)] [] M u := by
  refine b_C_by_0 ?_
  refine xgfR_mono (fun _ h => ?_) h
  refine xgfI_mono (fun _ h => ?_) h
  refine xEv_post' _ _ _ _ _ (xrI_mono (fun _ _ h => ?_)) h
  refine xite_mono (fun h => ?_) (fun h => ?_) h
  · exact b_C_by_2 h
  · exact b_C_by_1 h
theorem t_C_by {sa : Nat → Nat} {d : Nat} {Q : xQ} {l0 : Nat} {l1 : Int32} {M : xM} (h : xgfR M l0 11 8 fun v1 => (xgfI M v1 10 4 fun v2 => (xEv xP (xprim sa) d m_C_isWithin [.int l1, .int (-1 : Int32), .int (v2 - (nI 1))] M (xrI fun r1 M1 => if ¬ r1 = 0 then (xgfR M1 l0 11 8 fun v3 => (xgfR M1 v3 10 0 fun v4 => (xpf M1 v4 0 7 (.int l1) fun M2 => (((nI 1) = 0 ∨ (nI 1) = 1) ∧ Q (some (.int (nI 1))) M2)))) else (((nI 0) = 0 ∨ (nI 0) = 1) ∧ Q (some (.int (nI 0))) M1))))) : xEv xP (xprim sa) (d + 1) m_C_by [.ref l0, .int l1] M Q := e_C_by (t_C_by_0 h)
set_option maxRecDepth 100000 in
theorem t_C_start_0 {sa : Nat → Nat} {d : Nat} {Q : xQ} {l0 : Nat} {M : xM} {u : xU} (h : xgfR M l0 11 8 fun v1 => (xgfR M v1 10 1 fun v2 => (xgfI M v2 4 4 fun v3 => (xgfR M l0 11 8 fun v4 => (xgfR M v4 10 1 fun v5 => (xgfR M l0 11 8 fun v6 => (xgfR M v6 10 0 fun v7 => (xobj M v5 4 ∧ xEv xP (xprim sa) d m_Moment_begin [.ref v5, .ref v7] M (xrV fun M1 => xgfR M1 l0 11 8 fun v8 => (xgfR M1 v8 10 2 fun v9 => (xpf M1 v9 5 2 (.int (nI 0)) fun M2 => (Q (some (.int v3)) M2)))))))))))) : K_C_start sa d Q 0 [some (.ref l0), none] [] M u := b_C_start_0 h
theorem t_C_start {sa : Nat → Nat} {d : Nat} {Q : xQ} {l0 : Nat} {M : xM} (h : xgfR M l0 11 8 fun v1 => (xgfR M v1 10 1 fun v2 => (xgfI M v2 4 4 fun v3 => (xgfR M l0 11 8 fun v4 => (xgfR M v4 10 1 fun v5 => (xgfR M l0 11 8 fun v6 => (xgfR M v6 10 0 fun v7 => (xobj M v5 4 ∧ xEv xP (xprim sa) d m_Moment_begin [.ref v5, .ref v7] M (xrV fun M1 => xgfR M1 l0 11 8 fun v8 => (xgfR M1 v8 10 2 fun v9 => (xpf M1 v9 5 2 (.int (nI 0)) fun M2 => (Q (some (.int v3)) M2)))))))))))) : xEv xP (xprim sa) (d + 1) m_C_start [.ref l0] M Q := e_C_start (t_C_start_0 h)
set_option maxRecDepth 100000 in
theorem t_C_hours_0 {sa : Nat → Nat} {d : Nat} {Q : xQ} {l0 : Nat} {l1 : Int32} {M : xM} {u : xU} (h : xEv xP (xprim sa) d m_C_isWithin [.int l1, .int (nI 1), .int (nI 99)] M (xrI fun r1 M1 => if r1 = 0 then (Q (some (.int (-1 : Int32))) M1) else (xgfR M1 l0 11 8 fun v1 => (xgfR M1 v1 10 1 fun v2 => (xgfI M1 v2 4 4 fun v3 => (if (v3 + l1) ≤ (nI 999) then K_C_hours sa d Q 4 [some (.ref l0), some (.int l1), some (.int (nI 0))] [] M1 u else (Q (some (.int (-1 : Int32))) M1))))))) : K_C_hours sa d Q 0 [some (.ref l0), some (.int l1), none] [] M u := by
  refine b_C_hours_0 ?_
  refine xEv_post' _ _ _ _ _ (xrI_mono (fun _ _ h => ?_)) h
  refine xite_mono (fun h => ?_) (fun h => ?_) h
  · exact b_C_hours_2 h
  · refine b_C_hours_1 ?_
    refine xgfR_mono (fun _ h => ?_) h
    refine xgfR_mono (fun _ h => ?_) h
    refine xgfI_mono (fun _ h => ?_) h
    refine xite_mono (fun h => ?_) (fun h => ?_) h
    · exact b_C_hours_3 h
    · exact b_C_hours_2 h
set_option maxRecDepth 100000 in
theorem t_C_hours_4 {sa : Nat → Nat} {d : Nat} {Q : xQ} {l0 : Nat} {l1 : Int32} {l2 : Int32} {M : xM} {u : xU} (h : if l1 ≤ l2 then (xgfR M l0 11 8 fun v1 => (xgfR M v1 10 1 fun v2 => (xgfI M v2 4 4 fun v3 => (Q (some (.int v3)) M)))) else (xgfR M l0 11 8 fun v4 => (xgfR M v4 10 2 fun v5 => (xgfR M l0 11 8 fun v6 => (xgfR M v6 10 1 fun v7 => (xobj M v5 5 ∧ xEv xP (xprim sa) d m_Past_push [.ref v5, .ref v7] M (xrV fun M1 => xgfR M1 l0 11 3 fun v8 => (xgfR M1 l0 11 8 fun v9 => (xgfR M1 v9 10 0 fun v10 => (xgfR M1 l0 11 8 fun v11 => (xgfR M1 v11 10 1 fun v12 => (xobj M1 v8 2 ∧ xEv xP (xprim sa) d m_Hall_pass [.ref v8, .ref v10, .ref v12] M1 (xrV fun M2 => K_C_hours sa d Q 4 [some (.ref l0), some (.int l1), some (.int (l2 + (nI 1)))] [] M2 u))))))))))))) : K_C_hours sa d Q 4 [some (.ref l0), some (.int l1), some (.int l2)] [] M u := by
  refine b_C_hours_4 ?_
  refine xite_mono (fun h => ?_) (fun h => ?_) h
  · exact b_C_hours_6 h
  · exact b_C_hours_5 h
theorem t_C_hours {sa : Nat → Nat} {d : Nat} {Q : xQ} {l0 : Nat} {l1 : Int32} {M : xM} (h : xEv xP (xprim sa) d m_C_isWithin [.int l1, .int (nI 1), .int (nI 99)] M (xrI fun r1 M1 => if r1 = 0 then (Q (some (.int (-1 : Int32))) M1) else (xgfR M1 l0 11 8 fun v1 => (xgfR M1 v1 10 1 fun v2 => (xgfI M1 v2 4 4 fun v3 => (if (v3 + l1) ≤ (nI 999) then K_C_hours sa d Q 4 [some (.ref l0), some (.int l1), some (.int (nI 0))] [] M1 (0, 0) else (Q (some (.int (-1 : Int32))) M1))))))) : xEv xP (xprim sa) (d + 1) m_C_hours [.ref l0, .int l1] M Q := e_C_hours (t_C_hours_0 h)
set_option maxRecDepth 100000 in
theorem t_C_undo_0 {sa : Nat → Nat} {d : Nat} {Q : xQ} {l0 : Nat} {M : xM} {u : xU} (h : xgfR M l0 11 8 fun v1 => (xgfR M v1 10 2 fun v2 => (xgfR M l0 11 8 fun v3 => (xgfR M v3 10 1 fun v4 => (xobj M v2 5 ∧ xEv xP (xprim sa) d m_Past_pop [.ref v2, .ref v4] M (xrI fun r1 M1 => if r1 = 0 then (Q (some (.int (-1 : Int32))) M1) else (xgfR M1 l0 11 8 fun v5 => (xgfR M1 v5 10 1 fun v6 => (xgfI M1 v6 4 4 fun v7 => (Q (some (.int v7)) M1)))))))))) : K_C_undo sa d Q 0 [some (.ref l0)] [] M u := by
  refine b_C_undo_0 ?_
  refine xgfR_mono (fun _ h => ?_) h
  refine xgfR_mono (fun _ h => ?_) h
  refine xgfR_mono (fun _ h => ?_) h
  refine xgfR_mono (fun _ h => ?_) h
  obtain ⟨hz, h⟩ := h
  refine ⟨hz, ?_⟩
  refine xEv_post' _ _ _ _ _ (xrI_mono (fun _ _ h => ?_)) h
  refine xite_mono (fun h => ?_) (fun h => ?_) h
  · refine b_C_undo_2 ?_
    exact b_C_undo_3 h
  · refine b_C_undo_1 ?_
    refine xgfR_mono (fun _ h => ?_) h
    refine xgfR_mono (fun _ h => ?_) h
    refine xgfI_mono (fun _ h => ?_) h
    exact b_C_undo_3 h
theorem t_C_undo {sa : Nat → Nat} {d : Nat} {Q : xQ} {l0 : Nat} {M : xM} (h : xgfR M l0 11 8 fun v1 => (xgfR M v1 10 2 fun v2 => (xgfR M l0 11 8 fun v3 => (xgfR M v3 10 1 fun v4 => (xobj M v2 5 ∧ xEv xP (xprim sa) d m_Past_pop [.ref v2, .ref v4] M (xrI fun r1 M1 => if r1 = 0 then (Q (some (.int (-1 : Int32))) M1) else (xgfR M1 l0 11 8 fun v5 => (xgfR M1 v5 10 1 fun v6 => (xgfI M1 v6 4 4 fun v7 => (Q (some (.int v7)) M1)))))))))) : xEv xP (xprim sa) (d + 1) m_C_undo [.ref l0] M Q := e_C_undo (t_C_undo_0 h)
set_option maxRecDepth 100000 in
theorem t_C_of_0 {sa : Nat → Nat} {d : Nat} {Q : xQ} {l0 : Nat} {l1 : Int32} {l2 : Int32} {M : xM} {u : xU} (h : xobj M l0 11 ∧ xEv xP (xprim sa) d m_C_isRoom [.ref l0, .int l1] M (xrI fun r1 M1 => if ¬ r1 = 0 then (if l2 = (nI 0) then (xgfR M1 l0 11 8 fun v1 => (xgfR M1 v1 10 1 fun v2 => (xgfR M1 v2 4 0 fun v3 => (xaI M1 v3 l1 fun v4 => (Q (some (.int v4)) M1))))) else (if l2 = (nI 1) then (xgfR M1 l0 11 8 fun v5 => (xgfR M1 v5 10 1 fun v6 => (xgfR M1 v6 4 1 fun v7 => (xaI M1 v7 l1 fun v8 => (Q (some (.int v8)) M1))))) else (if l2 = (nI 2) then (xgfR M1 l0 11 8 fun v9 => (xgfR M1 v9 10 1 fun v10 => (xgfR M1 v10 4 2 fun v11 => (xaI M1 v11 l1 fun v12 => (Q (some (.int v12)) M1))))) else (if l2 = (nI 3) then (xgfR M1 l0 11 3 fun v13 => (xgfR M1 l0 11 8 fun v14 => (xgfR M1 v14 10 0 fun v15 => (xgfR M1 l0 11 8 fun v16 => (xgfR M1 v16 10 1 fun v17 => (xobj M1 v13 2 ∧ xEv xP (xprim sa) d m_Hall_wordOf [.ref v13, .ref v15, .ref v17, .int l1] M1 (xrI fun r2 M2 => Q (some (.int r2)) M2))))))) else (if l2 = (nI 4) then (xgfR M1 l0 11 8 fun v18 => (xgfR M1 v18 10 0 fun v19 => (xgfR M1 v19 0 0 fun v20 => (xaI M1 v20 l1 fun v21 => (Q (some (.int v21)) M1))))) else (if l2 = (nI 5) then (xgfR M1 l0 11 8 fun v22 => (xgfR M1 v22 10 0 fun v23 => (xgfR M1 v23 0 1 fun v24 => (xaI M1 v24 l1 fun v25 => (Q (some (.int v25)) M1))))) else (if l2 = (nI 6) then (xgfR M1 l0 11 8 fun v26 => (xgfR M1 v26 10 0 fun v27 => (xgfR M1 v27 0 5 fun v28 => (xaZ M1 v28 l1 fun v29 => (if v29 = 0 then (Q (some (.int (nI 0))) M1) else (Q (some (.int (nI 1))) M1)))))) else (Q (some (.int (-2 : Int32))) M1)))))))) else (Q (some (.int (-2 : Int32))) M1))) : K_C_of sa d Q 0 [some (.ref l0), some (.int l1), some (.int l2)] [] M u := by
  refine b_C_of_0 ?_
  obtain ⟨hz, h⟩ := h
  refine ⟨hz, ?_⟩
  refine xEv_post' _ _ _ _ _ (xrI_mono (fun _ _ h => ?_)) h
  refine xite_mono (fun h => ?_) (fun h => ?_) h
  · refine b_C_of_2 ?_
    refine xite_mono (fun h => ?_) (fun h => ?_) h
    · exact b_C_of_3 h
    · refine xite_mono (fun h => ?_) (fun h => ?_) h
      · exact b_C_of_4 h
      · refine xite_mono (fun h => ?_) (fun h => ?_) h
        · exact b_C_of_5 h
        · refine xite_mono (fun h => ?_) (fun h => ?_) h
          · exact b_C_of_6 h
          · refine xite_mono (fun h => ?_) (fun h => ?_) h
            · exact b_C_of_7 h
            · refine xite_mono (fun h => ?_) (fun h => ?_) h
              · exact b_C_of_8 h
              · refine xite_mono (fun h => ?_) (fun h => ?_) h
                · refine b_C_of_9 ?_
                  refine xgfR_mono (fun _ h => ?_) h
                  refine xgfR_mono (fun _ h => ?_) h
                  refine xgfR_mono (fun _ h => ?_) h
                  refine xaZ_mono (fun _ h => ?_) h
                  refine xite_mono (fun h => ?_) (fun h => ?_) h
                  · refine b_C_of_11 ?_
                    exact b_C_of_12 h
                  · refine b_C_of_10 ?_
                    exact b_C_of_12 h
                · exact b_C_of_13 h
  · exact b_C_of_1 h
theorem t_C_of {sa : Nat → Nat} {d : Nat} {Q : xQ} {l0 : Nat} {l1 : Int32} {l2 : Int32} {M : xM} (h : xobj M l0 11 ∧ xEv xP (xprim sa) d m_C_isRoom [.ref l0, .int l1] M (xrI fun r1 M1 => if ¬ r1 = 0 then (if l2 = (nI 0) then (xgfR M1 l0 11 8 fun v1 => (xgfR M1 v1 10 1 fun v2 => (xgfR M1 v2 4 0 fun v3 => (xaI M1 v3 l1 fun v4 => (Q (some (.int v4)) M1))))) else (if l2 = (nI 1) then (xgfR M1 l0 11 8 fun v5 => (xgfR M1 v5 10 1 fun v6 => (xgfR M1 v6 4 1 fun v7 => (xaI M1 v7 l1 fun v8 => (Q (some (.int v8)) M1))))) else (if l2 = (nI 2) then (xgfR M1 l0 11 8 fun v9 => (xgfR M1 v9 10 1 fun v10 => (xgfR M1 v10 4 2 fun v11 => (xaI M1 v11 l1 fun v12 => (Q (some (.int v12)) M1))))) else (if l2 = (nI 3) then (xgfR M1 l0 11 3 fun v13 => (xgfR M1 l0 11 8 fun v14 => (xgfR M1 v14 10 0 fun v15 => (xgfR M1 l0 11 8 fun v16 => (xgfR M1 v16 10 1 fun v17 => (xobj M1 v13 2 ∧ xEv xP (xprim sa) d m_Hall_wordOf [.ref v13, .ref v15, .ref v17, .int l1] M1 (xrI fun r2 M2 => Q (some (.int r2)) M2))))))) else (if l2 = (nI 4) then (xgfR M1 l0 11 8 fun v18 => (xgfR M1 v18 10 0 fun v19 => (xgfR M1 v19 0 0 fun v20 => (xaI M1 v20 l1 fun v21 => (Q (some (.int v21)) M1))))) else (if l2 = (nI 5) then (xgfR M1 l0 11 8 fun v22 => (xgfR M1 v22 10 0 fun v23 => (xgfR M1 v23 0 1 fun v24 => (xaI M1 v24 l1 fun v25 => (Q (some (.int v25)) M1))))) else (if l2 = (nI 6) then (xgfR M1 l0 11 8 fun v26 => (xgfR M1 v26 10 0 fun v27 => (xgfR M1 v27 0 5 fun v28 => (xaZ M1 v28 l1 fun v29 => (if v29 = 0 then (Q (some (.int (nI 0))) M1) else (Q (some (.int (nI 1))) M1)))))) else (Q (some (.int (-2 : Int32))) M1)))))))) else (Q (some (.int (-2 : Int32))) M1))) : xEv xP (xprim sa) (d + 1) m_C_of [.ref l0, .int l1, .int l2] M Q := e_C_of (t_C_of_0 h)
set_option maxRecDepth 100000 in
theorem t_C_agree_0 {sa : Nat → Nat} {d : Nat} {Q : xQ} {l0 : Nat} {M : xM} {u : xU} (h : xgfR M l0 11 3 fun v1 => (xgfR M l0 11 8 fun v2 => (xgfR M v2 10 0 fun v3 => (xgfR M l0 11 8 fun v4 => (xgfR M v4 10 1 fun v5 => (xobj M v1 2 ∧ xEv xP (xprim sa) d m_Hall_isAgreed [.ref v1, .ref v3, .ref v5] M (xrI fun r1 M1 => (r1 = 0 ∨ r1 = 1) ∧ Q (some (.int r1)) M1))))))) : K_C_agree sa d Q 0 [some (.ref l0)] [] M u := b_C_agree_0 h
theorem t_C_agree {sa : Nat → Nat} {d : Nat} {Q : xQ} {l0 : Nat} {M : xM} (h : xgfR M l0 11 3 fun v1 => (xgfR M l0 11 8 fun v2 => (xgfR M v2 10 0 fun v3 => (xgfR M l0 11 8 fun v4 => (xgfR M v4 10 1 fun v5 => (xobj M v1 2 ∧ xEv xP (xprim sa) d m_Hall_isAgreed [.ref v1, .ref v3, .ref v5] M (xrI fun r1 M1 => (r1 = 0 ∨ r1 = 1) ∧ Q (some (.int r1)) M1))))))) : xEv xP (xprim sa) (d + 1) m_C_agree [.ref l0] M Q := e_C_agree (t_C_agree_0 h)
set_option maxRecDepth 100000 in
theorem t_C_agrees_0 {sa : Nat → Nat} {d : Nat} {Q : xQ} {l0 : Nat} {l1 : Int32} {M : xM} {u : xU} (h : xEv xP (xprim sa) d m_C_isWithin [.int l1, .int (nI 0), .int (nI 1)] M (xrI fun r1 M1 => if ¬ r1 = 0 then (xgfR M1 l0 11 4 fun v1 => (xgfR M1 l0 11 8 fun v2 => (xgfR M1 v2 10 0 fun v3 => (if ¬ l1 = (nI 1) then (xobj M1 v1 9 ∧ xEv xP (xprim sa) d m_Tries_agreement [.ref v1, .ref v3, .int (nI 0)] M1 (xrI fun r2 M2 => Q (some (.int r2)) M2)) else (xobj M1 v1 9 ∧ xEv xP (xprim sa) d m_Tries_agreement [.ref v1, .ref v3, .int (nI 1)] M1 (xrI fun r3 M3 => Q (some (.int r3)) M3)))))) else (Q (some (.int (-1 : Int32))) M1))) : K_C_agrees sa d Q 0 [some (.ref l0), some (.int l1)] [] M u := by
  refine b_C_agrees_0 ?_
  refine xEv_post' _ _ _ _ _ (xrI_mono (fun _ _ h => ?_)) h
  refine xite_mono (fun h => ?_) (fun h => ?_) h
  · refine b_C_agrees_2 ?_
    refine xgfR_mono (fun _ h => ?_) h
    refine xgfR_mono (fun _ h => ?_) h
    refine xgfR_mono (fun _ h => ?_) h
    refine xite_mono (fun h => ?_) (fun h => ?_) h
    · refine b_C_agrees_4 ?_
      exact b_C_agrees_5 h
    · refine b_C_agrees_3 ?_
      exact b_C_agrees_5 h
  · exact b_C_agrees_1 h
theorem t_C_agrees {sa : Nat → Nat} {d : Nat} {Q : xQ} {l0 : Nat} {l1 : Int32} {M : xM} (h : xEv xP (xprim sa) d m_C_isWithin [.int l1, .int (nI 0), .int (nI 1)] M (xrI fun r1 M1 => if ¬ r1 = 0 then (xgfR M1 l0 11 4 fun v1 => (xgfR M1 l0 11 8 fun v2 => (xgfR M1 v2 10 0 fun v3 => (if ¬ l1 = (nI 1) then (xobj M1 v1 9 ∧ xEv xP (xprim sa) d m_Tries_agreement [.ref v1, .ref v3, .int (nI 0)] M1 (xrI fun r2 M2 => Q (some (.int r2)) M2)) else (xobj M1 v1 9 ∧ xEv xP (xprim sa) d m_Tries_agreement [.ref v1, .ref v3, .int (nI 1)] M1 (xrI fun r3 M3 => Q (some (.int r3)) M3)))))) else (Q (some (.int (-1 : Int32))) M1))) : xEv xP (xprim sa) (d + 1) m_C_agrees [.ref l0, .int l1] M Q := e_C_agrees (t_C_agrees_0 h)
set_option maxRecDepth 100000 in
theorem t_C_holds_0 {sa : Nat → Nat} {d : Nat} {Q : xQ} {l0 : Nat} {l1 : Int32} {l2 : Int32} {M : xM} {u : xU} (h : xobj M l0 11 ∧ xEv xP (xprim sa) d m_C_isRunAsked [.ref l0, .int l1, .int l2] M (xrI fun r1 M1 => if ¬ r1 = 0 then (xgfR M1 l0 11 5 fun v1 => (xgfR M1 l0 11 8 fun v2 => (xgfR M1 v2 10 0 fun v3 => (xgfR M1 l0 11 7 fun v4 => (xobj M1 v1 6 ∧ xEv xP (xprim sa) d m_Runs_goThrough [.ref v1, .ref v3, .int l1, .int l2, .ref v4] M1 (xrI fun r2 M2 => if ¬ r2 = 0 then (xgfR M2 l0 11 5 fun v5 => (xgfR M2 l0 11 8 fun v6 => (xgfR M2 v6 10 0 fun v7 => (xobj M2 v5 6 ∧ xEv xP (xprim sa) d m_Runs_firstBad [.ref v5, .ref v7, .int l1] M2 (xrI fun r3 M3 => if ¬ r3 = (-1 : Int32) then (Q (some (.int (nI 0))) M3) else (Q (some (.int (nI 1))) M3)))))) else (Q (some (.int (-2 : Int32))) M2))))))) else (Q (some (.int (-1 : Int32))) M1))) : K_C_holds sa d Q 0 [some (.ref l0), some (.int l1), some (.int l2)] [] M u := by
  refine b_C_holds_0 ?_
  obtain ⟨hz, h⟩ := h
  refine ⟨hz, ?_⟩
  refine xEv_post' _ _ _ _ _ (xrI_mono (fun _ _ h => ?_)) h
  refine xite_mono (fun h => ?_) (fun h => ?_) h
  · refine b_C_holds_2 ?_
    refine xgfR_mono (fun _ h => ?_) h
    refine xgfR_mono (fun _ h => ?_) h
    refine xgfR_mono (fun _ h => ?_) h
    refine xgfR_mono (fun _ h => ?_) h
    obtain ⟨hz, h⟩ := h
    refine ⟨hz, ?_⟩
    refine xEv_post' _ _ _ _ _ (xrI_mono (fun _ _ h => ?_)) h
    refine xite_mono (fun h => ?_) (fun h => ?_) h
    · refine b_C_holds_4 ?_
      refine xgfR_mono (fun _ h => ?_) h
      refine xgfR_mono (fun _ h => ?_) h
      refine xgfR_mono (fun _ h => ?_) h
      obtain ⟨hz, h⟩ := h
      refine ⟨hz, ?_⟩
      refine xEv_post' _ _ _ _ _ (xrI_mono (fun _ _ h => ?_)) h
      refine xite_mono (fun h => ?_) (fun h => ?_) h
      · refine b_C_holds_6 ?_
        exact b_C_holds_7 h
      · refine b_C_holds_5 ?_
        exact b_C_holds_7 h
    · exact b_C_holds_3 h
  · exact b_C_holds_1 h
theorem t_C_holds {sa : Nat → Nat} {d : Nat} {Q : xQ} {l0 : Nat} {l1 : Int32} {l2 : Int32} {M : xM} (h : xobj M l0 11 ∧ xEv xP (xprim sa) d m_C_isRunAsked [.ref l0, .int l1, .int l2] M (xrI fun r1 M1 => if ¬ r1 = 0 then (xgfR M1 l0 11 5 fun v1 => (xgfR M1 l0 11 8 fun v2 => (xgfR M1 v2 10 0 fun v3 => (xgfR M1 l0 11 7 fun v4 => (xobj M1 v1 6 ∧ xEv xP (xprim sa) d m_Runs_goThrough [.ref v1, .ref v3, .int l1, .int l2, .ref v4] M1 (xrI fun r2 M2 => if ¬ r2 = 0 then (xgfR M2 l0 11 5 fun v5 => (xgfR M2 l0 11 8 fun v6 => (xgfR M2 v6 10 0 fun v7 => (xobj M2 v5 6 ∧ xEv xP (xprim sa) d m_Runs_firstBad [.ref v5, .ref v7, .int l1] M2 (xrI fun r3 M3 => if ¬ r3 = (-1 : Int32) then (Q (some (.int (nI 0))) M3) else (Q (some (.int (nI 1))) M3)))))) else (Q (some (.int (-2 : Int32))) M2))))))) else (Q (some (.int (-1 : Int32))) M1))) : xEv xP (xprim sa) (d + 1) m_C_holds [.ref l0, .int l1, .int l2] M Q := e_C_holds (t_C_holds_0 h)
set_option maxRecDepth 100000 in
theorem t_C_states_0 {sa : Nat → Nat} {d : Nat} {Q : xQ} {l0 : Nat} {l1 : Int32} {l2 : Int32} {M : xM} {u : xU} (h : xobj M l0 11 ∧ xEv xP (xprim sa) d m_C_isRunAsked [.ref l0, .int l1, .int l2] M (xrI fun r1 M1 => if ¬ r1 = 0 then (xgfR M1 l0 11 5 fun v1 => (xgfR M1 l0 11 8 fun v2 => (xgfR M1 v2 10 0 fun v3 => (xgfR M1 l0 11 7 fun v4 => (xobj M1 v1 6 ∧ xEv xP (xprim sa) d m_Runs_goThrough [.ref v1, .ref v3, .int l1, .int l2, .ref v4] M1 (xrI fun r2 M2 => if r2 = 0 then (Q (some (.int (-2 : Int32))) M2) else (xgfR M2 l0 11 5 fun v5 => (xgfR M2 v5 6 0 fun v6 => (xgfI M2 v6 1 5 fun v7 => (Q (some (.int v7)) M2)))))))))) else (Q (some (.int (-1 : Int32))) M1))) : K_C_states sa d Q 0 [some (.ref l0), some (.int l1), some (.int l2)] [] M u := by
  refine b_C_states_0 ?_
  obtain ⟨hz, h⟩ := h
  refine ⟨hz, ?_⟩
  refine xEv_post' _ _ _ _ _ (xrI_mono (fun _ _ h => ?_)) h
  refine xite_mono (fun h => ?_) (fun h => ?_) h
  · refine b_C_states_2 ?_
    refine xgfR_mono (fun _ h => ?_) h
    refine xgfR_mono (fun _ h => ?_) h
    refine xgfR_mono (fun _ h => ?_) h
    refine xgfR_mono (fun _ h => ?_) h
    obtain ⟨hz, h⟩ := h
    refine ⟨hz, ?_⟩
    refine xEv_post' _ _ _ _ _ (xrI_mono (fun _ _ h => ?_)) h
    refine xite_mono (fun h => ?_) (fun h => ?_) h
    · refine b_C_states_4 ?_
      exact b_C_states_5 h
    · refine b_C_states_3 ?_
      refine xgfR_mono (fun _ h => ?_) h
      refine xgfR_mono (fun _ h => ?_) h
      refine xgfI_mono (fun _ h => ?_) h
      exact b_C_states_5 h
  · exact b_C_states_1 h
theorem t_C_states {sa : Nat → Nat} {d : Nat} {Q : xQ} {l0 : Nat} {l1 : Int32} {l2 : Int32} {M : xM} (h : xobj M l0 11 ∧ xEv xP (xprim sa) d m_C_isRunAsked [.ref l0, .int l1, .int l2] M (xrI fun r1 M1 => if ¬ r1 = 0 then (xgfR M1 l0 11 5 fun v1 => (xgfR M1 l0 11 8 fun v2 => (xgfR M1 v2 10 0 fun v3 => (xgfR M1 l0 11 7 fun v4 => (xobj M1 v1 6 ∧ xEv xP (xprim sa) d m_Runs_goThrough [.ref v1, .ref v3, .int l1, .int l2, .ref v4] M1 (xrI fun r2 M2 => if r2 = 0 then (Q (some (.int (-2 : Int32))) M2) else (xgfR M2 l0 11 5 fun v5 => (xgfR M2 v5 6 0 fun v6 => (xgfI M2 v6 1 5 fun v7 => (Q (some (.int v7)) M2)))))))))) else (Q (some (.int (-1 : Int32))) M1))) : xEv xP (xprim sa) (d + 1) m_C_states [.ref l0, .int l1, .int l2] M Q := e_C_states (t_C_states_0 h)
set_option maxRecDepth 100000 in
theorem t_C_bad_0 {sa : Nat → Nat} {d : Nat} {Q : xQ} {l0 : Nat} {l1 : Int32} {l2 : Int32} {l3 : Int32} {l4 : Int32} {l5 : Int32} {M : xM} {u : xU} (h : xobj M l0 11 ∧ xEv xP (xprim sa) d m_C_isRunAsked [.ref l0, .int l1, .int l2] M (xrI fun r1 M1 => if r1 = 0 then (Q (some (.int (-3 : Int32))) M1) else (xEv xP (xprim sa) d m_C_isWithin [.int l3, .int (nI 0), .int (l1 - (nI 1))] M1 (xrI fun r2 M2 => if r2 = 0 then (Q (some (.int (-3 : Int32))) M2) else (xEv xP (xprim sa) d m_C_isWithin [.int l5, .int (nI 0), .int (nI 2)] M2 (xrI fun r3 M3 => if ¬ r3 = 0 then (xgfR M3 l0 11 8 fun v1 => (xgfR M3 v1 10 0 fun v2 => (xobj M3 v2 0 ∧ xEv xP (xprim sa) d m_Elders_countLiars [.ref v2] M3 (xrI fun r4 M4 => xEv xP (xprim sa) d m_C_isWithin [.int l4, .int (nI 0), .int (r4 - (nI 1))] M4 (xrI fun r5 M5 => if ¬ r5 = 0 then (xgfR M5 l0 11 5 fun v3 => (xgfR M5 l0 11 8 fun v4 => (xgfR M5 v4 10 0 fun v5 => (xgfR M5 l0 11 7 fun v6 => (xobj M5 v3 6 ∧ xEv xP (xprim sa) d m_Runs_goThrough [.ref v3, .ref v5, .int l1, .int l2, .ref v6] M5 (xrI fun r6 M6 => if ¬ r6 = 0 then (xgfR M6 l0 11 5 fun v7 => (xgfR M6 l0 11 8 fun v8 => (xgfR M6 v8 10 0 fun v9 => (xobj M6 v7 6 ∧ xEv xP (xprim sa) d m_Runs_firstBad [.ref v7, .ref v9, .int l1] M6 (xrI fun r7 M7 => if ¬ r7 = (-1 : Int32) then (xgfR M7 l0 11 5 fun v10 => (xobj M7 v10 6 ∧ xEv xP (xprim sa) d m_Runs_doneOnTheWay [.ref v10, .int l1, .int r7, .int l3, .int l4, .int l5] M7 (xrI fun r8 M8 => Q (some (.int r8)) M8))) else (Q (some (.int (-3 : Int32))) M7)))))) else (Q (some (.int (-2 : Int32))) M6))))))) else (Q (some (.int (-3 : Int32))) M5)))))) else (Q (some (.int (-3 : Int32))) M3))))))) : K_C_bad sa d Q 0 [some (.ref l0), some (.int l1), some (.int l2), some (.int l3), some (.int l4), some (.int l5), none] [] M u := by
  refine b_C_bad_0 ?_
  obtain ⟨hz, h⟩ := h
  refine ⟨hz, ?_⟩
  refine xEv_post' _ _ _ _ _ (xrI_mono (fun _ _ h => ?_)) h
  refine xite_mono (fun h => ?_) (fun h => ?_) h
  · exact b_C_bad_3 h
  · refine b_C_bad_1 ?_
    refine xEv_post' _ _ _ _ _ (xrI_mono (fun _ _ h => ?_)) h
    refine xite_mono (fun h => ?_) (fun h => ?_) h
    · exact b_C_bad_3 h
    · refine b_C_bad_2 ?_
      refine xEv_post' _ _ _ _ _ (xrI_mono (fun _ _ h => ?_)) h
      refine xite_mono (fun h => ?_) (fun h => ?_) h
      · refine b_C_bad_4 ?_
        refine xgfR_mono (fun _ h => ?_) h
        refine xgfR_mono (fun _ h => ?_) h
        obtain ⟨hz, h⟩ := h
        refine ⟨hz, ?_⟩
        refine xEv_post' _ _ _ _ _ (xrI_mono (fun _ _ h => ?_)) h
        refine xEv_post' _ _ _ _ _ (xrI_mono (fun _ _ h => ?_)) h
        refine xite_mono (fun h => ?_) (fun h => ?_) h
        · refine b_C_bad_6 ?_
          refine xgfR_mono (fun _ h => ?_) h
          refine xgfR_mono (fun _ h => ?_) h
          refine xgfR_mono (fun _ h => ?_) h
          refine xgfR_mono (fun _ h => ?_) h
          obtain ⟨hz, h⟩ := h
          refine ⟨hz, ?_⟩
          refine xEv_post' _ _ _ _ _ (xrI_mono (fun _ _ h => ?_)) h
          refine xite_mono (fun h => ?_) (fun h => ?_) h
          · refine b_C_bad_8 ?_
            refine xgfR_mono (fun _ h => ?_) h
            refine xgfR_mono (fun _ h => ?_) h
            refine xgfR_mono (fun _ h => ?_) h
            obtain ⟨hz, h⟩ := h
            refine ⟨hz, ?_⟩
            refine xEv_post' _ _ _ _ _ (xrI_mono (fun _ _ h => ?_)) h
            refine xite_mono (fun h => ?_) (fun h => ?_) h
            · refine b_C_bad_10 ?_
              refine xgfR_mono (fun _ h => ?_) h
              obtain ⟨hz, h⟩ := h
              refine ⟨hz, ?_⟩
              refine xEv_post' _ _ _ _ _ (xrI_mono (fun _ _ h => ?_)) h
              exact b_C_bad_11 h
            · refine b_C_bad_9 ?_
              exact b_C_bad_11 h
          · exact b_C_bad_7 h
        · exact b_C_bad_5 h
      · exact b_C_bad_3 h
theorem t_C_bad {sa : Nat → Nat} {d : Nat} {Q : xQ} {l0 : Nat} {l1 : Int32} {l2 : Int32} {l3 : Int32} {l4 : Int32} {l5 : Int32} {M : xM} (h : xobj M l0 11 ∧ xEv xP (xprim sa) d m_C_isRunAsked [.ref l0, .int l1, .int l2] M (xrI fun r1 M1 => if r1 = 0 then (Q (some (.int (-3 : Int32))) M1) else (xEv xP (xprim sa) d m_C_isWithin [.int l3, .int (nI 0), .int (l1 - (nI 1))] M1 (xrI fun r2 M2 => if r2 = 0 then (Q (some (.int (-3 : Int32))) M2) else (xEv xP (xprim sa) d m_C_isWithin [.int l5, .int (nI 0), .int (nI 2)] M2 (xrI fun r3 M3 => if ¬ r3 = 0 then (xgfR M3 l0 11 8 fun v1 => (xgfR M3 v1 10 0 fun v2 => (xobj M3 v2 0 ∧ xEv xP (xprim sa) d m_Elders_countLiars [.ref v2] M3 (xrI fun r4 M4 => xEv xP (xprim sa) d m_C_isWithin [.int l4, .int (nI 0), .int (r4 - (nI 1))] M4 (xrI fun r5 M5 => if ¬ r5 = 0 then (xgfR M5 l0 11 5 fun v3 => (xgfR M5 l0 11 8 fun v4 => (xgfR M5 v4 10 0 fun v5 => (xgfR M5 l0 11 7 fun v6 => (xobj M5 v3 6 ∧ xEv xP (xprim sa) d m_Runs_goThrough [.ref v3, .ref v5, .int l1, .int l2, .ref v6] M5 (xrI fun r6 M6 => if ¬ r6 = 0 then (xgfR M6 l0 11 5 fun v7 => (xgfR M6 l0 11 8 fun v8 => (xgfR M6 v8 10 0 fun v9 => (xobj M6 v7 6 ∧ xEv xP (xprim sa) d m_Runs_firstBad [.ref v7, .ref v9, .int l1] M6 (xrI fun r7 M7 => if ¬ r7 = (-1 : Int32) then (xgfR M7 l0 11 5 fun v10 => (xobj M7 v10 6 ∧ xEv xP (xprim sa) d m_Runs_doneOnTheWay [.ref v10, .int l1, .int r7, .int l3, .int l4, .int l5] M7 (xrI fun r8 M8 => Q (some (.int r8)) M8))) else (Q (some (.int (-3 : Int32))) M7)))))) else (Q (some (.int (-2 : Int32))) M6))))))) else (Q (some (.int (-3 : Int32))) M5)))))) else (Q (some (.int (-3 : Int32))) M3))))))) : xEv xP (xprim sa) (d + 1) m_C_bad [.ref l0, .int l1, .int l2, .int l3, .int l4, .int l5] M Q := e_C_bad (t_C_bad_0 h)
set_option maxRecDepth 100000 in
theorem t_C_told_0 {sa : Nat → Nat} {d : Nat} {Q : xQ} {l0 : Nat} {l1 : Int32} {l2 : Int32} {l3 : Int32} {M : xM} {u : xU} (h : xobj M l0 11 ∧ xEv xP (xprim sa) d m_C_isRoom [.ref l0, .int l1] M (xrI fun r1 M1 => if r1 = 0 then (Q (some (.int (-1 : Int32))) M1) else (xEv xP (xprim sa) d m_C_isNoteOrNone [.int l2] M1 (xrI fun r2 M2 => if r2 = 0 then (Q (some (.int (-1 : Int32))) M2) else (xEv xP (xprim sa) d m_C_isNoteOrNone [.int l3] M2 (xrI fun r3 M3 => if ¬ r3 = 0 then (xgfR M3 l0 11 8 fun v1 => (xgfR M3 v1 10 3 fun v2 => (xobj M3 v2 3 ∧ xEv xP (xprim sa) d m_Heard_add [.ref v2, .int l1, .int l2, .int l3] M3 (xrI fun r4 M4 => if r4 = 0 then (Q (some (.int (-1 : Int32))) M4) else (xgfR M4 l0 11 8 fun v3 => (xgfR M4 v3 10 3 fun v4 => (xgfI M4 v4 3 3 fun v5 => (Q (some (.int v5)) M4)))))))) else (Q (some (.int (-1 : Int32))) M3))))))) : K_C_told sa d Q 0 [some (.ref l0), some (.int l1), some (.int l2), some (.int l3)] [] M u := by
  refine b_C_told_0 ?_
  obtain ⟨hz, h⟩ := h
  refine ⟨hz, ?_⟩
  refine xEv_post' _ _ _ _ _ (xrI_mono (fun _ _ h => ?_)) h
  refine xite_mono (fun h => ?_) (fun h => ?_) h
  · exact b_C_told_3 h
  · refine b_C_told_1 ?_
    refine xEv_post' _ _ _ _ _ (xrI_mono (fun _ _ h => ?_)) h
    refine xite_mono (fun h => ?_) (fun h => ?_) h
    · exact b_C_told_3 h
    · refine b_C_told_2 ?_
      refine xEv_post' _ _ _ _ _ (xrI_mono (fun _ _ h => ?_)) h
      refine xite_mono (fun h => ?_) (fun h => ?_) h
      · refine b_C_told_4 ?_
        refine xgfR_mono (fun _ h => ?_) h
        refine xgfR_mono (fun _ h => ?_) h
        obtain ⟨hz, h⟩ := h
        refine ⟨hz, ?_⟩
        refine xEv_post' _ _ _ _ _ (xrI_mono (fun _ _ h => ?_)) h
        refine xite_mono (fun h => ?_) (fun h => ?_) h
        · refine b_C_told_6 ?_
          exact b_C_told_7 h
        · refine b_C_told_5 ?_
          refine xgfR_mono (fun _ h => ?_) h
          refine xgfR_mono (fun _ h => ?_) h
          refine xgfI_mono (fun _ h => ?_) h
          exact b_C_told_7 h
      · exact b_C_told_3 h
theorem t_C_told {sa : Nat → Nat} {d : Nat} {Q : xQ} {l0 : Nat} {l1 : Int32} {l2 : Int32} {l3 : Int32} {M : xM} (h : xobj M l0 11 ∧ xEv xP (xprim sa) d m_C_isRoom [.ref l0, .int l1] M (xrI fun r1 M1 => if r1 = 0 then (Q (some (.int (-1 : Int32))) M1) else (xEv xP (xprim sa) d m_C_isNoteOrNone [.int l2] M1 (xrI fun r2 M2 => if r2 = 0 then (Q (some (.int (-1 : Int32))) M2) else (xEv xP (xprim sa) d m_C_isNoteOrNone [.int l3] M2 (xrI fun r3 M3 => if ¬ r3 = 0 then (xgfR M3 l0 11 8 fun v1 => (xgfR M3 v1 10 3 fun v2 => (xobj M3 v2 3 ∧ xEv xP (xprim sa) d m_Heard_add [.ref v2, .int l1, .int l2, .int l3] M3 (xrI fun r4 M4 => if r4 = 0 then (Q (some (.int (-1 : Int32))) M4) else (xgfR M4 l0 11 8 fun v3 => (xgfR M4 v3 10 3 fun v4 => (xgfI M4 v4 3 3 fun v5 => (Q (some (.int v5)) M4)))))))) else (Q (some (.int (-1 : Int32))) M3))))))) : xEv xP (xprim sa) (d + 1) m_C_told [.ref l0, .int l1, .int l2, .int l3] M Q := e_C_told (t_C_told_0 h)
set_option maxRecDepth 100000 in
theorem t_C_forget_0 {sa : Nat → Nat} {d : Nat} {Q : xQ} {l0 : Nat} {M : xM} {u : xU} (h : xgfR M l0 11 8 fun v1 => (xgfR M v1 10 3 fun v2 => (xgfI M v2 3 3 fun v3 => (xgfR M l0 11 8 fun v4 => (xgfR M v4 10 3 fun v5 => (xpf M v5 3 3 (.int (nI 0)) fun M1 => (Q (some (.int v3)) M1))))))) : K_C_forget sa d Q 0 [some (.ref l0), none] [] M u := b_C_forget_0 h
theorem t_C_forget {sa : Nat → Nat} {d : Nat} {Q : xQ} {l0 : Nat} {M : xM} (h : xgfR M l0 11 8 fun v1 => (xgfR M v1 10 3 fun v2 => (xgfI M v2 3 3 fun v3 => (xgfR M l0 11 8 fun v4 => (xgfR M v4 10 3 fun v5 => (xpf M v5 3 3 (.int (nI 0)) fun M1 => (Q (some (.int v3)) M1))))))) : xEv xP (xprim sa) (d + 1) m_C_forget [.ref l0] M Q := e_C_forget (t_C_forget_0 h)
set_option maxRecDepth 100000 in
theorem t_C_suspects_0 {sa : Nat → Nat} {d : Nat} {Q : xQ} {l0 : Nat} {l1 : Int32} {M : xM} {u : xU} (h : xEv xP (xprim sa) d m_C_isWithin [.int l1, .int (nI 0), .int (nI 2)] M (xrI fun r1 M1 => if r1 = 0 then (Q (some (.int (-1 : Int32))) M1) else (xgfR M1 l0 11 8 fun v1 => (xgfR M1 v1 10 3 fun v2 => (xgfI M1 v2 3 3 fun v3 => (if ¬ v3 = 0 then (xgfR M1 l0 11 6 fun v4 => (xgfR M1 l0 11 8 fun v5 => (xgfR M1 v5 10 0 fun v6 => (xobj M1 v4 0 ∧ xEv xP (xprim sa) d m_Elders_copyFrom [.ref v4, .ref v6] M1 (xrV fun M2 => xgfR M2 l0 11 6 fun v7 => (xobj M2 v7 0 ∧ xEv xP (xprim sa) d m_Elders_makeLiarsSound [.ref v7] M2 (xrV fun M3 => xobj M3 l0 11 ∧ xEv xP (xprim sa) d m_C_canBeHeard [.ref l0, .int l1] M3 (xrI fun r2 M4 => if r2 = 0 then K_C_suspects sa d Q 7 [some (.ref l0), some (.int l1), some (.int (nI 0)), some (.int (nI 0)), none] [] M4 u else K_C_suspects sa d Q 7 [some (.ref l0), some (.int l1), some (.int (nI 512)), some (.int (nI 0)), none] [] M4 u)))))))) else (Q (some (.int (-1 : Int32))) M1))))))) : K_C_suspects sa d Q 0 [some (.ref l0), some (.int l1), none, none, none] [] M u := by
  refine b_C_suspects_0 ?_
  refine xEv_post' _ _ _ _ _ (xrI_mono (fun _ _ h => ?_)) h
  refine xite_mono (fun h => ?_) (fun h => ?_) h
  · exact b_C_suspects_2 h
  · refine b_C_suspects_1 ?_
    refine xgfR_mono (fun _ h => ?_) h
    refine xgfR_mono (fun _ h => ?_) h
    refine xgfI_mono (fun _ h => ?_) h
    refine xite_mono (fun h => ?_) (fun h => ?_) h
    · refine b_C_suspects_3 ?_
      refine xgfR_mono (fun _ h => ?_) h
      refine xgfR_mono (fun _ h => ?_) h
      refine xgfR_mono (fun _ h => ?_) h
      obtain ⟨hz, h⟩ := h
      refine ⟨hz, ?_⟩
      refine xEv_post' _ _ _ _ _ (xrV_mono (fun _ h => ?_)) h
      refine xgfR_mono (fun _ h => ?_) h
      obtain ⟨hz, h⟩ := h
      refine ⟨hz, ?_⟩
      refine xEv_post' _ _ _ _ _ (xrV_mono (fun _ h => ?_)) h
      obtain ⟨hz, h⟩ := h
      refine ⟨hz, ?_⟩
      refine xEv_post' _ _ _ _ _ (xrI_mono (fun _ _ h => ?_)) h
      refine xite_mono (fun h => ?_) (fun h => ?_) h
      · refine b_C_suspects_5 ?_
        exact b_C_suspects_6 h
      · refine b_C_suspects_4 ?_
        exact b_C_suspects_6 h
    · exact b_C_suspects_2 h
set_option maxRecDepth 100000 in
theorem t_C_suspects_7 {sa : Nat → Nat} {d : Nat} {Q : xQ} {l0 : Nat} {l1 : Int32} {l2 : Int32} {l3 : Int32} {M : xM} {u : xU} (h : xgfI M l0 11 0 fun v1 => (if v1 ≤ l3 then (Q (some (.int l2)) M) else (xgfR M l0 11 8 fun v2 => (xgfR M v2 10 3 fun v3 => (xgfI M v3 3 2 fun v4 => (if ¬ l3 = v4 then (xgfR M l0 11 6 fun v5 => (xgfR M v5 0 0 fun v6 => (xaI M v6 l3 fun v7 => (xgfR M l0 11 6 fun v8 => (xgfR M v8 0 0 fun v9 => (xsI M v9 l3 (nI 1) fun M1 => (xobj M1 l0 11 ∧ xEv xP (xprim sa) d m_C_canBeHeard [.ref l0, .int l1] M1 (xrI fun r1 M2 => if r1 = 0 then (xgfR M2 l0 11 6 fun v10 => (xgfR M2 v10 0 0 fun v11 => (xsI M2 v11 l3 v7 fun M3 => (K_C_suspects sa d Q 7 [some (.ref l0), some (.int l1), some (.int l2), some (.int (l3 + (nI 1))), none] [] M3 u)))) else (xgfR M2 l0 11 6 fun v12 => (xgfR M2 v12 0 0 fun v13 => (xsI M2 v13 l3 v7 fun M4 => (K_C_suspects sa d Q 7 [some (.ref l0), some (.int l1), some (.int (l2 ||| ((nI 1) <<< (l3 &&& 31)))), some (.int (l3 + (nI 1))), none] [] M4 u)))))))))))) else K_C_suspects sa d Q 7 [some (.ref l0), some (.int l1), some (.int l2), some (.int (l3 + (nI 1))), none] [] M u)))))) : K_C_suspects sa d Q 7 [some (.ref l0), some (.int l1), some (.int l2), some (.int l3), none] [] M u := by
  refine b_C_suspects_7 ?_
  refine xgfI_mono (fun _ h => ?_) h
  refine xite_mono (fun h => ?_) (fun h => ?_) h
  · exact b_C_suspects_14 h
  · refine b_C_suspects_8 ?_
    refine xgfR_mono (fun _ h => ?_) h
    refine xgfR_mono (fun _ h => ?_) h
    refine xgfI_mono (fun _ h => ?_) h
    refine xite_mono (fun h => ?_) (fun h => ?_) h
    · refine b_C_suspects_10 ?_
      refine xgfR_mono (fun _ h => ?_) h
      refine xgfR_mono (fun _ h => ?_) h
      refine xaI_mono (fun _ h => ?_) h
      refine xgfR_mono (fun _ h => ?_) h
      refine xgfR_mono (fun _ h => ?_) h
      refine xsI_mono (fun _ h => ?_) h
      obtain ⟨hz, h⟩ := h
      refine ⟨hz, ?_⟩
      refine xEv_post' _ _ _ _ _ (xrI_mono (fun _ _ h => ?_)) h
      refine xite_mono (fun h => ?_) (fun h => ?_) h
      · refine b_C_suspects_12 ?_
        refine xgfR_mono (fun _ h => ?_) h
        refine xgfR_mono (fun _ h => ?_) h
        refine xsI_mono (fun _ h => ?_) h
        exact b_C_suspects_13 h
      · refine b_C_suspects_11 ?_
        refine b_C_suspects_12 ?_
        refine xgfR_mono (fun _ h => ?_) h
        refine xgfR_mono (fun _ h => ?_) h
        refine xsI_mono (fun _ h => ?_) h
        exact b_C_suspects_13 h
    · refine b_C_suspects_9 ?_
      exact b_C_suspects_13 h
theorem t_C_suspects {sa : Nat → Nat} {d : Nat} {Q : xQ} {l0 : Nat} {l1 : Int32} {M : xM} (h : xEv xP (xprim sa) d m_C_isWithin [.int l1, .int (nI 0), .int (nI 2)] M (xrI fun r1 M1 => if r1 = 0 then (Q (some (.int (-1 : Int32))) M1) else (xgfR M1 l0 11 8 fun v1 => (xgfR M1 v1 10 3 fun v2 => (xgfI M1 v2 3 3 fun v3 => (if ¬ v3 = 0 then (xgfR M1 l0 11 6 fun v4 => (xgfR M1 l0 11 8 fun v5 => (xgfR M1 v5 10 0 fun v6 => (xobj M1 v4 0 ∧ xEv xP (xprim sa) d m_Elders_copyFrom [.ref v4, .ref v6] M1 (xrV fun M2 => xgfR M2 l0 11 6 fun v7 => (xobj M2 v7 0 ∧ xEv xP (xprim sa) d m_Elders_makeLiarsSound [.ref v7] M2 (xrV fun M3 => xobj M3 l0 11 ∧ xEv xP (xprim sa) d m_C_canBeHeard [.ref l0, .int l1] M3 (xrI fun r2 M4 => if r2 = 0 then K_C_suspects sa d Q 7 [some (.ref l0), some (.int l1), some (.int (nI 0)), some (.int (nI 0)), none] [] M4 (0, 0) else K_C_suspects sa d Q 7 [some (.ref l0), some (.int l1), some (.int (nI 512)), some (.int (nI 0)), none] [] M4 (0, 0))))))))) else (Q (some (.int (-1 : Int32))) M1))))))) : xEv xP (xprim sa) (d + 1) m_C_suspects [.ref l0, .int l1] M Q := e_C_suspects (t_C_suspects_0 h)
set_option maxRecDepth 100000 in
theorem t_C_slips_0 {sa : Nat → Nat} {d : Nat} {Q : xQ} {l0 : Nat} {l1 : Int32} {l2 : Int32} {l3 : Int32} {l4 : Int32} {M : xM} {u : xU} (h : xEv xP (xprim sa) d m_C_isWithin [.int l1, .int (nI 1), .int (nI 20)] M (xrI fun r1 M1 => if r1 = 0 then (Q (some (.int (-1 : Int32))) M1) else (xobj M1 l0 11 ∧ xEv xP (xprim sa) d m_C_isRoom [.ref l0, .int l2] M1 (xrI fun r2 M2 => if r2 = 0 then (Q (some (.int (-1 : Int32))) M2) else (xEv xP (xprim sa) d m_C_isWithin [.int l3, .int (nI 0), .int (nI 9)] M2 (xrI fun r3 M3 => if r3 = 0 then (Q (some (.int (-1 : Int32))) M3) else (if (-1 : Int32) ≤ l4 then (xgfR M3 l0 11 4 fun v1 => (xgfR M3 l0 11 8 fun v2 => (xgfR M3 v2 10 0 fun v3 => (xobj M3 v1 9 ∧ xEv xP (xprim sa) d m_Tries_slipsTo [.ref v1, .ref v3, .int l1, .int l2, .int l3, .int l4] M3 (xrI fun r4 M4 => Q (some (.int r4)) M4))))) else (Q (some (.int (-1 : Int32))) M3)))))))) : K_C_slips sa d Q 0 [some (.ref l0), some (.int l1), some (.int l2), some (.int l3), some (.int l4)] [] M u := by
  refine b_C_slips_0 ?_
  refine xEv_post' _ _ _ _ _ (xrI_mono (fun _ _ h => ?_)) h
  refine xite_mono (fun h => ?_) (fun h => ?_) h
  · exact b_C_slips_4 h
  · refine b_C_slips_1 ?_
    obtain ⟨hz, h⟩ := h
    refine ⟨hz, ?_⟩
    refine xEv_post' _ _ _ _ _ (xrI_mono (fun _ _ h => ?_)) h
    refine xite_mono (fun h => ?_) (fun h => ?_) h
    · exact b_C_slips_4 h
    · refine b_C_slips_2 ?_
      refine xEv_post' _ _ _ _ _ (xrI_mono (fun _ _ h => ?_)) h
      refine xite_mono (fun h => ?_) (fun h => ?_) h
      · exact b_C_slips_4 h
      · refine b_C_slips_3 ?_
        refine xite_mono (fun h => ?_) (fun h => ?_) h
        · exact b_C_slips_5 h
        · exact b_C_slips_4 h
theorem t_C_slips {sa : Nat → Nat} {d : Nat} {Q : xQ} {l0 : Nat} {l1 : Int32} {l2 : Int32} {l3 : Int32} {l4 : Int32} {M : xM} (h : xEv xP (xprim sa) d m_C_isWithin [.int l1, .int (nI 1), .int (nI 20)] M (xrI fun r1 M1 => if r1 = 0 then (Q (some (.int (-1 : Int32))) M1) else (xobj M1 l0 11 ∧ xEv xP (xprim sa) d m_C_isRoom [.ref l0, .int l2] M1 (xrI fun r2 M2 => if r2 = 0 then (Q (some (.int (-1 : Int32))) M2) else (xEv xP (xprim sa) d m_C_isWithin [.int l3, .int (nI 0), .int (nI 9)] M2 (xrI fun r3 M3 => if r3 = 0 then (Q (some (.int (-1 : Int32))) M3) else (if (-1 : Int32) ≤ l4 then (xgfR M3 l0 11 4 fun v1 => (xgfR M3 l0 11 8 fun v2 => (xgfR M3 v2 10 0 fun v3 => (xobj M3 v1 9 ∧ xEv xP (xprim sa) d m_Tries_slipsTo [.ref v1, .ref v3, .int l1, .int l2, .int l3, .int l4] M3 (xrI fun r4 M4 => Q (some (.int r4)) M4))))) else (Q (some (.int (-1 : Int32))) M3)))))))) : xEv xP (xprim sa) (d + 1) m_C_slips [.ref l0, .int l1, .int l2, .int l3, .int l4] M Q := e_C_slips (t_C_slips_0 h)
set_option maxRecDepth 100000 in
theorem t_C_learns_0 {sa : Nat → Nat} {d : Nat} {Q : xQ} {l0 : Nat} {l1 : Int32} {l2 : Int32} {l3 : Int32} {M : xM} {u : xU} (h : xobj M l0 11 ∧ xEv xP (xprim sa) d m_C_isRoom [.ref l0, .int l1] M (xrI fun r1 M1 => if r1 = 0 then (Q (some (.int (-1 : Int32))) M1) else (xEv xP (xprim sa) d m_C_isWithin [.int l2, .int (nI 0), .int (nI 20)] M1 (xrI fun r2 M2 => if r2 = 0 then (Q (some (.int (-1 : Int32))) M2) else (xobj M2 l0 11 ∧ xEv xP (xprim sa) d m_C_isRoom [.ref l0, .int l3] M2 (xrI fun r3 M3 => if ¬ r3 = 0 then (xgfR M3 l0 11 6 fun v1 => (xgfR M3 l0 11 8 fun v2 => (xgfR M3 v2 10 0 fun v3 => (xobj M3 v1 0 ∧ xEv xP (xprim sa) d m_Elders_copyFrom [.ref v1, .ref v3] M3 (xrV fun M4 => xgfR M4 l0 11 4 fun v4 => (xgfR M4 l0 11 6 fun v5 => (xobj M4 v4 9 ∧ xEv xP (xprim sa) d m_Tries_unlikeRows [.ref v4, .ref v5, .int l1, .int l2, .int l3] M4 (xrI fun r4 M5 => Q (some (.int r4)) M5)))))))) else (Q (some (.int (-1 : Int32))) M3))))))) : K_C_learns sa d Q 0 [some (.ref l0), some (.int l1), some (.int l2), some (.int l3)] [] M u := by
  refine b_C_learns_0 ?_
  obtain ⟨hz, h⟩ := h
  refine ⟨hz, ?_⟩
  refine xEv_post' _ _ _ _ _ (xrI_mono (fun _ _ h => ?_)) h
  refine xite_mono (fun h => ?_) (fun h => ?_) h
  · exact b_C_learns_3 h
  · refine b_C_learns_1 ?_
    refine xEv_post' _ _ _ _ _ (xrI_mono (fun _ _ h => ?_)) h
    refine xite_mono (fun h => ?_) (fun h => ?_) h
    · exact b_C_learns_3 h
    · refine b_C_learns_2 ?_
      obtain ⟨hz, h⟩ := h
      refine ⟨hz, ?_⟩
      refine xEv_post' _ _ _ _ _ (xrI_mono (fun _ _ h => ?_)) h
      refine xite_mono (fun h => ?_) (fun h => ?_) h
      · exact b_C_learns_4 h
      · exact b_C_learns_3 h
theorem t_C_learns {sa : Nat → Nat} {d : Nat} {Q : xQ} {l0 : Nat} {l1 : Int32} {l2 : Int32} {l3 : Int32} {M : xM} (h : xobj M l0 11 ∧ xEv xP (xprim sa) d m_C_isRoom [.ref l0, .int l1] M (xrI fun r1 M1 => if r1 = 0 then (Q (some (.int (-1 : Int32))) M1) else (xEv xP (xprim sa) d m_C_isWithin [.int l2, .int (nI 0), .int (nI 20)] M1 (xrI fun r2 M2 => if r2 = 0 then (Q (some (.int (-1 : Int32))) M2) else (xobj M2 l0 11 ∧ xEv xP (xprim sa) d m_C_isRoom [.ref l0, .int l3] M2 (xrI fun r3 M3 => if ¬ r3 = 0 then (xgfR M3 l0 11 6 fun v1 => (xgfR M3 l0 11 8 fun v2 => (xgfR M3 v2 10 0 fun v3 => (xobj M3 v1 0 ∧ xEv xP (xprim sa) d m_Elders_copyFrom [.ref v1, .ref v3] M3 (xrV fun M4 => xgfR M4 l0 11 4 fun v4 => (xgfR M4 l0 11 6 fun v5 => (xobj M4 v4 9 ∧ xEv xP (xprim sa) d m_Tries_unlikeRows [.ref v4, .ref v5, .int l1, .int l2, .int l3] M4 (xrI fun r4 M5 => Q (some (.int r4)) M5)))))))) else (Q (some (.int (-1 : Int32))) M3))))))) : xEv xP (xprim sa) (d + 1) m_C_learns [.ref l0, .int l1, .int l2, .int l3] M Q := e_C_learns (t_C_learns_0 h)
set_option maxRecDepth 100000 in
theorem t_C_image_0 {sa : Nat → Nat} {d : Nat} {Q : xQ} {l0 : Nat} {M : xM} {u : xU} (h : xgfR M l0 11 9 fun v1 => (xgfR M l0 11 8 fun v2 => (xobj M v1 10 ∧ xEv xP (xprim sa) d m_Whole_copyFrom [.ref v1, .ref v2] M (xrV fun M1 => xgfR M1 l0 11 8 fun v3 => (xgfR M1 v3 10 1 fun v4 => (xgfI M1 v4 4 4 fun v5 => (Q (some (.int v5)) M1))))))) : K_C_image sa d Q 0 [some (.ref l0)] [] M u := b_C_image_0 h
theorem t_C_image {sa : Nat → Nat} {d : Nat} {Q : xQ} {l0 : Nat} {M : xM} (h : xgfR M l0 11 9 fun v1 => (xgfR M l0 11 8 fun v2 => (xobj M v1 10 ∧ xEv xP (xprim sa) d m_Whole_copyFrom [.ref v1, .ref v2] M (xrV fun M1 => xgfR M1 l0 11 8 fun v3 => (xgfR M1 v3 10 1 fun v4 => (xgfI M1 v4 4 4 fun v5 => (Q (some (.int v5)) M1))))))) : xEv xP (xprim sa) (d + 1) m_C_image [.ref l0] M Q := e_C_image (t_C_image_0 h)
set_option maxRecDepth 100000 in
theorem t_C_back_0 {sa : Nat → Nat} {d : Nat} {Q : xQ} {l0 : Nat} {M : xM} {u : xU} (h : xgfR M l0 11 8 fun v1 => (xgfR M l0 11 9 fun v2 => (xobj M v1 10 ∧ xEv xP (xprim sa) d m_Whole_copyFrom [.ref v1, .ref v2] M (xrV fun M1 => xgfR M1 l0 11 8 fun v3 => (xgfR M1 v3 10 1 fun v4 => (xgfI M1 v4 4 4 fun v5 => (Q (some (.int v5)) M1))))))) : K_C_back sa d Q 0 [some (.ref l0)] [] M u := b_C_back_0 h
theorem t_C_back {sa : Nat → Nat} {d : Nat} {Q : xQ} {l0 : Nat} {M : xM} (h : xgfR M l0 11 8 fun v1 => (xgfR M l0 11 9 fun v2 => (xobj M v1 10 ∧ xEv xP (xprim sa) d m_Whole_copyFrom [.ref v1, .ref v2] M (xrV fun M1 => xgfR M1 l0 11 8 fun v3 => (xgfR M1 v3 10 1 fun v4 => (xgfI M1 v4 4 4 fun v5 => (Q (some (.int v5)) M1))))))) : xEv xP (xprim sa) (d + 1) m_C_back [.ref l0] M Q := e_C_back (t_C_back_0 h)
set_option maxRecDepth 100000 in
theorem t_C_about_0 {sa : Nat → Nat} {d : Nat} {Q : xQ} {l0 : Nat} {l1 : Int32} {M : xM} {u : xU} (h : if l1 = (nI 0) then (xgfI M l0 11 0 fun v1 => (Q (some (.int v1)) M)) else (if l1 = (nI 1) then (xgfR M l0 11 8 fun v2 => (xgfR M v2 10 1 fun v3 => (xgfI M v3 4 4 fun v4 => (Q (some (.int v4)) M)))) else (if l1 = (nI 2) then (xgfR M l0 11 8 fun v5 => (xgfR M v5 10 1 fun v6 => (xgfI M v6 4 3 fun v7 => (Q (some (.int v7)) M)))) else (if l1 = (nI 3) then (xgfR M l0 11 8 fun v8 => (xgfI M v8 10 4 fun v9 => (Q (some (.int v9)) M))) else (if l1 = (nI 4) then (xgfR M l0 11 8 fun v10 => (xgfR M v10 10 0 fun v11 => (xgfI M v11 0 7 fun v12 => (Q (some (.int v12)) M)))) else (if l1 = (nI 5) then (xgfR M l0 11 8 fun v13 => (xgfR M v13 10 2 fun v14 => (xgfI M v14 5 2 fun v15 => (Q (some (.int v15)) M)))) else (if l1 = (nI 6) then (xgfR M l0 11 8 fun v16 => (xgfR M v16 10 3 fun v17 => (xgfI M v17 3 3 fun v18 => (Q (some (.int v18)) M)))) else (if l1 = (nI 7) then (xgfR M l0 11 8 fun v19 => (xgfR M v19 10 3 fun v20 => (xgfI M v20 3 3 fun v21 => (if ¬ v21 = 0 then (xgfR M l0 11 8 fun v22 => (xgfR M v22 10 3 fun v23 => (xgfI M v23 3 2 fun v24 => (Q (some (.int v24)) M)))) else (Q (some (.int (-1 : Int32))) M))))) else (if l1 = (nI 8) then (xgfR M l0 11 2 fun v25 => (xgfI M v25 7 1 fun v26 => (Q (some (.int v26)) M))) else (if l1 = (nI 9) then (xgfR M l0 11 8 fun v27 => (xgfR M v27 10 0 fun v28 => (xobj M v28 0 ∧ xEv xP (xprim sa) d m_Elders_countBarred [.ref v28] M (xrI fun r1 M1 => Q (some (.int r1)) M1)))) else (Q (some (.int (-2 : Int32))) M))))))))))) : K_C_about sa d Q 0 [some (.ref l0), some (.int l1)] [] M u := by
  refine b_C_about_0 ?_
  refine xite_mono (fun h => ?_) (fun h => ?_) h
  · exact b_C_about_1 h
  · refine xite_mono (fun h => ?_) (fun h => ?_) h
    · exact b_C_about_2 h
    · refine xite_mono (fun h => ?_) (fun h => ?_) h
      · exact b_C_about_3 h
      · refine xite_mono (fun h => ?_) (fun h => ?_) h
        · exact b_C_about_4 h
        · refine xite_mono (fun h => ?_) (fun h => ?_) h
          · exact b_C_about_5 h
          · refine xite_mono (fun h => ?_) (fun h => ?_) h
            · exact b_C_about_6 h
            · refine xite_mono (fun h => ?_) (fun h => ?_) h
              · exact b_C_about_7 h
              · refine xite_mono (fun h => ?_) (fun h => ?_) h
                · refine b_C_about_8 ?_
                  refine xgfR_mono (fun _ h => ?_) h
                  refine xgfR_mono (fun _ h => ?_) h
                  refine xgfI_mono (fun _ h => ?_) h
                  refine xite_mono (fun h => ?_) (fun h => ?_) h
                  · refine b_C_about_10 ?_
                    refine xgfR_mono (fun _ h => ?_) h
                    refine xgfR_mono (fun _ h => ?_) h
                    refine xgfI_mono (fun _ h => ?_) h
                    exact b_C_about_11 h
                  · refine b_C_about_9 ?_
                    exact b_C_about_11 h
                · refine xite_mono (fun h => ?_) (fun h => ?_) h
                  · exact b_C_about_12 h
                  · refine xite_mono (fun h => ?_) (fun h => ?_) h
                    · exact b_C_about_13 h
                    · exact b_C_about_14 h
theorem t_C_about {sa : Nat → Nat} {d : Nat} {Q : xQ} {l0 : Nat} {l1 : Int32} {M : xM} (h : if l1 = (nI 0) then (xgfI M l0 11 0 fun v1 => (Q (some (.int v1)) M)) else (if l1 = (nI 1) then (xgfR M l0 11 8 fun v2 => (xgfR M v2 10 1 fun v3 => (xgfI M v3 4 4 fun v4 => (Q (some (.int v4)) M)))) else (if l1 = (nI 2) then (xgfR M l0 11 8 fun v5 => (xgfR M v5 10 1 fun v6 => (xgfI M v6 4 3 fun v7 => (Q (some (.int v7)) M)))) else (if l1 = (nI 3) then (xgfR M l0 11 8 fun v8 => (xgfI M v8 10 4 fun v9 => (Q (some (.int v9)) M))) else (if l1 = (nI 4) then (xgfR M l0 11 8 fun v10 => (xgfR M v10 10 0 fun v11 => (xgfI M v11 0 7 fun v12 => (Q (some (.int v12)) M)))) else (if l1 = (nI 5) then (xgfR M l0 11 8 fun v13 => (xgfR M v13 10 2 fun v14 => (xgfI M v14 5 2 fun v15 => (Q (some (.int v15)) M)))) else (if l1 = (nI 6) then (xgfR M l0 11 8 fun v16 => (xgfR M v16 10 3 fun v17 => (xgfI M v17 3 3 fun v18 => (Q (some (.int v18)) M)))) else (if l1 = (nI 7) then (xgfR M l0 11 8 fun v19 => (xgfR M v19 10 3 fun v20 => (xgfI M v20 3 3 fun v21 => (if ¬ v21 = 0 then (xgfR M l0 11 8 fun v22 => (xgfR M v22 10 3 fun v23 => (xgfI M v23 3 2 fun v24 => (Q (some (.int v24)) M)))) else (Q (some (.int (-1 : Int32))) M))))) else (if l1 = (nI 8) then (xgfR M l0 11 2 fun v25 => (xgfI M v25 7 1 fun v26 => (Q (some (.int v26)) M))) else (if l1 = (nI 9) then (xgfR M l0 11 8 fun v27 => (xgfR M v27 10 0 fun v28 => (xobj M v28 0 ∧ xEv xP (xprim sa) d m_Elders_countBarred [.ref v28] M (xrI fun r1 M1 => Q (some (.int r1)) M1)))) else (Q (some (.int (-2 : Int32))) M))))))))))) : xEv xP (xprim sa) (d + 1) m_C_about [.ref l0, .int l1] M Q := e_C_about (t_C_about_0 h)
set_option maxRecDepth 100000 in
theorem t_C_isRoom_0 {sa : Nat → Nat} {d : Nat} {Q : xQ} {l0 : Nat} {l1 : Int32} {M : xM} {u : xU} (h : if l1 < 0 then (((nI 0) = 0 ∨ (nI 0) = 1) ∧ Q (some (.int (nI 0))) M) else (xgfI M l0 11 0 fun v1 => (if v1 ≤ l1 then (((nI 0) = 0 ∨ (nI 0) = 1) ∧ Q (some (.int (nI 0))) M) else (((nI 1) = 0 ∨ (nI 1) = 1) ∧ Q (some (.int (nI 1))) M)))) : K_C_isRoom sa d Q 0 [some (.ref l0), some (.int l1)] [] M u := by
  refine b_C_isRoom_0 ?_
  refine xite_mono (fun h => ?_) (fun h => ?_) h
  · refine b_C_isRoom_3 ?_
    exact b_C_isRoom_4 h
  · refine b_C_isRoom_1 ?_
    refine xgfI_mono (fun _ h => ?_) h
    refine xite_mono (fun h => ?_) (fun h => ?_) h
    · refine b_C_isRoom_3 ?_
      exact b_C_isRoom_4 h
    · refine b_C_isRoom_2 ?_
      exact b_C_isRoom_4 h
theorem t_C_isRoom {sa : Nat → Nat} {d : Nat} {Q : xQ} {l0 : Nat} {l1 : Int32} {M : xM} (h : if l1 < 0 then (((nI 0) = 0 ∨ (nI 0) = 1) ∧ Q (some (.int (nI 0))) M) else (xgfI M l0 11 0 fun v1 => (if v1 ≤ l1 then (((nI 0) = 0 ∨ (nI 0) = 1) ∧ Q (some (.int (nI 0))) M) else (((nI 1) = 0 ∨ (nI 1) = 1) ∧ Q (some (.int (nI 1))) M)))) : xEv xP (xprim sa) (d + 1) m_C_isRoom [.ref l0, .int l1] M Q := e_C_isRoom (t_C_isRoom_0 h)
set_option maxRecDepth 100000 in
theorem t_C_isRunAsked_0 {sa : Nat → Nat} {d : Nat} {Q : xQ} {l0 : Nat} {l1 : Int32} {l2 : Int32} {M : xM} {u : xU} (h : xEv xP (xprim sa) d m_C_isWithin [.int l1, .int (nI 0), .int (nI 6)] M (xrI fun r1 M1 => if r1 = 0 then (((nI 0) = 0 ∨ (nI 0) = 1) ∧ Q (some (.int (nI 0))) M1) else (xEv xP (xprim sa) d m_C_isWithin [.int l2, .int (nI 0), .int (nI 2)] M1 (xrI fun r2 M2 => if r2 = 0 then (((nI 0) = 0 ∨ (nI 0) = 1) ∧ Q (some (.int (nI 0))) M2) else (xgfR M2 l0 11 8 fun v1 => (xgfR M2 v1 10 0 fun v2 => (xobj M2 v2 0 ∧ xEv xP (xprim sa) d m_Elders_countLiars [.ref v2] M2 (xrI fun r3 M3 => if (nI 2) < r3 then (((nI 0) = 0 ∨ (nI 0) = 1) ∧ Q (some (.int (nI 0))) M3) else (((nI 1) = 0 ∨ (nI 1) = 1) ∧ Q (some (.int (nI 1))) M3))))))))) : K_C_isRunAsked sa d Q 0 [some (.ref l0), some (.int l1), some (.int l2)] [] M u := by
  refine b_C_isRunAsked_0 ?_
  refine xEv_post' _ _ _ _ _ (xrI_mono (fun _ _ h => ?_)) h
  refine xite_mono (fun h => ?_) (fun h => ?_) h
  · refine b_C_isRunAsked_4 ?_
    exact b_C_isRunAsked_5 h
  · refine b_C_isRunAsked_1 ?_
    refine xEv_post' _ _ _ _ _ (xrI_mono (fun _ _ h => ?_)) h
    refine xite_mono (fun h => ?_) (fun h => ?_) h
    · refine b_C_isRunAsked_4 ?_
      exact b_C_isRunAsked_5 h
    · refine b_C_isRunAsked_2 ?_
      refine xgfR_mono (fun _ h => ?_) h
      refine xgfR_mono (fun _ h => ?_) h
      obtain ⟨hz, h⟩ := h
      refine ⟨hz, ?_⟩
      refine xEv_post' _ _ _ _ _ (xrI_mono (fun _ _ h => ?_)) h
      refine xite_mono (fun h => ?_) (fun h => ?_) h
      · refine b_C_isRunAsked_4 ?_
        exact b_C_isRunAsked_5 h
      · refine b_C_isRunAsked_3 ?_
        exact b_C_isRunAsked_5 h
theorem t_C_isRunAsked {sa : Nat → Nat} {d : Nat} {Q : xQ} {l0 : Nat} {l1 : Int32} {l2 : Int32} {M : xM} (h : xEv xP (xprim sa) d m_C_isWithin [.int l1, .int (nI 0), .int (nI 6)] M (xrI fun r1 M1 => if r1 = 0 then (((nI 0) = 0 ∨ (nI 0) = 1) ∧ Q (some (.int (nI 0))) M1) else (xEv xP (xprim sa) d m_C_isWithin [.int l2, .int (nI 0), .int (nI 2)] M1 (xrI fun r2 M2 => if r2 = 0 then (((nI 0) = 0 ∨ (nI 0) = 1) ∧ Q (some (.int (nI 0))) M2) else (xgfR M2 l0 11 8 fun v1 => (xgfR M2 v1 10 0 fun v2 => (xobj M2 v2 0 ∧ xEv xP (xprim sa) d m_Elders_countLiars [.ref v2] M2 (xrI fun r3 M3 => if (nI 2) < r3 then (((nI 0) = 0 ∨ (nI 0) = 1) ∧ Q (some (.int (nI 0))) M3) else (((nI 1) = 0 ∨ (nI 1) = 1) ∧ Q (some (.int (nI 1))) M3))))))))) : xEv xP (xprim sa) (d + 1) m_C_isRunAsked [.ref l0, .int l1, .int l2] M Q := e_C_isRunAsked (t_C_isRunAsked_0 h)
set_option maxRecDepth 100000 in
theorem t_C_canBeHeard_0 {sa : Nat → Nat} {d : Nat} {Q : xQ} {l0 : Nat} {l1 : Int32} {M : xM} {u : xU} (h : xgfR M l0 11 5 fun v1 => (xgfR M l0 11 6 fun v2 => (xgfR M l0 11 8 fun v3 => (xgfR M v3 10 3 fun v4 => (xgfI M v4 3 3 fun v5 => (xgfR M l0 11 8 fun v6 => (xgfR M v6 10 3 fun v7 => (xobj M v1 6 ∧ xEv xP (xprim sa) d m_Runs_goThrough [.ref v1, .ref v2, .int v5, .int l1, .ref v7] M (xrI fun r1 M1 => if r1 = 0 then (((nI 1) = 0 ∨ (nI 1) = 1) ∧ Q (some (.int (nI 1))) M1) else (xgfR M1 l0 11 5 fun v8 => (xgfR M1 v8 6 0 fun v9 => (xgfI M1 v9 1 5 fun v10 => (if v10 ≤ 0 then (((nI 0) = 0 ∨ (nI 0) = 1) ∧ Q (some (.int (nI 0))) M1) else (((nI 1) = 0 ∨ (nI 1) = 1) ∧ Q (some (.int (nI 1))) M1)))))))))))))) : K_C_canBeHeard sa d Q 0 [some (.ref l0), some (.int l1)] [] M u := by
  refine b_C_canBeHeard_0 ?_
  refine xgfR_mono (fun _ h => ?_) h
  refine xgfR_mono (fun _ h => ?_) h
  refine xgfR_mono (fun _ h => ?_) h
  refine xgfR_mono (fun _ h => ?_) h
  refine xgfI_mono (fun _ h => ?_) h
  refine xgfR_mono (fun _ h => ?_) h
  refine xgfR_mono (fun _ h => ?_) h
  obtain ⟨hz, h⟩ := h
  refine ⟨hz, ?_⟩
  refine xEv_post' _ _ _ _ _ (xrI_mono (fun _ _ h => ?_)) h
  refine xite_mono (fun h => ?_) (fun h => ?_) h
  · refine b_C_canBeHeard_2 ?_
    exact b_C_canBeHeard_4 h
  · refine b_C_canBeHeard_1 ?_
    refine xgfR_mono (fun _ h => ?_) h
    refine xgfR_mono (fun _ h => ?_) h
    refine xgfI_mono (fun _ h => ?_) h
    refine xite_mono (fun h => ?_) (fun h => ?_) h
    · refine b_C_canBeHeard_3 ?_
      exact b_C_canBeHeard_4 h
    · refine b_C_canBeHeard_2 ?_
      exact b_C_canBeHeard_4 h
theorem t_C_canBeHeard {sa : Nat → Nat} {d : Nat} {Q : xQ} {l0 : Nat} {l1 : Int32} {M : xM} (h : xgfR M l0 11 5 fun v1 => (xgfR M l0 11 6 fun v2 => (xgfR M l0 11 8 fun v3 => (xgfR M v3 10 3 fun v4 => (xgfI M v4 3 3 fun v5 => (xgfR M l0 11 8 fun v6 => (xgfR M v6 10 3 fun v7 => (xobj M v1 6 ∧ xEv xP (xprim sa) d m_Runs_goThrough [.ref v1, .ref v2, .int v5, .int l1, .ref v7] M (xrI fun r1 M1 => if r1 = 0 then (((nI 1) = 0 ∨ (nI 1) = 1) ∧ Q (some (.int (nI 1))) M1) else (xgfR M1 l0 11 5 fun v8 => (xgfR M1 v8 6 0 fun v9 => (xgfI M1 v9 1 5 fun v10 => (if v10 ≤ 0 then (((nI 0) = 0 ∨ (nI 0) = 1) ∧ Q (some (.int (nI 0))) M1) else (((nI 1) = 0 ∨ (nI 1) = 1) ∧ Q (some (.int (nI 1))) M1)))))))))))))) : xEv xP (xprim sa) (d + 1) m_C_canBeHeard [.ref l0, .int l1] M Q := e_C_canBeHeard (t_C_canBeHeard_0 h)
set_option maxRecDepth 100000 in
theorem t_C_isNoteOrNone_0 {sa : Nat → Nat} {d : Nat} {Q : xQ} {l0 : Int32} {M : xM} {u : xU} (h : xEv xP (xprim sa) d m_C_isWithin [.int l0, .int (-1 : Int32), .int (nI 99)] M (xrI fun r1 M1 => (r1 = 0 ∨ r1 = 1) ∧ Q (some (.int r1)) M1)) : K_C_isNoteOrNone sa d Q 0 [some (.int l0)] [] M u := b_C_isNoteOrNone_0 h
theorem t_C_isNoteOrNone {sa : Nat → Nat} {d : Nat} {Q : xQ} {l0 : Int32} {M : xM} (h : xEv xP (xprim sa) d m_C_isWithin [.int l0, .int (-1 : Int32), .int (nI 99)] M (xrI fun r1 M1 => (r1 = 0 ∨ r1 = 1) ∧ Q (some (.int r1)) M1)) : xEv xP (xprim sa) (d + 1) m_C_isNoteOrNone [.int l0] M Q := e_C_isNoteOrNone (t_C_isNoteOrNone_0 h)
set_option maxRecDepth 100000 in
theorem t_C_isWithin_0 {sa : Nat → Nat} {d : Nat} {Q : xQ} {l0 : Int32} {l1 : Int32} {l2 : Int32} {M : xM} {u : xU} (h : if l0 < l1 then (((nI 0) = 0 ∨ (nI 0) = 1) ∧ Q (some (.int (nI 0))) M) else (if l2 < l0 then (((nI 0) = 0 ∨ (nI 0) = 1) ∧ Q (some (.int (nI 0))) M) else (((nI 1) = 0 ∨ (nI 1) = 1) ∧ Q (some (.int (nI 1))) M))) : K_C_isWithin sa d Q 0 [some (.int l0), some (.int l1), some (.int l2)] [] M u := by
  refine b_C_isWithin_0 ?_
  refine xite_mono (fun h => ?_) (fun h => ?_) h
  · refine b_C_isWithin_3 ?_
    exact b_C_isWithin_4 h
  · refine b_C_isWithin_1 ?_
    refine xite_mono (fun h => ?_) (fun h => ?_) h
    · refine b_C_isWithin_3 ?_
      exact b_C_isWithin_4 h
    · refine b_C_isWithin_2 ?_
      exact b_C_isWithin_4 h
theorem t_C_isWithin {sa : Nat → Nat} {d : Nat} {Q : xQ} {l0 : Int32} {l1 : Int32} {l2 : Int32} {M : xM} (h : if l0 < l1 then (((nI 0) = 0 ∨ (nI 0) = 1) ∧ Q (some (.int (nI 0))) M) else (if l2 < l0 then (((nI 0) = 0 ∨ (nI 0) = 1) ∧ Q (some (.int (nI 0))) M) else (((nI 1) = 0 ∨ (nI 1) = 1) ∧ Q (some (.int (nI 1))) M))) : xEv xP (xprim sa) (d + 1) m_C_isWithin [.int l0, .int l1, .int l2] M Q := e_C_isWithin (t_C_isWithin_0 h)
set_option maxRecDepth 100000 in
theorem t_C_bounded_0 {sa : Nat → Nat} {d : Nat} {Q : xQ} {l0 : Int32} {l1 : Int32} {l2 : Int32} {M : xM} {u : xU} (h : if l1 ≤ l0 then (if l0 ≤ l2 then (Q (some (.int l0)) M) else (Q (some (.int l2)) M)) else (Q (some (.int l1)) M)) : K_C_bounded sa d Q 0 [some (.int l0), some (.int l1), some (.int l2)] [] M u := by
  refine b_C_bounded_0 ?_
  refine xite_mono (fun h => ?_) (fun h => ?_) h
  · refine b_C_bounded_2 ?_
    refine xite_mono (fun h => ?_) (fun h => ?_) h
    · refine b_C_bounded_4 ?_
      exact b_C_bounded_5 h
    · refine b_C_bounded_3 ?_
      exact b_C_bounded_5 h
  · exact b_C_bounded_1 h
theorem t_C_bounded {sa : Nat → Nat} {d : Nat} {Q : xQ} {l0 : Int32} {l1 : Int32} {l2 : Int32} {M : xM} (h : if l1 ≤ l0 then (if l0 ≤ l2 then (Q (some (.int l0)) M) else (Q (some (.int l2)) M)) else (Q (some (.int l1)) M)) : xEv xP (xprim sa) (d + 1) m_C_bounded [.int l0, .int l1, .int l2] M Q := e_C_bounded (t_C_bounded_0 h)
set_option maxRecDepth 100000 in
theorem t_Law_cell_0 {sa : Nat → Nat} {d : Nat} {Q : xQ} {l0 : Nat} {l1 : Int32} {M : xM} {u : xU} (h : xlen M l0 fun v1 => (if v1 ≤ l1 then (Q (some (.int (nI 0))) M) else (xaI M l0 l1 fun v2 => (Q (some (.int v2)) M)))) : K_Law_cell sa d Q 0 [some (.ref l0), some (.int l1)] [] M u := by
  refine b_Law_cell_0 ?_
  refine xlen_mono (fun _ h => ?_) h
  refine xite_mono (fun h => ?_) (fun h => ?_) h
  · refine b_Law_cell_2 ?_
    exact b_Law_cell_3 h
  · refine b_Law_cell_1 ?_
    refine xaI_mono (fun _ h => ?_) h
    exact b_Law_cell_3 h
theorem t_Law_cell {sa : Nat → Nat} {d : Nat} {Q : xQ} {l0 : Nat} {l1 : Int32} {M : xM} (h : xlen M l0 fun v1 => (if v1 ≤ l1 then (Q (some (.int (nI 0))) M) else (xaI M l0 l1 fun v2 => (Q (some (.int v2)) M)))) : xEv xP (xprim sa) (d + 1) m_Law_cell [.ref l0, .int l1] M Q := e_Law_cell (t_Law_cell_0 h)
set_option maxRecDepth 100000 in
theorem t_Law_law_0 {sa : Nat → Nat} {d : Nat} {Q : xQ} {l0 : Nat} {M : xM} {u : xU} (h : xalloc M u 12 (.inr (11, [.int 0, .null, .null, .null, .null, .null, .null, .null, .null, .null, .int 0, .int 0])) fun q1 M1 u1 => (xEv xP (xprim sa) d m_Law_cell [.ref l0, .int (nI 0)] M1 (xrI fun r1 M2 => 474 ≤ u1.1 ∧ 124838 ≤ u1.2 ∧ xEv xP (xprim sa) d m_C_init [.ref q1, .int r1] M2 (xrV fun M3 => xalloc M3 (u1.1 - 474, u1.2 - 124838) 40 (.inr (12, [.null, .null, .int 0, .null, .null, .int 0, .int 0, .int 0, .int 0, .int 0, .int 0, .int 0, .long 0, .int 0, .int 0, .int 0, .int 0, .null, .int 0, .int 0, .int 0, .int 0, .null, .null, .null, .null, .null, .null, .null, .null, .null, .null, .null, .null, .null, .int 0, .int 0, .null, .null, .null])) fun q2 M4 u2 => (xEv xP (xprim sa) d m_Law_cell [.ref l0, .int (nI 0)] M4 (xrI fun r2 M5 => 21 ≤ u2.1 ∧ 589193 ≤ u2.2 ∧ xEv xP (xprim sa) d m_M_init [.ref q2, .int r2] M5 (xrV fun M6 => K_Law_law sa d Q 1 [some (.ref l0), some (.ref q1), some (.ref q2), some (.int (nI 1))] [] M6 (u2.1 - 21, u2.2 - 589193)))))))) : K_Law_law sa d Q 0 [some (.ref l0), none, none, none] [] M u := b_Law_law_0 h
set_option maxRecDepth 100000 in
theorem t_Law_law_1 {sa : Nat → Nat} {d : Nat} {Q : xQ} {l0 : Nat} {l1 : Nat} {l2 : Nat} {l3 : Int32} {M : xM} {u : xU} (h : xlen M l0 fun v1 => (if (v1 - (nI 6)) < l3 then (((nI 1) = 0 ∨ (nI 1) = 1) ∧ Q (some (.int (nI 1))) M) else (xaI M l0 l3 fun v2 => (if (v2 &&& (nI 31)) = (nI 0) then (xaI M l0 (l3 + (nI 1)) fun v3 => (xaI M l0 (l3 + (nI 2)) fun v4 => (xaI M l0 (l3 + (nI 3)) fun v5 => (xobj M l1 11 ∧ xEv xP (xprim sa) d m_C_elder [.ref l1, .int v3, .int v4, .int v5] M (xrI fun r1 M1 => xaI M1 l0 (l3 + (nI 1)) fun v6 => (xaI M1 l0 (l3 + (nI 2)) fun v7 => (xaI M1 l0 (l3 + (nI 3)) fun v8 => (xobj M1 l2 12 ∧ xEv xP (xprim sa) d m_M_elder [.ref l2, .int v6, .int v7, .int v8] M1 (xrI fun r2 M2 => if r1 = r2 then K_Law_law sa d Q 73 [some (.ref l0), some (.ref l1), some (.ref l2), some (.int l3)] [] M2 u else (((nI 0) = 0 ∨ (nI 0) = 1) ∧ Q (some (.int (nI 0))) M2)))))))))) else (if (v2 &&& (nI 31)) = (nI 1) then (xaI M l0 (l3 + (nI 1)) fun v9 => (xaI M l0 (l3 + (nI 2)) fun v10 => (if v10 = 0 then K_Law_law sa d Q 8 [some (.ref l0), some (.ref l1), some (.ref l2), some (.int l3)] [.int (nI 0), .int v9, .ref l1] M u else K_Law_law sa d Q 8 [some (.ref l0), some (.ref l1), some (.ref l2), some (.int l3)] [.int (nI 1), .int v9, .ref l1] M u))) else (if (v2 &&& (nI 31)) = (nI 2) then (xaI M l0 (l3 + (nI 1)) fun v11 => (xaI M l0 (l3 + (nI 2)) fun v12 => (xaI M l0 (l3 + (nI 3)) fun v13 => (xaI M l0 (l3 + (nI 4)) fun v14 => (if v14 = 0 then K_Law_law sa d Q 16 [some (.ref l0), some (.ref l1), some (.ref l2), some (.int l3)] [.int (nI 0), .int v13, .int v12, .int v11, .ref l1] M u else K_Law_law sa d Q 16 [some (.ref l0), some (.ref l1), some (.ref l2), some (.int l3)] [.int (nI 1), .int v13, .int v12, .int v11, .ref l1] M u))))) else (if (v2 &&& (nI 31)) = (nI 3) then (xaI M l0 (l3 + (nI 1)) fun v15 => (xaI M l0 (l3 + (nI 2)) fun v16 => (if v16 = 0 then K_Law_law sa d Q 24 [some (.ref l0), some (.ref l1), some (.ref l2), some (.int l3)] [.int (nI 0), .int v15, .ref l1] M u else K_Law_law sa d Q 24 [some (.ref l0), some (.ref l1), some (.ref l2), some (.int l3)] [.int (nI 1), .int v15, .ref l1] M u))) else (if (v2 &&& (nI 31)) = (nI 4) then (xaI M l0 (l3 + (nI 1)) fun v17 => (xaI M l0 (l3 + (nI 2)) fun v18 => (xaI M l0 (l3 + (nI 3)) fun v19 => (xaI M l0 (l3 + (nI 4)) fun v20 => (xaI M l0 (l3 + (nI 5)) fun v21 => (xobj M l1 11 ∧ xEv xP (xprim sa) d m_C_feed [.ref l1, .int v17, .int v18, .int v19, .int v20, .int v21] M (xrI fun r3 M3 => xaI M3 l0 (l3 + (nI 1)) fun v22 => (xaI M3 l0 (l3 + (nI 2)) fun v23 => (xaI M3 l0 (l3 + (nI 3)) fun v24 => (xaI M3 l0 (l3 + (nI 4)) fun v25 => (xaI M3 l0 (l3 + (nI 5)) fun v26 => (xobj M3 l2 12 ∧ xEv xP (xprim sa) d m_M_feed [.ref l2, .int v22, .int v23, .int v24, .int v25, .int v26] M3 (xrI fun r4 M4 => if r3 = r4 then K_Law_law sa d Q 73 [some (.ref l0), some (.ref l1), some (.ref l2), some (.int l3)] [] M4 u else (((nI 0) = 0 ∨ (nI 0) = 1) ∧ Q (some (.int (nI 0))) M4)))))))))))))) else (if (v2 &&& (nI 31)) = (nI 5) then (xaI M l0 (l3 + (nI 1)) fun v27 => (xobj M l1 11 ∧ xEv xP (xprim sa) d m_C_end [.ref l1, .int v27] M (xrI fun r5 M5 => xaI M5 l0 (l3 + (nI 1)) fun v28 => (xobj M5 l2 12 ∧ xEv xP (xprim sa) d m_M_end [.ref l2, .int v28] M5 (xrI fun r6 M6 => if r5 = r6 then K_Law_law sa d Q 73 [some (.ref l0), some (.ref l1), some (.ref l2), some (.int l3)] [] M6 u else (((nI 0) = 0 ∨ (nI 0) = 1) ∧ Q (some (.int (nI 0))) M6)))))) else (if (v2 &&& (nI 31)) = (nI 6) then (xobj M l1 11 ∧ xEv xP (xprim sa) d m_C_text [.ref l1] M (xrI fun r7 M7 => xobj M7 l2 12 ∧ xEv xP (xprim sa) d m_M_text [.ref l2] M7 (xrI fun r8 M8 => if r7 = r8 then K_Law_law sa d Q 73 [some (.ref l0), some (.ref l1), some (.ref l2), some (.int l3)] [] M8 u else (((nI 0) = 0 ∨ (nI 0) = 1) ∧ Q (some (.int (nI 0))) M8)))) else (if (v2 &&& (nI 31)) = (nI 7) then (xaI M l0 (l3 + (nI 1)) fun v29 => (xobj M l1 11 ∧ xEv xP (xprim sa) d m_C_fault [.ref l1, .int v29] M (xrI fun r9 M9 => xaI M9 l0 (l3 + (nI 1)) fun v30 => (xobj M9 l2 12 ∧ xEv xP (xprim sa) d m_M_fault [.ref l2, .int v30] M9 (xrI fun r10 M10 => if r9 = r10 then K_Law_law sa d Q 73 [some (.ref l0), some (.ref l1), some (.ref l2), some (.int l3)] [] M10 u else (((nI 0) = 0 ∨ (nI 0) = 1) ∧ Q (some (.int (nI 0))) M10)))))) else (if (v2 &&& (nI 31)) = (nI 8) then (xaI M l0 (l3 + (nI 1)) fun v31 => (xobj M l1 11 ∧ xEv xP (xprim sa) d m_C_by [.ref l1, .int v31] M (xrI fun r11 M11 => xaI M11 l0 (l3 + (nI 1)) fun v32 => (xobj M11 l2 12 ∧ xEv xP (xprim sa) d m_M_by [.ref l2, .int v32] M11 (xrI fun r12 M12 => if r11 = r12 then K_Law_law sa d Q 73 [some (.ref l0), some (.ref l1), some (.ref l2), some (.int l3)] [] M12 u else (((nI 0) = 0 ∨ (nI 0) = 1) ∧ Q (some (.int (nI 0))) M12)))))) else (if (v2 &&& (nI 31)) = (nI 9) then (xobj M l1 11 ∧ xEv xP (xprim sa) d m_C_start [.ref l1] M (xrI fun r13 M13 => xobj M13 l2 12 ∧ xEv xP (xprim sa) d m_M_start [.ref l2] M13 (xrI fun r14 M14 => if r13 = r14 then K_Law_law sa d Q 73 [some (.ref l0), some (.ref l1), some (.ref l2), some (.int l3)] [] M14 u else (((nI 0) = 0 ∨ (nI 0) = 1) ∧ Q (some (.int (nI 0))) M14)))) else (if (v2 &&& (nI 31)) = (nI 10) then (xaI M l0 (l3 + (nI 1)) fun v33 => (xobj M l1 11 ∧ xEv xP (xprim sa) d m_C_hours [.ref l1, .int v33] M (xrI fun r15 M15 => xaI M15 l0 (l3 + (nI 1)) fun v34 => (xobj M15 l2 12 ∧ xEv xP (xprim sa) d m_M_hours [.ref l2, .int v34] M15 (xrI fun r16 M16 => if r15 = r16 then K_Law_law sa d Q 73 [some (.ref l0), some (.ref l1), some (.ref l2), some (.int l3)] [] M16 u else (((nI 0) = 0 ∨ (nI 0) = 1) ∧ Q (some (.int (nI 0))) M16)))))) else (if (v2 &&& (nI 31)) = (nI 11) then (xobj M l1 11 ∧ xEv xP (xprim sa) d m_C_undo [.ref l1] M (xrI fun r17 M17 => xobj M17 l2 12 ∧ xEv xP (xprim sa) d m_M_undo [.ref l2] M17 (xrI fun r18 M18 => if r17 = r18 then K_Law_law sa d Q 73 [some (.ref l0), some (.ref l1), some (.ref l2), some (.int l3)] [] M18 u else (((nI 0) = 0 ∨ (nI 0) = 1) ∧ Q (some (.int (nI 0))) M18)))) else (if (v2 &&& (nI 31)) = (nI 12) then (xaI M l0 (l3 + (nI 1)) fun v35 => (xaI M l0 (l3 + (nI 2)) fun v36 => (xobj M l1 11 ∧ xEv xP (xprim sa) d m_C_of [.ref l1, .int v35, .int v36] M (xrI fun r19 M19 => xaI M19 l0 (l3 + (nI 1)) fun v37 => (xaI M19 l0 (l3 + (nI 2)) fun v38 => (xobj M19 l2 12 ∧ xEv xP (xprim sa) d m_M_of [.ref l2, .int v37, .int v38] M19 (xrI fun r20 M20 => if r19 = r20 then K_Law_law sa d Q 73 [some (.ref l0), some (.ref l1), some (.ref l2), some (.int l3)] [] M20 u else (((nI 0) = 0 ∨ (nI 0) = 1) ∧ Q (some (.int (nI 0))) M20)))))))) else (if (v2 &&& (nI 31)) = (nI 13) then (xobj M l1 11 ∧ xEv xP (xprim sa) d m_C_agree [.ref l1] M (xrI fun r21 M21 => xobj M21 l2 12 ∧ xEv xP (xprim sa) d m_M_agree [.ref l2] M21 (xrI fun r22 M22 => if r21 = r22 then K_Law_law sa d Q 73 [some (.ref l0), some (.ref l1), some (.ref l2), some (.int l3)] [] M22 u else (((nI 0) = 0 ∨ (nI 0) = 1) ∧ Q (some (.int (nI 0))) M22)))) else (if (v2 &&& (nI 31)) = (nI 14) then (xaI M l0 (l3 + (nI 1)) fun v39 => (xobj M l1 11 ∧ xEv xP (xprim sa) d m_C_agrees [.ref l1, .int v39] M (xrI fun r23 M23 => xaI M23 l0 (l3 + (nI 1)) fun v40 => (xobj M23 l2 12 ∧ xEv xP (xprim sa) d m_M_agrees [.ref l2, .int v40] M23 (xrI fun r24 M24 => if r23 = r24 then K_Law_law sa d Q 73 [some (.ref l0), some (.ref l1), some (.ref l2), some (.int l3)] [] M24 u else (((nI 0) = 0 ∨ (nI 0) = 1) ∧ Q (some (.int (nI 0))) M24)))))) else (if (v2 &&& (nI 31)) = (nI 15) then (xaI M l0 (l3 + (nI 1)) fun v41 => (xaI M l0 (l3 + (nI 2)) fun v42 => (xobj M l1 11 ∧ xEv xP (xprim sa) d m_C_holds [.ref l1, .int v41, .int v42] M (xrI fun r25 M25 => xaI M25 l0 (l3 + (nI 1)) fun v43 => (xaI M25 l0 (l3 + (nI 2)) fun v44 => (xobj M25 l2 12 ∧ xEv xP (xprim sa) d m_M_holds [.ref l2, .int v43, .int v44] M25 (xrI fun r26 M26 => if r25 = r26 then K_Law_law sa d Q 73 [some (.ref l0), some (.ref l1), some (.ref l2), some (.int l3)] [] M26 u else (((nI 0) = 0 ∨ (nI 0) = 1) ∧ Q (some (.int (nI 0))) M26)))))))) else (if (v2 &&& (nI 31)) = (nI 16) then (xaI M l0 (l3 + (nI 1)) fun v45 => (xaI M l0 (l3 + (nI 2)) fun v46 => (xobj M l1 11 ∧ xEv xP (xprim sa) d m_C_states [.ref l1, .int v45, .int v46] M (xrI fun r27 M27 => xaI M27 l0 (l3 + (nI 1)) fun v47 => (xaI M27 l0 (l3 + (nI 2)) fun v48 => (xobj M27 l2 12 ∧ xEv xP (xprim sa) d m_M_states [.ref l2, .int v47, .int v48] M27 (xrI fun r28 M28 => if r27 = r28 then K_Law_law sa d Q 73 [some (.ref l0), some (.ref l1), some (.ref l2), some (.int l3)] [] M28 u else (((nI 0) = 0 ∨ (nI 0) = 1) ∧ Q (some (.int (nI 0))) M28)))))))) else (if (v2 &&& (nI 31)) = (nI 17) then (xaI M l0 (l3 + (nI 1)) fun v49 => (xaI M l0 (l3 + (nI 2)) fun v50 => (xaI M l0 (l3 + (nI 3)) fun v51 => (xaI M l0 (l3 + (nI 4)) fun v52 => (xaI M l0 (l3 + (nI 5)) fun v53 => (xobj M l1 11 ∧ xEv xP (xprim sa) d m_C_bad [.ref l1, .int v49, .int v50, .int v51, .int v52, .int v53] M (xrI fun r29 M29 => xaI M29 l0 (l3 + (nI 1)) fun v54 => (xaI M29 l0 (l3 + (nI 2)) fun v55 => (xaI M29 l0 (l3 + (nI 3)) fun v56 => (xaI M29 l0 (l3 + (nI 4)) fun v57 => (xaI M29 l0 (l3 + (nI 5)) fun v58 => (xobj M29 l2 12 ∧ xEv xP (xprim sa) d m_M_bad [.ref l2, .int v54, .int v55, .int v56, .int v57, .int v58] M29 (xrI fun r30 M30 => if r29 = r30 then K_Law_law sa d Q 73 [some (.ref l0), some (.ref l1), some (.ref l2), some (.int l3)] [] M30 u else (((nI 0) = 0 ∨ (nI 0) = 1) ∧ Q (some (.int (nI 0))) M30)))))))))))))) else (if (v2 &&& (nI 31)) = (nI 18) then (xaI M l0 (l3 + (nI 1)) fun v59 => (xaI M l0 (l3 + (nI 2)) fun v60 => (xaI M l0 (l3 + (nI 3)) fun v61 => (xobj M l1 11 ∧ xEv xP (xprim sa) d m_C_told [.ref l1, .int v59, .int v60, .int v61] M (xrI fun r31 M31 => xaI M31 l0 (l3 + (nI 1)) fun v62 => (xaI M31 l0 (l3 + (nI 2)) fun v63 => (xaI M31 l0 (l3 + (nI 3)) fun v64 => (xobj M31 l2 12 ∧ xEv xP (xprim sa) d m_M_told [.ref l2, .int v62, .int v63, .int v64] M31 (xrI fun r32 M32 => if r31 = r32 then K_Law_law sa d Q 73 [some (.ref l0), some (.ref l1), some (.ref l2), some (.int l3)] [] M32 u else (((nI 0) = 0 ∨ (nI 0) = 1) ∧ Q (some (.int (nI 0))) M32)))))))))) else (if (v2 &&& (nI 31)) = (nI 19) then (xobj M l1 11 ∧ xEv xP (xprim sa) d m_C_forget [.ref l1] M (xrI fun r33 M33 => xobj M33 l2 12 ∧ xEv xP (xprim sa) d m_M_forget [.ref l2] M33 (xrI fun r34 M34 => if r33 = r34 then K_Law_law sa d Q 73 [some (.ref l0), some (.ref l1), some (.ref l2), some (.int l3)] [] M34 u else (((nI 0) = 0 ∨ (nI 0) = 1) ∧ Q (some (.int (nI 0))) M34)))) else (if (v2 &&& (nI 31)) = (nI 20) then (xaI M l0 (l3 + (nI 1)) fun v65 => (xobj M l1 11 ∧ xEv xP (xprim sa) d m_C_suspects [.ref l1, .int v65] M (xrI fun r35 M35 => xaI M35 l0 (l3 + (nI 1)) fun v66 => (xobj M35 l2 12 ∧ xEv xP (xprim sa) d m_M_suspects [.ref l2, .int v66] M35 (xrI fun r36 M36 => if r35 = r36 then K_Law_law sa d Q 73 [some (.ref l0), some (.ref l1), some (.ref l2), some (.int l3)] [] M36 u else (((nI 0) = 0 ∨ (nI 0) = 1) ∧ Q (some (.int (nI 0))) M36)))))) else (if (v2 &&& (nI 31)) = (nI 21) then (xaI M l0 (l3 + (nI 1)) fun v67 => (xaI M l0 (l3 + (nI 2)) fun v68 => (xaI M l0 (l3 + (nI 3)) fun v69 => (xaI M l0 (l3 + (nI 4)) fun v70 => (xobj M l1 11 ∧ xEv xP (xprim sa) d m_C_slips [.ref l1, .int v67, .int v68, .int v69, .int v70] M (xrI fun r37 M37 => xaI M37 l0 (l3 + (nI 1)) fun v71 => (xaI M37 l0 (l3 + (nI 2)) fun v72 => (xaI M37 l0 (l3 + (nI 3)) fun v73 => (xaI M37 l0 (l3 + (nI 4)) fun v74 => (xobj M37 l2 12 ∧ xEv xP (xprim sa) d m_M_slips [.ref l2, .int v71, .int v72, .int v73, .int v74] M37 (xrI fun r38 M38 => if r37 = r38 then K_Law_law sa d Q 73 [some (.ref l0), some (.ref l1), some (.ref l2), some (.int l3)] [] M38 u else (((nI 0) = 0 ∨ (nI 0) = 1) ∧ Q (some (.int (nI 0))) M38)))))))))))) else (if (v2 &&& (nI 31)) = (nI 22) then (xaI M l0 (l3 + (nI 1)) fun v75 => (xaI M l0 (l3 + (nI 2)) fun v76 => (xaI M l0 (l3 + (nI 3)) fun v77 => (xobj M l1 11 ∧ xEv xP (xprim sa) d m_C_learns [.ref l1, .int v75, .int v76, .int v77] M (xrI fun r39 M39 => xaI M39 l0 (l3 + (nI 1)) fun v78 => (xaI M39 l0 (l3 + (nI 2)) fun v79 => (xaI M39 l0 (l3 + (nI 3)) fun v80 => (xobj M39 l2 12 ∧ xEv xP (xprim sa) d m_M_learns [.ref l2, .int v78, .int v79, .int v80] M39 (xrI fun r40 M40 => if r39 = r40 then K_Law_law sa d Q 73 [some (.ref l0), some (.ref l1), some (.ref l2), some (.int l3)] [] M40 u else (((nI 0) = 0 ∨ (nI 0) = 1) ∧ Q (some (.int (nI 0))) M40)))))))))) else (if (v2 &&& (nI 31)) = (nI 23) then (xobj M l1 11 ∧ xEv xP (xprim sa) d m_C_image [.ref l1] M (xrI fun r41 M41 => xobj M41 l2 12 ∧ xEv xP (xprim sa) d m_M_image [.ref l2] M41 (xrI fun r42 M42 => if r41 = r42 then K_Law_law sa d Q 73 [some (.ref l0), some (.ref l1), some (.ref l2), some (.int l3)] [] M42 u else (((nI 0) = 0 ∨ (nI 0) = 1) ∧ Q (some (.int (nI 0))) M42)))) else (if (v2 &&& (nI 31)) = (nI 24) then (xobj M l1 11 ∧ xEv xP (xprim sa) d m_C_back [.ref l1] M (xrI fun r43 M43 => xobj M43 l2 12 ∧ xEv xP (xprim sa) d m_M_back [.ref l2] M43 (xrI fun r44 M44 => if r43 = r44 then K_Law_law sa d Q 73 [some (.ref l0), some (.ref l1), some (.ref l2), some (.int l3)] [] M44 u else (((nI 0) = 0 ∨ (nI 0) = 1) ∧ Q (some (.int (nI 0))) M44)))) else (if (v2 &&& (nI 31)) = (nI 25) then (xaI M l0 (l3 + (nI 1)) fun v81 => (xobj M l1 11 ∧ xEv xP (xprim sa) d m_C_about [.ref l1, .int v81] M (xrI fun r45 M45 => xaI M45 l0 (l3 + (nI 1)) fun v82 => (xobj M45 l2 12 ∧ xEv xP (xprim sa) d m_M_about [.ref l2, .int v82] M45 (xrI fun r46 M46 => if r45 = r46 then K_Law_law sa d Q 73 [some (.ref l0), some (.ref l1), some (.ref l2), some (.int l3)] [] M46 u else (((nI 0) = 0 ∨ (nI 0) = 1) ∧ Q (some (.int (nI 0))) M46)))))) else K_Law_law sa d Q 73 [some (.ref l0), some (.ref l1), some (.ref l2), some (.int l3)] [] M u))))))))))))))))))))))))))))) : K_Law_law sa d Q 1 [some (.ref l0), some (.ref l1), some (.ref l2), some (.int l3)] [] M u := by
  refine b_Law_law_1 ?_
  refine xlen_mono (fun _ h => ?_) h
  refine xite_mono (fun h => ?_) (fun h => ?_) h
  · exact b_Law_law_74 h
  · refine b_Law_law_2 ?_
    refine xaI_mono (fun _ h => ?_) h
    refine xite_mono (fun h => ?_) (fun h => ?_) h
    · refine b_Law_law_3 ?_
      refine xaI_mono (fun _ h => ?_) h
      refine xaI_mono (fun _ h => ?_) h
      refine xaI_mono (fun _ h => ?_) h
      obtain ⟨hz, h⟩ := h
      refine ⟨hz, ?_⟩
      refine xEv_post' _ _ _ _ _ (xrI_mono (fun _ _ h => ?_)) h
      refine xaI_mono (fun _ h => ?_) h
      refine xaI_mono (fun _ h => ?_) h
      refine xaI_mono (fun _ h => ?_) h
      obtain ⟨hz, h⟩ := h
      refine ⟨hz, ?_⟩
      refine xEv_post' _ _ _ _ _ (xrI_mono (fun _ _ h => ?_)) h
      refine xite_mono (fun h => ?_) (fun h => ?_) h
      · exact h
      · exact b_Law_law_4 h
    · refine xite_mono (fun h => ?_) (fun h => ?_) h
      · refine b_Law_law_5 ?_
        refine xaI_mono (fun _ h => ?_) h
        refine xaI_mono (fun _ h => ?_) h
        refine xite_mono (fun h => ?_) (fun h => ?_) h
        · exact b_Law_law_7 h
        · exact b_Law_law_6 h
      · refine xite_mono (fun h => ?_) (fun h => ?_) h
        · refine b_Law_law_13 ?_
          refine xaI_mono (fun _ h => ?_) h
          refine xaI_mono (fun _ h => ?_) h
          refine xaI_mono (fun _ h => ?_) h
          refine xaI_mono (fun _ h => ?_) h
          refine xite_mono (fun h => ?_) (fun h => ?_) h
          · exact b_Law_law_15 h
          · exact b_Law_law_14 h
        · refine xite_mono (fun h => ?_) (fun h => ?_) h
          · refine b_Law_law_21 ?_
            refine xaI_mono (fun _ h => ?_) h
            refine xaI_mono (fun _ h => ?_) h
            refine xite_mono (fun h => ?_) (fun h => ?_) h
            · exact b_Law_law_23 h
            · exact b_Law_law_22 h
          · refine xite_mono (fun h => ?_) (fun h => ?_) h
            · refine b_Law_law_29 ?_
              refine xaI_mono (fun _ h => ?_) h
              refine xaI_mono (fun _ h => ?_) h
              refine xaI_mono (fun _ h => ?_) h
              refine xaI_mono (fun _ h => ?_) h
              refine xaI_mono (fun _ h => ?_) h
              obtain ⟨hz, h⟩ := h
              refine ⟨hz, ?_⟩
              refine xEv_post' _ _ _ _ _ (xrI_mono (fun _ _ h => ?_)) h
              refine xaI_mono (fun _ h => ?_) h
              refine xaI_mono (fun _ h => ?_) h
              refine xaI_mono (fun _ h => ?_) h
              refine xaI_mono (fun _ h => ?_) h
              refine xaI_mono (fun _ h => ?_) h
              obtain ⟨hz, h⟩ := h
              refine ⟨hz, ?_⟩
              refine xEv_post' _ _ _ _ _ (xrI_mono (fun _ _ h => ?_)) h
              refine xite_mono (fun h => ?_) (fun h => ?_) h
              · exact h
              · exact b_Law_law_30 h
            · refine xite_mono (fun h => ?_) (fun h => ?_) h
              · refine b_Law_law_31 ?_
                refine xaI_mono (fun _ h => ?_) h
                obtain ⟨hz, h⟩ := h
                refine ⟨hz, ?_⟩
                refine xEv_post' _ _ _ _ _ (xrI_mono (fun _ _ h => ?_)) h
                refine xaI_mono (fun _ h => ?_) h
                obtain ⟨hz, h⟩ := h
                refine ⟨hz, ?_⟩
                refine xEv_post' _ _ _ _ _ (xrI_mono (fun _ _ h => ?_)) h
                refine xite_mono (fun h => ?_) (fun h => ?_) h
                · exact h
                · exact b_Law_law_32 h
              · refine xite_mono (fun h => ?_) (fun h => ?_) h
                · refine b_Law_law_33 ?_
                  obtain ⟨hz, h⟩ := h
                  refine ⟨hz, ?_⟩
                  refine xEv_post' _ _ _ _ _ (xrI_mono (fun _ _ h => ?_)) h
                  obtain ⟨hz, h⟩ := h
                  refine ⟨hz, ?_⟩
                  refine xEv_post' _ _ _ _ _ (xrI_mono (fun _ _ h => ?_)) h
                  refine xite_mono (fun h => ?_) (fun h => ?_) h
                  · exact h
                  · exact b_Law_law_34 h
                · refine xite_mono (fun h => ?_) (fun h => ?_) h
                  · refine b_Law_law_35 ?_
                    refine xaI_mono (fun _ h => ?_) h
                    obtain ⟨hz, h⟩ := h
                    refine ⟨hz, ?_⟩
                    refine xEv_post' _ _ _ _ _ (xrI_mono (fun _ _ h => ?_)) h
                    refine xaI_mono (fun _ h => ?_) h
                    obtain ⟨hz, h⟩ := h
                    refine ⟨hz, ?_⟩
                    refine xEv_post' _ _ _ _ _ (xrI_mono (fun _ _ h => ?_)) h
                    refine xite_mono (fun h => ?_) (fun h => ?_) h
                    · exact h
                    · exact b_Law_law_36 h
                  · refine xite_mono (fun h => ?_) (fun h => ?_) h
                    · refine b_Law_law_37 ?_
                      refine xaI_mono (fun _ h => ?_) h
                      obtain ⟨hz, h⟩ := h
                      refine ⟨hz, ?_⟩
                      refine xEv_post' _ _ _ _ _ (xrI_mono (fun _ _ h => ?_)) h
                      refine xaI_mono (fun _ h => ?_) h
                      obtain ⟨hz, h⟩ := h
                      refine ⟨hz, ?_⟩
                      refine xEv_post' _ _ _ _ _ (xrI_mono (fun _ _ h => ?_)) h
                      refine xite_mono (fun h => ?_) (fun h => ?_) h
                      · exact h
                      · exact b_Law_law_38 h
                    · refine xite_mono (fun h => ?_) (fun h => ?_) h
                      · refine b_Law_law_39 ?_
                        obtain ⟨hz, h⟩ := h
                        refine ⟨hz, ?_⟩
                        refine xEv_post' _ _ _ _ _ (xrI_mono (fun _ _ h => ?_)) h
                        obtain ⟨hz, h⟩ := h
                        refine ⟨hz, ?_⟩
                        refine xEv_post' _ _ _ _ _ (xrI_mono (fun _ _ h => ?_)) h
                        refine xite_mono (fun h => ?_) (fun h => ?_) h
                        · exact h
                        · exact b_Law_law_40 h
                      · refine xite_mono (fun h => ?_) (fun h => ?_) h
                        · refine b_Law_law_41 ?_
                          refine xaI_mono (fun _ h => ?_) h
                          obtain ⟨hz, h⟩ := h
                          refine ⟨hz, ?_⟩
                          refine xEv_post' _ _ _ _ _ (xrI_mono (fun _ _ h => ?_)) h
                          refine xaI_mono (fun _ h => ?_) h
                          obtain ⟨hz, h⟩ := h
                          refine ⟨hz, ?_⟩
                          refine xEv_post' _ _ _ _ _ (xrI_mono (fun _ _ h => ?_)) h
                          refine xite_mono (fun h => ?_) (fun h => ?_) h
                          · exact h
                          · exact b_Law_law_42 h
                        · refine xite_mono (fun h => ?_) (fun h => ?_) h
                          · refine b_Law_law_43 ?_
                            obtain ⟨hz, h⟩ := h
                            refine ⟨hz, ?_⟩
                            refine xEv_post' _ _ _ _ _ (xrI_mono (fun _ _ h => ?_)) h
                            obtain ⟨hz, h⟩ := h
                            refine ⟨hz, ?_⟩
                            refine xEv_post' _ _ _ _ _ (xrI_mono (fun _ _ h => ?_)) h
                            refine xite_mono (fun h => ?_) (fun h => ?_) h
                            · exact h
                            · exact b_Law_law_44 h
                          · refine xite_mono (fun h => ?_) (fun h => ?_) h
                            · refine b_Law_law_45 ?_
                              refine xaI_mono (fun _ h => ?_) h
                              refine xaI_mono (fun _ h => ?_) h
                              obtain ⟨hz, h⟩ := h
                              refine ⟨hz, ?_⟩
                              refine xEv_post' _ _ _ _ _ (xrI_mono (fun _ _ h => ?_)) h
                              refine xaI_mono (fun _ h => ?_) h
                              refine xaI_mono (fun _ h => ?_) h
                              obtain ⟨hz, h⟩ := h
                              refine ⟨hz, ?_⟩
                              refine xEv_post' _ _ _ _ _ (xrI_mono (fun _ _ h => ?_)) h
                              refine xite_mono (fun h => ?_) (fun h => ?_) h
                              · exact h
                              · exact b_Law_law_46 h
                            · refine xite_mono (fun h => ?_) (fun h => ?_) h
                              · refine b_Law_law_47 ?_
                                obtain ⟨hz, h⟩ := h
                                refine ⟨hz, ?_⟩
                                refine xEv_post' _ _ _ _ _ (xrI_mono (fun _ _ h => ?_)) h
                                obtain ⟨hz, h⟩ := h
                                refine ⟨hz, ?_⟩
                                refine xEv_post' _ _ _ _ _ (xrI_mono (fun _ _ h => ?_)) h
                                refine xite_mono (fun h => ?_) (fun h => ?_) h
                                · exact h
                                · exact b_Law_law_48 h
                              · refine xite_mono (fun h => ?_) (fun h => ?_) h
                                · refine b_Law_law_49 ?_
                                  refine xaI_mono (fun _ h => ?_) h
                                  obtain ⟨hz, h⟩ := h
                                  refine ⟨hz, ?_⟩
                                  refine xEv_post' _ _ _ _ _ (xrI_mono (fun _ _ h => ?_)) h
                                  refine xaI_mono (fun _ h => ?_) h
                                  obtain ⟨hz, h⟩ := h
                                  refine ⟨hz, ?_⟩
                                  refine xEv_post' _ _ _ _ _ (xrI_mono (fun _ _ h => ?_)) h
                                  refine xite_mono (fun h => ?_) (fun h => ?_) h
                                  · exact h
                                  · exact b_Law_law_50 h
                                · refine xite_mono (fun h => ?_) (fun h => ?_) h
                                  · refine b_Law_law_51 ?_
                                    refine xaI_mono (fun _ h => ?_) h
                                    refine xaI_mono (fun _ h => ?_) h
                                    obtain ⟨hz, h⟩ := h
                                    refine ⟨hz, ?_⟩
                                    refine xEv_post' _ _ _ _ _ (xrI_mono (fun _ _ h => ?_)) h
                                    refine xaI_mono (fun _ h => ?_) h
                                    refine xaI_mono (fun _ h => ?_) h
                                    obtain ⟨hz, h⟩ := h
                                    refine ⟨hz, ?_⟩
                                    refine xEv_post' _ _ _ _ _ (xrI_mono (fun _ _ h => ?_)) h
                                    refine xite_mono (fun h => ?_) (fun h => ?_) h
                                    · exact h
                                    · exact b_Law_law_52 h
                                  · refine xite_mono (fun h => ?_) (fun h => ?_) h
                                    · refine b_Law_law_53 ?_
                                      refine xaI_mono (fun _ h => ?_) h
                                      refine xaI_mono (fun _ h => ?_) h
                                      obtain ⟨hz, h⟩ := h
                                      refine ⟨hz, ?_⟩
                                      refine xEv_post' _ _ _ _ _ (xrI_mono (fun _ _ h => ?_)) h
                                      refine xaI_mono (fun _ h => ?_) h
                                      refine xaI_mono (fun _ h => ?_) h
                                      obtain ⟨hz, h⟩ := h
                                      refine ⟨hz, ?_⟩
                                      refine xEv_post' _ _ _ _ _ (xrI_mono (fun _ _ h => ?_)) h
                                      refine xite_mono (fun h => ?_) (fun h => ?_) h
                                      · exact h
                                      · exact b_Law_law_54 h
                                    · refine xite_mono (fun h => ?_) (fun h => ?_) h
                                      · refine b_Law_law_55 ?_
                                        refine xaI_mono (fun _ h => ?_) h
                                        refine xaI_mono (fun _ h => ?_) h
                                        refine xaI_mono (fun _ h => ?_) h
                                        refine xaI_mono (fun _ h => ?_) h
                                        refine xaI_mono (fun _ h => ?_) h
                                        obtain ⟨hz, h⟩ := h
                                        refine ⟨hz, ?_⟩
                                        refine xEv_post' _ _ _ _ _ (xrI_mono (fun _ _ h => ?_)) h
                                        refine xaI_mono (fun _ h => ?_) h
                                        refine xaI_mono (fun _ h => ?_) h
                                        refine xaI_mono (fun _ h => ?_) h
                                        refine xaI_mono (fun _ h => ?_) h
                                        refine xaI_mono (fun _ h => ?_) h
                                        obtain ⟨hz, h⟩ := h
                                        refine ⟨hz, ?_⟩
                                        refine xEv_post' _ _ _ _ _ (xrI_mono (fun _ _ h => ?_)) h
                                        refine xite_mono (fun h => ?_) (fun h => ?_) h
                                        · exact h
                                        · exact b_Law_law_56 h
                                      · refine xite_mono (fun h => ?_) (fun h => ?_) h
                                        · refine b_Law_law_57 ?_
                                          refine xaI_mono (fun _ h => ?_) h
                                          refine xaI_mono (fun _ h => ?_) h
                                          refine xaI_mono (fun _ h => ?_) h
                                          obtain ⟨hz, h⟩ := h
                                          refine ⟨hz, ?_⟩
                                          refine xEv_post' _ _ _ _ _ (xrI_mono (fun _ _ h => ?_)) h
                                          refine xaI_mono (fun _ h => ?_) h
                                          refine xaI_mono (fun _ h => ?_) h
                                          refine xaI_mono (fun _ h => ?_) h
                                          obtain ⟨hz, h⟩ := h
                                          refine ⟨hz, ?_⟩
                                          refine xEv_post' _ _ _ _ _ (xrI_mono (fun _ _ h => ?_)) h
                                          refine xite_mono (fun h => ?_) (fun h => ?_) h
                                          · exact h
                                          · exact b_Law_law_58 h
                                        · refine xite_mono (fun h => ?_) (fun h => ?_) h
                                          · refine b_Law_law_59 ?_
                                            obtain ⟨hz, h⟩ := h
                                            refine ⟨hz, ?_⟩
                                            refine xEv_post' _ _ _ _ _ (xrI_mono (fun _ _ h => ?_)) h
                                            obtain ⟨hz, h⟩ := h
                                            refine ⟨hz, ?_⟩
                                            refine xEv_post' _ _ _ _ _ (xrI_mono (fun _ _ h => ?_)) h
                                            refine xite_mono (fun h => ?_) (fun h => ?_) h
                                            · exact h
                                            · exact b_Law_law_60 h
                                          · refine xite_mono (fun h => ?_) (fun h => ?_) h
                                            · refine b_Law_law_61 ?_
                                              refine xaI_mono (fun _ h => ?_) h
                                              obtain ⟨hz, h⟩ := h
                                              refine ⟨hz, ?_⟩
                                              refine xEv_post' _ _ _ _ _ (xrI_mono (fun _ _ h => ?_)) h
                                              refine xaI_mono (fun _ h => ?_) h
                                              obtain ⟨hz, h⟩ := h
                                              refine ⟨hz, ?_⟩
                                              refine xEv_post' _ _ _ _ _ (xrI_mono (fun _ _ h => ?_)) h
                                              refine xite_mono (fun h => ?_) (fun h => ?_) h
                                              · exact h
                                              · exact b_Law_law_62 h
                                            · refine xite_mono (fun h => ?_) (fun h => ?_) h
                                              · refine b_Law_law_63 ?_
                                                refine xaI_mono (fun _ h => ?_) h
                                                refine xaI_mono (fun _ h => ?_) h
                                                refine xaI_mono (fun _ h => ?_) h
                                                refine xaI_mono (fun _ h => ?_) h
                                                obtain ⟨hz, h⟩ := h
                                                refine ⟨hz, ?_⟩
                                                refine xEv_post' _ _ _ _ _ (xrI_mono (fun _ _ h => ?_)) h
                                                refine xaI_mono (fun _ h => ?_) h
                                                refine xaI_mono (fun _ h => ?_) h
                                                refine xaI_mono (fun _ h => ?_) h
                                                refine xaI_mono (fun _ h => ?_) h
                                                obtain ⟨hz, h⟩ := h
                                                refine ⟨hz, ?_⟩
                                                refine xEv_post' _ _ _ _ _ (xrI_mono (fun _ _ h => ?_)) h
                                                refine xite_mono (fun h => ?_) (fun h => ?_) h
                                                · exact h
                                                · exact b_Law_law_64 h
                                              · refine xite_mono (fun h => ?_) (fun h => ?_) h
                                                · refine b_Law_law_65 ?_
                                                  refine xaI_mono (fun _ h => ?_) h
                                                  refine xaI_mono (fun _ h => ?_) h
                                                  refine xaI_mono (fun _ h => ?_) h
                                                  obtain ⟨hz, h⟩ := h
                                                  refine ⟨hz, ?_⟩
                                                  refine xEv_post' _ _ _ _ _ (xrI_mono (fun _ _ h => ?_)) h
                                                  refine xaI_mono (fun _ h => ?_) h
                                                  refine xaI_mono (fun _ h => ?_) h
                                                  refine xaI_mono (fun _ h => ?_) h
                                                  obtain ⟨hz, h⟩ := h
                                                  refine ⟨hz, ?_⟩
                                                  refine xEv_post' _ _ _ _ _ (xrI_mono (fun _ _ h => ?_)) h
                                                  refine xite_mono (fun h => ?_) (fun h => ?_) h
                                                  · exact h
                                                  · exact b_Law_law_66 h
                                                · refine xite_mono (fun h => ?_) (fun h => ?_) h
                                                  · refine b_Law_law_67 ?_
                                                    obtain ⟨hz, h⟩ := h
                                                    refine ⟨hz, ?_⟩
                                                    refine xEv_post' _ _ _ _ _ (xrI_mono (fun _ _ h => ?_)) h
                                                    obtain ⟨hz, h⟩ := h
                                                    refine ⟨hz, ?_⟩
                                                    refine xEv_post' _ _ _ _ _ (xrI_mono (fun _ _ h => ?_)) h
                                                    refine xite_mono (fun h => ?_) (fun h => ?_) h
                                                    · exact h
                                                    · exact b_Law_law_68 h
                                                  · refine xite_mono (fun h => ?_) (fun h => ?_) h
                                                    · refine b_Law_law_69 ?_
                                                      obtain ⟨hz, h⟩ := h
                                                      refine ⟨hz, ?_⟩
                                                      refine xEv_post' _ _ _ _ _ (xrI_mono (fun _ _ h => ?_)) h
                                                      obtain ⟨hz, h⟩ := h
                                                      refine ⟨hz, ?_⟩
                                                      refine xEv_post' _ _ _ _ _ (xrI_mono (fun _ _ h => ?_)) h
                                                      refine xite_mono (fun h => ?_) (fun h => ?_) h
                                                      · exact h
                                                      · exact b_Law_law_70 h
                                                    · refine xite_mono (fun h => ?_) (fun h => ?_) h
                                                      · refine b_Law_law_71 ?_
                                                        refine xaI_mono (fun _ h => ?_) h
                                                        obtain ⟨hz, h⟩ := h
                                                        refine ⟨hz, ?_⟩
                                                        refine xEv_post' _ _ _ _ _ (xrI_mono (fun _ _ h => ?_)) h
                                                        refine xaI_mono (fun _ h => ?_) h
                                                        obtain ⟨hz, h⟩ := h
                                                        refine ⟨hz, ?_⟩
                                                        refine xEv_post' _ _ _ _ _ (xrI_mono (fun _ _ h => ?_)) h
                                                        refine xite_mono (fun h => ?_) (fun h => ?_) h
                                                        · exact h
                                                        · exact b_Law_law_72 h
                                                      · exact h
set_option maxRecDepth 100000 in
theorem t_Law_law_8 {sa : Nat → Nat} {d : Nat} {Q : xQ} {l0 : Nat} {l1 : Nat} {l2 : Nat} {l3 : Int32} {s0 : Int32} {s1 : Int32} {s2 : Nat} {M : xM} {u : xU} (h : xobj M s2 11 ∧ xEv xP (xprim sa) d m_C_stuck [.ref s2, .int s1, .int s0] M (xrI fun r1 M1 => xaI M1 l0 (l3 + (nI 1)) fun v1 => (xaI M1 l0 (l3 + (nI 2)) fun v2 => (if v2 = 0 then (xobj M1 l2 12 ∧ xEv xP (xprim sa) d m_M_stuck [.ref l2, .int v1, .int (nI 0)] M1 (xrI fun r2 M2 => if r1 = r2 then K_Law_law sa d Q 73 [some (.ref l0), some (.ref l1), some (.ref l2), some (.int l3)] [] M2 u else (((nI 0) = 0 ∨ (nI 0) = 1) ∧ Q (some (.int (nI 0))) M2))) else (xobj M1 l2 12 ∧ xEv xP (xprim sa) d m_M_stuck [.ref l2, .int v1, .int (nI 1)] M1 (xrI fun r3 M3 => if r1 = r3 then K_Law_law sa d Q 73 [some (.ref l0), some (.ref l1), some (.ref l2), some (.int l3)] [] M3 u else (((nI 0) = 0 ∨ (nI 0) = 1) ∧ Q (some (.int (nI 0))) M3))))))) : K_Law_law sa d Q 8 [some (.ref l0), some (.ref l1), some (.ref l2), some (.int l3)] [.int s0, .int s1, .ref s2] M u := by
  refine b_Law_law_8 ?_
  obtain ⟨hz, h⟩ := h
  refine ⟨hz, ?_⟩
  refine xEv_post' _ _ _ _ _ (xrI_mono (fun _ _ h => ?_)) h
  refine xaI_mono (fun _ h => ?_) h
  refine xaI_mono (fun _ h => ?_) h
  refine xite_mono (fun h => ?_) (fun h => ?_) h
  · refine b_Law_law_10 ?_
    refine b_Law_law_11 ?_
    obtain ⟨hz, h⟩ := h
    refine ⟨hz, ?_⟩
    refine xEv_post' _ _ _ _ _ (xrI_mono (fun _ _ h => ?_)) h
    refine xite_mono (fun h => ?_) (fun h => ?_) h
    · exact h
    · exact b_Law_law_12 h
  · refine b_Law_law_9 ?_
    refine b_Law_law_11 ?_
    obtain ⟨hz, h⟩ := h
    refine ⟨hz, ?_⟩
    refine xEv_post' _ _ _ _ _ (xrI_mono (fun _ _ h => ?_)) h
    refine xite_mono (fun h => ?_) (fun h => ?_) h
    · exact h
    · exact b_Law_law_12 h
set_option maxRecDepth 100000 in
theorem t_Law_law_16 {sa : Nat → Nat} {d : Nat} {Q : xQ} {l0 : Nat} {l1 : Nat} {l2 : Nat} {l3 : Int32} {s0 : Int32} {s1 : Int32} {s2 : Int32} {s3 : Int32} {s4 : Nat} {M : xM} {u : xU} (h : xobj M s4 11 ∧ xEv xP (xprim sa) d m_C_lies [.ref s4, .int s3, .int s2, .int s1, .int s0] M (xrI fun r1 M1 => xaI M1 l0 (l3 + (nI 1)) fun v1 => (xaI M1 l0 (l3 + (nI 2)) fun v2 => (xaI M1 l0 (l3 + (nI 3)) fun v3 => (xaI M1 l0 (l3 + (nI 4)) fun v4 => (if v4 = 0 then (xobj M1 l2 12 ∧ xEv xP (xprim sa) d m_M_lies [.ref l2, .int v1, .int v2, .int v3, .int (nI 0)] M1 (xrI fun r2 M2 => if r1 = r2 then K_Law_law sa d Q 73 [some (.ref l0), some (.ref l1), some (.ref l2), some (.int l3)] [] M2 u else (((nI 0) = 0 ∨ (nI 0) = 1) ∧ Q (some (.int (nI 0))) M2))) else (xobj M1 l2 12 ∧ xEv xP (xprim sa) d m_M_lies [.ref l2, .int v1, .int v2, .int v3, .int (nI 1)] M1 (xrI fun r3 M3 => if r1 = r3 then K_Law_law sa d Q 73 [some (.ref l0), some (.ref l1), some (.ref l2), some (.int l3)] [] M3 u else (((nI 0) = 0 ∨ (nI 0) = 1) ∧ Q (some (.int (nI 0))) M3))))))))) : K_Law_law sa d Q 16 [some (.ref l0), some (.ref l1), some (.ref l2), some (.int l3)] [.int s0, .int s1, .int s2, .int s3, .ref s4] M u := by
  refine b_Law_law_16 ?_
  obtain ⟨hz, h⟩ := h
  refine ⟨hz, ?_⟩
  refine xEv_post' _ _ _ _ _ (xrI_mono (fun _ _ h => ?_)) h
  refine xaI_mono (fun _ h => ?_) h
  refine xaI_mono (fun _ h => ?_) h
  refine xaI_mono (fun _ h => ?_) h
  refine xaI_mono (fun _ h => ?_) h
  refine xite_mono (fun h => ?_) (fun h => ?_) h
  · refine b_Law_law_18 ?_
    refine b_Law_law_19 ?_
    obtain ⟨hz, h⟩ := h
    refine ⟨hz, ?_⟩
    refine xEv_post' _ _ _ _ _ (xrI_mono (fun _ _ h => ?_)) h
    refine xite_mono (fun h => ?_) (fun h => ?_) h
    · exact h
    · exact b_Law_law_20 h
  · refine b_Law_law_17 ?_
    refine b_Law_law_19 ?_
    obtain ⟨hz, h⟩ := h
    refine ⟨hz, ?_⟩
    refine xEv_post' _ _ _ _ _ (xrI_mono (fun _ _ h => ?_)) h
    refine xite_mono (fun h => ?_) (fun h => ?_) h
    · exact h
    · exact b_Law_law_20 h
set_option maxRecDepth 100000 in
theorem t_Law_law_24 {sa : Nat → Nat} {d : Nat} {Q : xQ} {l0 : Nat} {l1 : Nat} {l2 : Nat} {l3 : Int32} {s0 : Int32} {s1 : Int32} {s2 : Nat} {M : xM} {u : xU} (h : xobj M s2 11 ∧ xEv xP (xprim sa) d m_C_bar [.ref s2, .int s1, .int s0] M (xrI fun r1 M1 => xaI M1 l0 (l3 + (nI 1)) fun v1 => (xaI M1 l0 (l3 + (nI 2)) fun v2 => (if v2 = 0 then (xobj M1 l2 12 ∧ xEv xP (xprim sa) d m_M_bar [.ref l2, .int v1, .int (nI 0)] M1 (xrI fun r2 M2 => if r1 = r2 then K_Law_law sa d Q 73 [some (.ref l0), some (.ref l1), some (.ref l2), some (.int l3)] [] M2 u else (((nI 0) = 0 ∨ (nI 0) = 1) ∧ Q (some (.int (nI 0))) M2))) else (xobj M1 l2 12 ∧ xEv xP (xprim sa) d m_M_bar [.ref l2, .int v1, .int (nI 1)] M1 (xrI fun r3 M3 => if r1 = r3 then K_Law_law sa d Q 73 [some (.ref l0), some (.ref l1), some (.ref l2), some (.int l3)] [] M3 u else (((nI 0) = 0 ∨ (nI 0) = 1) ∧ Q (some (.int (nI 0))) M3))))))) : K_Law_law sa d Q 24 [some (.ref l0), some (.ref l1), some (.ref l2), some (.int l3)] [.int s0, .int s1, .ref s2] M u := by
  refine b_Law_law_24 ?_
  obtain ⟨hz, h⟩ := h
  refine ⟨hz, ?_⟩
  refine xEv_post' _ _ _ _ _ (xrI_mono (fun _ _ h => ?_)) h
  refine xaI_mono (fun _ h => ?_) h
  refine xaI_mono (fun _ h => ?_) h
  refine xite_mono (fun h => ?_) (fun h => ?_) h
  · refine b_Law_law_26 ?_
    refine b_Law_law_27 ?_
    obtain ⟨hz, h⟩ := h
    refine ⟨hz, ?_⟩
    refine xEv_post' _ _ _ _ _ (xrI_mono (fun _ _ h => ?_)) h
    refine xite_mono (fun h => ?_) (fun h => ?_) h
    · exact h
    · exact b_Law_law_28 h
  · refine b_Law_law_25 ?_
    refine b_Law_law_27 ?_
    obtain ⟨hz, h⟩ := h
    refine ⟨hz, ?_⟩
    refine xEv_post' _ _ _ _ _ (xrI_mono (fun _ _ h => ?_)) h
    refine xite_mono (fun h => ?_) (fun h => ?_) h
    · exact h
    · exact b_Law_law_28 h
set_option maxRecDepth 100000 in
theorem t_Law_law_73 {sa : Nat → Nat} {d : Nat} {Q : xQ} {l0 : Nat} {l1 : Nat} {l2 : Nat} {l3 : Int32} {M : xM} {u : xU} (h : K_Law_law sa d Q 1 [some (.ref l0), some (.ref l1), some (.ref l2), some (.int (l3 + (nI 6)))] [] M u) : K_Law_law sa d Q 73 [some (.ref l0), some (.ref l1), some (.ref l2), some (.int l3)] [] M u := b_Law_law_73 h
