/-! printed by gent.py: what follows from an entry or a loop's head, up to the next -/
set_option maxRecDepth 100000 in
theorem t_M_init_0 {sa : Nat → Nat} {d : Nat} {Q : xQ} {l0 : Nat} {l1 : Int32} {M : xM} {u : xU} (h : ¬ (nI 1420) < 0 ∧ (nI 1420).toNatClampNeg ≤ 1000000 ∧ xalloc M u (nI 1420).toNatClampNeg (.inl (0, (nI 1420).toNatClampNeg, .inl (fun _ => 0))) fun q1 M1 u1 => (xpf M1 l0 12 0 (.ref q1) fun M2 => (¬ (nI 1420) < 0 ∧ (nI 1420).toNatClampNeg ≤ 1000000 ∧ xalloc M2 u1 (nI 1420).toNatClampNeg (.inl (0, (nI 1420).toNatClampNeg, .inl (fun _ => 0))) fun q2 M3 u2 => (xpf M3 l0 12 1 (.ref q2) fun M4 => (¬ (nI 2580) < 0 ∧ (nI 2580).toNatClampNeg ≤ 1000000 ∧ xalloc M4 u2 (nI 2580).toNatClampNeg (.inl (0, (nI 2580).toNatClampNeg, .inl (fun _ => 0))) fun q3 M5 u3 => (xpf M5 l0 12 3 (.ref q3) fun M6 => (¬ (nI 300) < 0 ∧ (nI 300).toNatClampNeg ≤ 1000000 ∧ xalloc M6 u3 (nI 300).toNatClampNeg (.inl (0, (nI 300).toNatClampNeg, .inl (fun _ => 0))) fun q4 M7 u4 => (xpf M7 l0 12 4 (.ref q4) fun M8 => (xpf M8 l0 12 6 (.int (-1 : Int32)) fun M9 => (xpf M9 l0 12 7 (.int (-1 : Int32)) fun M10 => (¬ (nI 160) < 0 ∧ (nI 160).toNatClampNeg ≤ 1000000 ∧ xalloc M10 u4 (nI 160).toNatClampNeg (.inl (0, (nI 160).toNatClampNeg, .inl (fun _ => 0))) fun q5 M11 u5 => (xpf M11 l0 12 17 (.ref q5) fun M12 => (¬ (nI 8) < 0 ∧ (nI 8).toNatClampNeg ≤ 1000000 ∧ xalloc M12 u5 (nI 8).toNatClampNeg (.inl (0, (nI 8).toNatClampNeg, .inl (fun _ => 0))) fun q6 M13 u6 => (xpf M13 l0 12 22 (.ref q6) fun M14 => (¬ (nI 330) < 0 ∧ (nI 330).toNatClampNeg ≤ 1000000 ∧ xalloc M14 u6 (nI 330).toNatClampNeg (.inl (2, (nI 330).toNatClampNeg, .inr (.inl (fun _ => 0)))) fun q7 M15 u7 => (xpf M15 l0 12 23 (.ref q7) fun M16 => (¬ (nI 330) < 0 ∧ (nI 330).toNatClampNeg ≤ 1000000 ∧ xalloc M16 u7 (nI 330).toNatClampNeg (.inl (1, (nI 330).toNatClampNeg, .inl (fun _ => 0))) fun q8 M17 u8 => (xpf M17 l0 12 24 (.ref q8) fun M18 => (¬ (nI 9) < 0 ∧ (nI 9).toNatClampNeg ≤ 1000000 ∧ xalloc M18 u8 (nI 9).toNatClampNeg (.inl (0, (nI 9).toNatClampNeg, .inl (fun _ => 0))) fun q9 M19 u9 => (xpf M19 l0 12 25 (.ref q9) fun M20 => (¬ (nI 9) < 0 ∧ (nI 9).toNatClampNeg ≤ 1000000 ∧ xalloc M20 u9 (nI 9).toNatClampNeg (.inl (0, (nI 9).toNatClampNeg, .inl (fun _ => 0))) fun q10 M21 u10 => (xpf M21 l0 12 26 (.ref q10) fun M22 => (¬ (nI 60) < 0 ∧ (nI 60).toNatClampNeg ≤ 1000000 ∧ xalloc M22 u10 (nI 60).toNatClampNeg (.inl (0, (nI 60).toNatClampNeg, .inl (fun _ => 0))) fun q11 M23 u11 => (xpf M23 l0 12 27 (.ref q11) fun M24 => (¬ (nI 540000) < 0 ∧ (nI 540000).toNatClampNeg ≤ 1000000 ∧ xalloc M24 u11 (nI 540000).toNatClampNeg (.inl (0, (nI 540000).toNatClampNeg, .inl (fun _ => 0))) fun q12 M25 u12 => (xpf M25 l0 12 28 (.ref q12) fun M26 => (¬ (nI 9) < 0 ∧ (nI 9).toNatClampNeg ≤ 1000000 ∧ xalloc M26 u12 (nI 9).toNatClampNeg (.inl (0, (nI 9).toNatClampNeg, .inl (fun _ => 0))) fun q13 M27 u13 => (xpf M27 l0 12 29 (.ref q13) fun M28 => (¬ (nI 18000) < 0 ∧ (nI 18000).toNatClampNeg ≤ 1000000 ∧ xalloc M28 u13 (nI 18000).toNatClampNeg (.inl (0, (nI 18000).toNatClampNeg, .inl (fun _ => 0))) fun q14 M29 u14 => (xpf M29 l0 12 30 (.ref q14) fun M30 => (¬ (nI 18000) < 0 ∧ (nI 18000).toNatClampNeg ≤ 1000000 ∧ xalloc M30 u14 (nI 18000).toNatClampNeg (.inl (0, (nI 18000).toNatClampNeg, .inl (fun _ => 0))) fun q15 M31 u15 => (xpf M31 l0 12 31 (.ref q15) fun M32 => (¬ (nI 2000) < 0 ∧ (nI 2000).toNatClampNeg ≤ 1000000 ∧ xalloc M32 u15 (nI 2000).toNatClampNeg (.inl (0, (nI 2000).toNatClampNeg, .inl (fun _ => 0))) fun q16 M33 u16 => (xpf M33 l0 12 32 (.ref q16) fun M34 => (¬ (nI 4096) < 0 ∧ (nI 4096).toNatClampNeg ≤ 1000000 ∧ xalloc M34 u16 (nI 4096).toNatClampNeg (.inl (0, (nI 4096).toNatClampNeg, .inl (fun _ => 0))) fun q17 M35 u17 => (xpf M35 l0 12 33 (.ref q17) fun M36 => (¬ (nI 2) < 0 ∧ (nI 2).toNatClampNeg ≤ 1000000 ∧ xalloc M36 u17 (nI 2).toNatClampNeg (.inl (0, (nI 2).toNatClampNeg, .inl (fun _ => 0))) fun q18 M37 u18 => (xpf M37 l0 12 34 (.ref q18) fun M38 => (¬ (nI 30) < 0 ∧ (nI 30).toNatClampNeg ≤ 1000000 ∧ xalloc M38 u18 (nI 30).toNatClampNeg (.inl (0, (nI 30).toNatClampNeg, .inl (fun _ => 0))) fun q19 M39 u19 => (xpf M39 l0 12 37 (.ref q19) fun M40 => (¬ (nI 30) < 0 ∧ (nI 30).toNatClampNeg ≤ 1000000 ∧ xalloc M40 u19 (nI 30).toNatClampNeg (.inl (0, (nI 30).toNatClampNeg, .inl (fun _ => 0))) fun q20 M41 u20 => (xpf M41 l0 12 38 (.ref q20) fun M42 => (¬ (nI 400) < 0 ∧ (nI 400).toNatClampNeg ≤ 1000000 ∧ xalloc M42 u20 (nI 400).toNatClampNeg (.inl (0, (nI 400).toNatClampNeg, .inl (fun _ => 0))) fun q21 M43 u21 => (xpf M43 l0 12 39 (.ref q21) fun M44 => (if (nI 3) ≤ l1 then (if l1 ≤ (nI 9) then K_M_init sa d Q 5 [some (.ref l0), none, none] [.int l1, .ref l0] M44 u21 else K_M_init sa d Q 5 [some (.ref l0), none, none] [.int (nI 9), .ref l0] M44 u21) else K_M_init sa d Q 5 [some (.ref l0), none, none] [.int (nI 3), .ref l0] M44 u21))))))))))))))))))))))))))))))))))))))))))))) : K_M_init sa d Q 0 [some (.ref l0), some (.int l1), none] [] M u := by
  refine b_M_init_0 ?_
  obtain ⟨hz, h⟩ := h
  refine ⟨hz, ?_⟩
  obtain ⟨hz, h⟩ := h
  refine ⟨hz, ?_⟩
  refine xalloc_mono (fun _ _ _ h => ?_) h
  refine xpf_mono (fun _ h => ?_) h
  obtain ⟨hz, h⟩ := h
  refine ⟨hz, ?_⟩
  obtain ⟨hz, h⟩ := h
  refine ⟨hz, ?_⟩
  refine xalloc_mono (fun _ _ _ h => ?_) h
  refine xpf_mono (fun _ h => ?_) h
  obtain ⟨hz, h⟩ := h
  refine ⟨hz, ?_⟩
  obtain ⟨hz, h⟩ := h
  refine ⟨hz, ?_⟩
  refine xalloc_mono (fun _ _ _ h => ?_) h
  refine xpf_mono (fun _ h => ?_) h
  obtain ⟨hz, h⟩ := h
  refine ⟨hz, ?_⟩
  obtain ⟨hz, h⟩ := h
  refine ⟨hz, ?_⟩
  refine xalloc_mono (fun _ _ _ h => ?_) h
  refine xpf_mono (fun _ h => ?_) h
  refine xpf_mono (fun _ h => ?_) h
  refine xpf_mono (fun _ h => ?_) h
  obtain ⟨hz, h⟩ := h
  refine ⟨hz, ?_⟩
  obtain ⟨hz, h⟩ := h
  refine ⟨hz, ?_⟩
  refine xalloc_mono (fun _ _ _ h => ?_) h
  refine xpf_mono (fun _ h => ?_) h
  obtain ⟨hz, h⟩ := h
  refine ⟨hz, ?_⟩
  obtain ⟨hz, h⟩ := h
  refine ⟨hz, ?_⟩
  refine xalloc_mono (fun _ _ _ h => ?_) h
  refine xpf_mono (fun _ h => ?_) h
  obtain ⟨hz, h⟩ := h
  refine ⟨hz, ?_⟩
  obtain ⟨hz, h⟩ := h
  refine ⟨hz, ?_⟩
  refine xalloc_mono (fun _ _ _ h => ?_) h
  refine xpf_mono (fun _ h => ?_) h
  obtain ⟨hz, h⟩ := h
  refine ⟨hz, ?_⟩
  obtain ⟨hz, h⟩ := h
  refine ⟨hz, ?_⟩
  refine xalloc_mono (fun _ _ _ h => ?_) h
  refine xpf_mono (fun _ h => ?_) h
  obtain ⟨hz, h⟩ := h
  refine ⟨hz, ?_⟩
  obtain ⟨hz, h⟩ := h
  refine ⟨hz, ?_⟩
  refine xalloc_mono (fun _ _ _ h => ?_) h
  refine xpf_mono (fun _ h => ?_) h
  obtain ⟨hz, h⟩ := h
  refine ⟨hz, ?_⟩
  obtain ⟨hz, h⟩ := h
  refine ⟨hz, ?_⟩
  refine xalloc_mono (fun _ _ _ h => ?_) h
  refine xpf_mono (fun _ h => ?_) h
  obtain ⟨hz, h⟩ := h
  refine ⟨hz, ?_⟩
  obtain ⟨hz, h⟩ := h
  refine ⟨hz, ?_⟩
  refine xalloc_mono (fun _ _ _ h => ?_) h
  refine xpf_mono (fun _ h => ?_) h
  obtain ⟨hz, h⟩ := h
  refine ⟨hz, ?_⟩
  obtain ⟨hz, h⟩ := h
  refine ⟨hz, ?_⟩
  refine xalloc_mono (fun _ _ _ h => ?_) h
  refine xpf_mono (fun _ h => ?_) h
  obtain ⟨hz, h⟩ := h
  refine ⟨hz, ?_⟩
  obtain ⟨hz, h⟩ := h
  refine ⟨hz, ?_⟩
  refine xalloc_mono (fun _ _ _ h => ?_) h
  refine xpf_mono (fun _ h => ?_) h
  obtain ⟨hz, h⟩ := h
  refine ⟨hz, ?_⟩
  obtain ⟨hz, h⟩ := h
  refine ⟨hz, ?_⟩
  refine xalloc_mono (fun _ _ _ h => ?_) h
  refine xpf_mono (fun _ h => ?_) h
  obtain ⟨hz, h⟩ := h
  refine ⟨hz, ?_⟩
  obtain ⟨hz, h⟩ := h
  refine ⟨hz, ?_⟩
  refine xalloc_mono (fun _ _ _ h => ?_) h
  refine xpf_mono (fun _ h => ?_) h
  obtain ⟨hz, h⟩ := h
  refine ⟨hz, ?_⟩
  obtain ⟨hz, h⟩ := h
  refine ⟨hz, ?_⟩
  refine xalloc_mono (fun _ _ _ h => ?_) h
  refine xpf_mono (fun _ h => ?_) h
  obtain ⟨hz, h⟩ := h
  refine ⟨hz, ?_⟩
  obtain ⟨hz, h⟩ := h
  refine ⟨hz, ?_⟩
  refine xalloc_mono (fun _ _ _ h => ?_) h
  refine xpf_mono (fun _ h => ?_) h
  obtain ⟨hz, h⟩ := h
  refine ⟨hz, ?_⟩
  obtain ⟨hz, h⟩ := h
  refine ⟨hz, ?_⟩
  refine xalloc_mono (fun _ _ _ h => ?_) h
  refine xpf_mono (fun _ h => ?_) h
  obtain ⟨hz, h⟩ := h
  refine ⟨hz, ?_⟩
  obtain ⟨hz, h⟩ := h
  refine ⟨hz, ?_⟩
  refine xalloc_mono (fun _ _ _ h => ?_) h
  refine xpf_mono (fun _ h => ?_) h
  obtain ⟨hz, h⟩ := h
  refine ⟨hz, ?_⟩
  obtain ⟨hz, h⟩ := h
  refine ⟨hz, ?_⟩
  refine xalloc_mono (fun _ _ _ h => ?_) h
  refine xpf_mono (fun _ h => ?_) h
  obtain ⟨hz, h⟩ := h
  refine ⟨hz, ?_⟩
  obtain ⟨hz, h⟩ := h
  refine ⟨hz, ?_⟩
  refine xalloc_mono (fun _ _ _ h => ?_) h
  refine xpf_mono (fun _ h => ?_) h
  refine xite_mono (fun h => ?_) (fun h => ?_) h
  · refine b_M_init_2 ?_
    refine xite_mono (fun h => ?_) (fun h => ?_) h
    · exact b_M_init_4 h
    · exact b_M_init_3 h
  · exact b_M_init_1 h
set_option maxRecDepth 100000 in
theorem t_M_init_5 {sa : Nat → Nat} {d : Nat} {Q : xQ} {l0 : Nat} {s0 : Int32} {s1 : Nat} {M : xM} {u : xU} (h : xpf M s1 12 2 (.int s0) fun M1 => (xgfR M1 l0 12 0 fun v1 => (xsI M1 v1 (nI 1) (-1 : Int32) fun M2 => (xgfR M2 l0 12 0 fun v2 => (xsI M2 v2 (nI 4) (-1 : Int32) fun M3 => (K_M_init sa d Q 6 [some (.ref l0), none, some (.int (nI 0))] [] M3 u)))))) : K_M_init sa d Q 5 [some (.ref l0), none, none] [.int s0, .ref s1] M u := b_M_init_5 h
set_option maxRecDepth 100000 in
theorem t_M_init_6 {sa : Nat → Nat} {d : Nat} {Q : xQ} {l0 : Nat} {l2 : Int32} {M : xM} {u : xU} (h : if (nI 9) ≤ l2 then (xgfR M l0 12 0 fun v1 => (xobj M l0 12 ∧ xEv xP (xprim sa) d m_M_begin [.ref l0, .ref v1, .int (nI 190)] M (xrV fun M1 => xgfR M1 l0 12 0 fun v2 => (xgfR M1 l0 12 1 fun v3 => (xEv xP (xprim sa) d m_M_copy [.ref v2, .ref v3] M1 (xrV fun M2 => Q none M2)))))) else (xgfR M l0 12 0 fun v4 => (xsI M v4 ((nI 40) + ((nI 3) * l2)) (-1 : Int32) fun M3 => (xgfR M3 l0 12 0 fun v5 => (xsI M3 v5 (((nI 40) + ((nI 3) * l2)) + (nI 1)) (-1 : Int32) fun M4 => (K_M_init sa d Q 6 [some (.ref l0), none, some (.int (l2 + (nI 1)))] [] M4 u)))))) : K_M_init sa d Q 6 [some (.ref l0), none, some (.int l2)] [] M u := by
  refine b_M_init_6 ?_
  refine xite_mono (fun h => ?_) (fun h => ?_) h
  · exact b_M_init_8 h
  · exact b_M_init_7 h
theorem t_M_init {sa : Nat → Nat} {d : Nat} {Q : xQ} {l0 : Nat} {l1 : Int32} {M : xM} (h : ¬ (nI 1420) < 0 ∧ (nI 1420).toNatClampNeg ≤ 1000000 ∧ xalloc M (21, 589193) (nI 1420).toNatClampNeg (.inl (0, (nI 1420).toNatClampNeg, .inl (fun _ => 0))) fun q1 M1 u1 => (xpf M1 l0 12 0 (.ref q1) fun M2 => (¬ (nI 1420) < 0 ∧ (nI 1420).toNatClampNeg ≤ 1000000 ∧ xalloc M2 u1 (nI 1420).toNatClampNeg (.inl (0, (nI 1420).toNatClampNeg, .inl (fun _ => 0))) fun q2 M3 u2 => (xpf M3 l0 12 1 (.ref q2) fun M4 => (¬ (nI 2580) < 0 ∧ (nI 2580).toNatClampNeg ≤ 1000000 ∧ xalloc M4 u2 (nI 2580).toNatClampNeg (.inl (0, (nI 2580).toNatClampNeg, .inl (fun _ => 0))) fun q3 M5 u3 => (xpf M5 l0 12 3 (.ref q3) fun M6 => (¬ (nI 300) < 0 ∧ (nI 300).toNatClampNeg ≤ 1000000 ∧ xalloc M6 u3 (nI 300).toNatClampNeg (.inl (0, (nI 300).toNatClampNeg, .inl (fun _ => 0))) fun q4 M7 u4 => (xpf M7 l0 12 4 (.ref q4) fun M8 => (xpf M8 l0 12 6 (.int (-1 : Int32)) fun M9 => (xpf M9 l0 12 7 (.int (-1 : Int32)) fun M10 => (¬ (nI 160) < 0 ∧ (nI 160).toNatClampNeg ≤ 1000000 ∧ xalloc M10 u4 (nI 160).toNatClampNeg (.inl (0, (nI 160).toNatClampNeg, .inl (fun _ => 0))) fun q5 M11 u5 => (xpf M11 l0 12 17 (.ref q5) fun M12 => (¬ (nI 8) < 0 ∧ (nI 8).toNatClampNeg ≤ 1000000 ∧ xalloc M12 u5 (nI 8).toNatClampNeg (.inl (0, (nI 8).toNatClampNeg, .inl (fun _ => 0))) fun q6 M13 u6 => (xpf M13 l0 12 22 (.ref q6) fun M14 => (¬ (nI 330) < 0 ∧ (nI 330).toNatClampNeg ≤ 1000000 ∧ xalloc M14 u6 (nI 330).toNatClampNeg (.inl (2, (nI 330).toNatClampNeg, .inr (.inl (fun _ => 0)))) fun q7 M15 u7 => (xpf M15 l0 12 23 (.ref q7) fun M16 => (¬ (nI 330) < 0 ∧ (nI 330).toNatClampNeg ≤ 1000000 ∧ xalloc M16 u7 (nI 330).toNatClampNeg (.inl (1, (nI 330).toNatClampNeg, .inl (fun _ => 0))) fun q8 M17 u8 => (xpf M17 l0 12 24 (.ref q8) fun M18 => (¬ (nI 9) < 0 ∧ (nI 9).toNatClampNeg ≤ 1000000 ∧ xalloc M18 u8 (nI 9).toNatClampNeg (.inl (0, (nI 9).toNatClampNeg, .inl (fun _ => 0))) fun q9 M19 u9 => (xpf M19 l0 12 25 (.ref q9) fun M20 => (¬ (nI 9) < 0 ∧ (nI 9).toNatClampNeg ≤ 1000000 ∧ xalloc M20 u9 (nI 9).toNatClampNeg (.inl (0, (nI 9).toNatClampNeg, .inl (fun _ => 0))) fun q10 M21 u10 => (xpf M21 l0 12 26 (.ref q10) fun M22 => (¬ (nI 60) < 0 ∧ (nI 60).toNatClampNeg ≤ 1000000 ∧ xalloc M22 u10 (nI 60).toNatClampNeg (.inl (0, (nI 60).toNatClampNeg, .inl (fun _ => 0))) fun q11 M23 u11 => (xpf M23 l0 12 27 (.ref q11) fun M24 => (¬ (nI 540000) < 0 ∧ (nI 540000).toNatClampNeg ≤ 1000000 ∧ xalloc M24 u11 (nI 540000).toNatClampNeg (.inl (0, (nI 540000).toNatClampNeg, .inl (fun _ => 0))) fun q12 M25 u12 => (xpf M25 l0 12 28 (.ref q12) fun M26 => (¬ (nI 9) < 0 ∧ (nI 9).toNatClampNeg ≤ 1000000 ∧ xalloc M26 u12 (nI 9).toNatClampNeg (.inl (0, (nI 9).toNatClampNeg, .inl (fun _ => 0))) fun q13 M27 u13 => (xpf M27 l0 12 29 (.ref q13) fun M28 => (¬ (nI 18000) < 0 ∧ (nI 18000).toNatClampNeg ≤ 1000000 ∧ xalloc M28 u13 (nI 18000).toNatClampNeg (.inl (0, (nI 18000).toNatClampNeg, .inl (fun _ => 0))) fun q14 M29 u14 => (xpf M29 l0 12 30 (.ref q14) fun M30 => (¬ (nI 18000) < 0 ∧ (nI 18000).toNatClampNeg ≤ 1000000 ∧ xalloc M30 u14 (nI 18000).toNatClampNeg (.inl (0, (nI 18000).toNatClampNeg, .inl (fun _ => 0))) fun q15 M31 u15 => (xpf M31 l0 12 31 (.ref q15) fun M32 => (¬ (nI 2000) < 0 ∧ (nI 2000).toNatClampNeg ≤ 1000000 ∧ xalloc M32 u15 (nI 2000).toNatClampNeg (.inl (0, (nI 2000).toNatClampNeg, .inl (fun _ => 0))) fun q16 M33 u16 => (xpf M33 l0 12 32 (.ref q16) fun M34 => (¬ (nI 4096) < 0 ∧ (nI 4096).toNatClampNeg ≤ 1000000 ∧ xalloc M34 u16 (nI 4096).toNatClampNeg (.inl (0, (nI 4096).toNatClampNeg, .inl (fun _ => 0))) fun q17 M35 u17 => (xpf M35 l0 12 33 (.ref q17) fun M36 => (¬ (nI 2) < 0 ∧ (nI 2).toNatClampNeg ≤ 1000000 ∧ xalloc M36 u17 (nI 2).toNatClampNeg (.inl (0, (nI 2).toNatClampNeg, .inl (fun _ => 0))) fun q18 M37 u18 => (xpf M37 l0 12 34 (.ref q18) fun M38 => (¬ (nI 30) < 0 ∧ (nI 30).toNatClampNeg ≤ 1000000 ∧ xalloc M38 u18 (nI 30).toNatClampNeg (.inl (0, (nI 30).toNatClampNeg, .inl (fun _ => 0))) fun q19 M39 u19 => (xpf M39 l0 12 37 (.ref q19) fun M40 => (¬ (nI 30) < 0 ∧ (nI 30).toNatClampNeg ≤ 1000000 ∧ xalloc M40 u19 (nI 30).toNatClampNeg (.inl (0, (nI 30).toNatClampNeg, .inl (fun _ => 0))) fun q20 M41 u20 => (xpf M41 l0 12 38 (.ref q20) fun M42 => (¬ (nI 400) < 0 ∧ (nI 400).toNatClampNeg ≤ 1000000 ∧ xalloc M42 u20 (nI 400).toNatClampNeg (.inl (0, (nI 400).toNatClampNeg, .inl (fun _ => 0))) fun q21 M43 u21 => (xpf M43 l0 12 39 (.ref q21) fun M44 => (if (nI 3) ≤ l1 then (if l1 ≤ (nI 9) then K_M_init sa d Q 5 [some (.ref l0), none, none] [.int l1, .ref l0] M44 u21 else K_M_init sa d Q 5 [some (.ref l0), none, none] [.int (nI 9), .ref l0] M44 u21) else K_M_init sa d Q 5 [some (.ref l0), none, none] [.int (nI 3), .ref l0] M44 u21))))))))))))))))))))))))))))))))))))))))))))) : xEv xP (xprim sa) (d + 1) m_M_init [.ref l0, .int l1] M Q := e_M_init (t_M_init_0 h)
set_option maxRecDepth 100000 in
theorem t_M_copy_0 {sa : Nat → Nat} {d : Nat} {Q : xQ} {l0 : Nat} {l1 : Nat} {M : xM} {u : xU} (h : K_M_copy sa d Q 1 [some (.ref l0), some (.ref l1), some (.int (nI 0))] [] M u) : K_M_copy sa d Q 0 [some (.ref l0), some (.ref l1), none] [] M u := b_M_copy_0 h
set_option maxRecDepth 100000 in
theorem t_M_copy_1 {sa : Nat → Nat} {d : Nat} {Q : xQ} {l0 : Nat} {l1 : Nat} {l2 : Int32} {M : xM} {u : xU} (h : if (nI 1420) ≤ l2 then (Q none M) else (xaI M l0 l2 fun v1 => (xsI M l1 l2 v1 fun M1 => (K_M_copy sa d Q 1 [some (.ref l0), some (.ref l1), some (.int (l2 + (nI 1)))] [] M1 u)))) : K_M_copy sa d Q 1 [some (.ref l0), some (.ref l1), some (.int l2)] [] M u := by
  refine b_M_copy_1 ?_
  refine xite_mono (fun h => ?_) (fun h => ?_) h
  · exact b_M_copy_3 h
  · exact b_M_copy_2 h
theorem t_M_copy {sa : Nat → Nat} {d : Nat} {Q : xQ} {l0 : Nat} {l1 : Nat} {M : xM} (h : K_M_copy sa d Q 1 [some (.ref l0), some (.ref l1), some (.int (nI 0))] [] M (0, 0)) : xEv xP (xprim sa) (d + 1) m_M_copy [.ref l0, .ref l1] M Q := e_M_copy (t_M_copy_0 h)
set_option maxRecDepth 100000 in
theorem t_M_isIn_0 {sa : Nat → Nat} {d : Nat} {Q : xQ} {l0 : Int32} {l1 : Int32} {l2 : Int32} {M : xM} {u : xU} (h : if l0 < l1 then (((nI 0) = 0 ∨ (nI 0) = 1) ∧ Q (some (.int (nI 0))) M) else (if l2 < l0 then (((nI 0) = 0 ∨ (nI 0) = 1) ∧ Q (some (.int (nI 0))) M) else (((nI 1) = 0 ∨ (nI 1) = 1) ∧ Q (some (.int (nI 1))) M))) : K_M_isIn sa d Q 0 [some (.int l0), some (.int l1), some (.int l2)] [] M u := by
  refine b_M_isIn_0 ?_
  refine xite_mono (fun h => ?_) (fun h => ?_) h
  · refine b_M_isIn_3 ?_
    exact b_M_isIn_4 h
  · refine b_M_isIn_1 ?_
    refine xite_mono (fun h => ?_) (fun h => ?_) h
    · refine b_M_isIn_3 ?_
      exact b_M_isIn_4 h
    · refine b_M_isIn_2 ?_
      exact b_M_isIn_4 h
theorem t_M_isIn {sa : Nat → Nat} {d : Nat} {Q : xQ} {l0 : Int32} {l1 : Int32} {l2 : Int32} {M : xM} (h : if l0 < l1 then (((nI 0) = 0 ∨ (nI 0) = 1) ∧ Q (some (.int (nI 0))) M) else (if l2 < l0 then (((nI 0) = 0 ∨ (nI 0) = 1) ∧ Q (some (.int (nI 0))) M) else (((nI 1) = 0 ∨ (nI 1) = 1) ∧ Q (some (.int (nI 1))) M))) : xEv xP (xprim sa) (d + 1) m_M_isIn [.int l0, .int l1, .int l2] M Q := e_M_isIn (t_M_isIn_0 h)
set_option maxRecDepth 100000 in
theorem t_M_held_0 {sa : Nat → Nat} {d : Nat} {Q : xQ} {l0 : Int64} {l2 : Int32} {l3 : Int32} {M : xM} {u : xU} (h : if 0 ≤ (lg_cmp l0 l2.toInt64) then (if (lg_cmp l0 l3.toInt64) ≤ 0 then (Q (some (.int l0.toInt32)) M) else (Q (some (.int l3)) M)) else (Q (some (.int l2)) M)) : K_M_held sa d Q 0 [some (.long l0), none, some (.int l2), some (.int l3)] [] M u := by
  refine b_M_held_0 ?_
  refine xite_mono (fun h => ?_) (fun h => ?_) h
  · refine b_M_held_2 ?_
    refine xite_mono (fun h => ?_) (fun h => ?_) h
    · refine b_M_held_4 ?_
      exact b_M_held_5 h
    · refine b_M_held_3 ?_
      exact b_M_held_5 h
  · refine b_M_held_1 ?_
    exact b_M_held_5 h
theorem t_M_held {sa : Nat → Nat} {d : Nat} {Q : xQ} {l0 : Int64} {l2 : Int32} {l3 : Int32} {M : xM} (h : if 0 ≤ (lg_cmp l0 l2.toInt64) then (if (lg_cmp l0 l3.toInt64) ≤ 0 then (Q (some (.int l0.toInt32)) M) else (Q (some (.int l3)) M)) else (Q (some (.int l2)) M)) : xEv xP (xprim sa) (d + 1) m_M_held [.long l0, .int l2, .int l3] M Q := e_M_held (t_M_held_0 h)
set_option maxRecDepth 100000 in
theorem t_M_isRoom_0 {sa : Nat → Nat} {d : Nat} {Q : xQ} {l0 : Nat} {l1 : Int32} {M : xM} {u : xU} (h : xgfI M l0 12 2 fun v1 => (xEv xP (xprim sa) d m_M_isIn [.int l1, .int (nI 0), .int (v1 - (nI 1))] M (xrI fun r1 M1 => (r1 = 0 ∨ r1 = 1) ∧ Q (some (.int r1)) M1))) : K_M_isRoom sa d Q 0 [some (.ref l0), some (.int l1)] [] M u := b_M_isRoom_0 h
theorem t_M_isRoom {sa : Nat → Nat} {d : Nat} {Q : xQ} {l0 : Nat} {l1 : Int32} {M : xM} (h : xgfI M l0 12 2 fun v1 => (xEv xP (xprim sa) d m_M_isIn [.int l1, .int (nI 0), .int (v1 - (nI 1))] M (xrI fun r1 M1 => (r1 = 0 ∨ r1 = 1) ∧ Q (some (.int r1)) M1))) : xEv xP (xprim sa) (d + 1) m_M_isRoom [.ref l0, .int l1] M Q := e_M_isRoom (t_M_isRoom_0 h)
set_option maxRecDepth 100000 in
theorem t_M_leftOf_0 {sa : Nat → Nat} {d : Nat} {Q : xQ} {l0 : Nat} {l1 : Int32} {M : xM} {u : xU} (h : if ¬ l1 = 0 then (Q (some (.int (l1 - (nI 1)))) M) else (xgfI M l0 12 2 fun v1 => (Q (some (.int (v1 - (nI 1)))) M))) : K_M_leftOf sa d Q 0 [some (.ref l0), some (.int l1)] [] M u := by
  refine b_M_leftOf_0 ?_
  refine xite_mono (fun h => ?_) (fun h => ?_) h
  · refine b_M_leftOf_2 ?_
    exact b_M_leftOf_3 h
  · refine b_M_leftOf_1 ?_
    refine xgfI_mono (fun _ h => ?_) h
    exact b_M_leftOf_3 h
theorem t_M_leftOf {sa : Nat → Nat} {d : Nat} {Q : xQ} {l0 : Nat} {l1 : Int32} {M : xM} (h : if ¬ l1 = 0 then (Q (some (.int (l1 - (nI 1)))) M) else (xgfI M l0 12 2 fun v1 => (Q (some (.int (v1 - (nI 1)))) M))) : xEv xP (xprim sa) (d + 1) m_M_leftOf [.ref l0, .int l1] M Q := e_M_leftOf (t_M_leftOf_0 h)
set_option maxRecDepth 100000 in
theorem t_M_rightOf_0 {sa : Nat → Nat} {d : Nat} {Q : xQ} {l0 : Nat} {l1 : Int32} {M : xM} {u : xU} (h : xgfI M l0 12 2 fun v1 => (if ¬ l1 = (v1 - (nI 1)) then (Q (some (.int (l1 + (nI 1)))) M) else (Q (some (.int (nI 0))) M))) : K_M_rightOf sa d Q 0 [some (.ref l0), some (.int l1)] [] M u := by
  refine b_M_rightOf_0 ?_
  refine xgfI_mono (fun _ h => ?_) h
  refine xite_mono (fun h => ?_) (fun h => ?_) h
  · refine b_M_rightOf_2 ?_
    exact b_M_rightOf_3 h
  · refine b_M_rightOf_1 ?_
    exact b_M_rightOf_3 h
theorem t_M_rightOf {sa : Nat → Nat} {d : Nat} {Q : xQ} {l0 : Nat} {l1 : Int32} {M : xM} (h : xgfI M l0 12 2 fun v1 => (if ¬ l1 = (v1 - (nI 1)) then (Q (some (.int (l1 + (nI 1)))) M) else (Q (some (.int (nI 0))) M))) : xEv xP (xprim sa) (d + 1) m_M_rightOf [.ref l0, .int l1] M Q := e_M_rightOf (t_M_rightOf_0 h)
set_option maxRecDepth 100000 in
theorem t_M_begin_0 {sa : Nat → Nat} {d : Nat} {Q : xQ} {l0 : Nat} {l1 : Nat} {l2 : Int32} {M : xM} {u : xU} (h : xsI M l1 (l2 + (nI 0)) (nI 0) fun M1 => (xsI M1 l1 (l2 + (nI 1)) (nI 0) fun M2 => (K_M_begin sa d Q 1 [some (.ref l0), some (.ref l1), some (.int l2), some (.int (nI 0))] [] M2 u))) : K_M_begin sa d Q 0 [some (.ref l0), some (.ref l1), some (.int l2), none] [] M u := b_M_begin_0 h
set_option maxRecDepth 100000 in
theorem t_M_begin_1 {sa : Nat → Nat} {d : Nat} {Q : xQ} {l0 : Nat} {l1 : Nat} {l2 : Int32} {l3 : Int32} {M : xM} {u : xU} (h : if (nI 9) ≤ l3 then (Q none M) else (xgfR M l0 12 0 fun v1 => (xaI M v1 ((nI 20) + l3) fun v2 => (xsI M l1 ((l2 + (nI 2)) + l3) v2 fun M1 => (xsI M1 l1 ((l2 + (nI 11)) + l3) (-1 : Int32) fun M2 => (xsI M2 l1 ((l2 + (nI 20)) + l3) (-1 : Int32) fun M3 => (K_M_begin sa d Q 1 [some (.ref l0), some (.ref l1), some (.int l2), some (.int (l3 + (nI 1)))] [] M3 u))))))) : K_M_begin sa d Q 1 [some (.ref l0), some (.ref l1), some (.int l2), some (.int l3)] [] M u := by
  refine b_M_begin_1 ?_
  refine xite_mono (fun h => ?_) (fun h => ?_) h
  · exact b_M_begin_3 h
  · exact b_M_begin_2 h
theorem t_M_begin {sa : Nat → Nat} {d : Nat} {Q : xQ} {l0 : Nat} {l1 : Nat} {l2 : Int32} {M : xM} (h : xsI M l1 (l2 + (nI 0)) (nI 0) fun M1 => (xsI M1 l1 (l2 + (nI 1)) (nI 0) fun M2 => (K_M_begin sa d Q 1 [some (.ref l0), some (.ref l1), some (.int l2), some (.int (nI 0))] [] M2 (0, 0)))) : xEv xP (xprim sa) (d + 1) m_M_begin [.ref l0, .ref l1, .int l2] M Q := e_M_begin (t_M_begin_0 h)
set_option maxRecDepth 100000 in
theorem t_M_elder_0 {sa : Nat → Nat} {d : Nat} {Q : xQ} {l0 : Nat} {l1 : Int32} {l2 : Int32} {l3 : Int32} {M : xM} {u : xU} (h : xobj M l0 12 ∧ xEv xP (xprim sa) d m_M_isRoom [.ref l0, .int l1] M (xrI fun r1 M1 => if r1 = 0 then (((nI 0) = 0 ∨ (nI 0) = 1) ∧ Q (some (.int (nI 0))) M1) else (xEv xP (xprim sa) d m_M_isIn [.int l2, .int (nI 0), .int (nI 2)] M1 (xrI fun r2 M2 => if r2 = 0 then (((nI 0) = 0 ∨ (nI 0) = 1) ∧ Q (some (.int (nI 0))) M2) else (xEv xP (xprim sa) d m_M_isIn [.int l3, .int (nI 0), .int (nI 9)] M2 (xrI fun r3 M3 => if ¬ r3 = 0 then (xgfR M3 l0 12 0 fun v1 => (xsI M3 v1 ((nI 10) + l1) l2 fun M4 => (xgfR M4 l0 12 0 fun v2 => (xsI M4 v2 ((nI 20) + l1) l3 fun M5 => (((nI 1) = 0 ∨ (nI 1) = 1) ∧ Q (some (.int (nI 1))) M5))))) else (((nI 0) = 0 ∨ (nI 0) = 1) ∧ Q (some (.int (nI 0))) M3))))))) : K_M_elder sa d Q 0 [some (.ref l0), some (.int l1), some (.int l2), some (.int l3)] [] M u := by
  refine b_M_elder_0 ?_
  obtain ⟨hz, h⟩ := h
  refine ⟨hz, ?_⟩
  refine xEv_post' _ _ _ _ _ (xrI_mono (fun _ _ h => ?_)) h
  refine xite_mono (fun h => ?_) (fun h => ?_) h
  · exact b_M_elder_3 h
  · refine b_M_elder_1 ?_
    refine xEv_post' _ _ _ _ _ (xrI_mono (fun _ _ h => ?_)) h
    refine xite_mono (fun h => ?_) (fun h => ?_) h
    · exact b_M_elder_3 h
    · refine b_M_elder_2 ?_
      refine xEv_post' _ _ _ _ _ (xrI_mono (fun _ _ h => ?_)) h
      refine xite_mono (fun h => ?_) (fun h => ?_) h
      · exact b_M_elder_4 h
      · exact b_M_elder_3 h
theorem t_M_elder {sa : Nat → Nat} {d : Nat} {Q : xQ} {l0 : Nat} {l1 : Int32} {l2 : Int32} {l3 : Int32} {M : xM} (h : xobj M l0 12 ∧ xEv xP (xprim sa) d m_M_isRoom [.ref l0, .int l1] M (xrI fun r1 M1 => if r1 = 0 then (((nI 0) = 0 ∨ (nI 0) = 1) ∧ Q (some (.int (nI 0))) M1) else (xEv xP (xprim sa) d m_M_isIn [.int l2, .int (nI 0), .int (nI 2)] M1 (xrI fun r2 M2 => if r2 = 0 then (((nI 0) = 0 ∨ (nI 0) = 1) ∧ Q (some (.int (nI 0))) M2) else (xEv xP (xprim sa) d m_M_isIn [.int l3, .int (nI 0), .int (nI 9)] M2 (xrI fun r3 M3 => if ¬ r3 = 0 then (xgfR M3 l0 12 0 fun v1 => (xsI M3 v1 ((nI 10) + l1) l2 fun M4 => (xgfR M4 l0 12 0 fun v2 => (xsI M4 v2 ((nI 20) + l1) l3 fun M5 => (((nI 1) = 0 ∨ (nI 1) = 1) ∧ Q (some (.int (nI 1))) M5))))) else (((nI 0) = 0 ∨ (nI 0) = 1) ∧ Q (some (.int (nI 0))) M3))))))) : xEv xP (xprim sa) (d + 1) m_M_elder [.ref l0, .int l1, .int l2, .int l3] M Q := e_M_elder (t_M_elder_0 h)
set_option maxRecDepth 100000 in
theorem t_M_stuck_0 {sa : Nat → Nat} {d : Nat} {Q : xQ} {l0 : Nat} {l1 : Int32} {l2 : Int32} {M : xM} {u : xU} (h : xobj M l0 12 ∧ xEv xP (xprim sa) d m_M_isRoom [.ref l0, .int l1] M (xrI fun r1 M1 => if ¬ r1 = 0 then (xgfR M1 l0 12 0 fun v1 => (if l2 = 0 then (xsI M1 v1 ((nI 30) + l1) (nI 0) fun M2 => (((nI 1) = 0 ∨ (nI 1) = 1) ∧ Q (some (.int (nI 1))) M2)) else (xsI M1 v1 ((nI 30) + l1) (nI 1) fun M3 => (((nI 1) = 0 ∨ (nI 1) = 1) ∧ Q (some (.int (nI 1))) M3)))) else (((nI 0) = 0 ∨ (nI 0) = 1) ∧ Q (some (.int (nI 0))) M1))) : K_M_stuck sa d Q 0 [some (.ref l0), some (.int l1), some (.int l2)] [] M u := by
  refine b_M_stuck_0 ?_
  obtain ⟨hz, h⟩ := h
  refine ⟨hz, ?_⟩
  refine xEv_post' _ _ _ _ _ (xrI_mono (fun _ _ h => ?_)) h
  refine xite_mono (fun h => ?_) (fun h => ?_) h
  · refine b_M_stuck_2 ?_
    refine xgfR_mono (fun _ h => ?_) h
    refine xite_mono (fun h => ?_) (fun h => ?_) h
    · refine b_M_stuck_4 ?_
      exact b_M_stuck_5 h
    · refine b_M_stuck_3 ?_
      exact b_M_stuck_5 h
  · exact b_M_stuck_1 h
theorem t_M_stuck {sa : Nat → Nat} {d : Nat} {Q : xQ} {l0 : Nat} {l1 : Int32} {l2 : Int32} {M : xM} (h : xobj M l0 12 ∧ xEv xP (xprim sa) d m_M_isRoom [.ref l0, .int l1] M (xrI fun r1 M1 => if ¬ r1 = 0 then (xgfR M1 l0 12 0 fun v1 => (if l2 = 0 then (xsI M1 v1 ((nI 30) + l1) (nI 0) fun M2 => (((nI 1) = 0 ∨ (nI 1) = 1) ∧ Q (some (.int (nI 1))) M2)) else (xsI M1 v1 ((nI 30) + l1) (nI 1) fun M3 => (((nI 1) = 0 ∨ (nI 1) = 1) ∧ Q (some (.int (nI 1))) M3)))) else (((nI 0) = 0 ∨ (nI 0) = 1) ∧ Q (some (.int (nI 0))) M1))) : xEv xP (xprim sa) (d + 1) m_M_stuck [.ref l0, .int l1, .int l2] M Q := e_M_stuck (t_M_stuck_0 h)
set_option maxRecDepth 100000 in
theorem t_M_lies_0 {sa : Nat → Nat} {d : Nat} {Q : xQ} {l0 : Nat} {l1 : Int32} {l2 : Int32} {l3 : Int32} {l4 : Int32} {M : xM} {u : xU} (h : xobj M l0 12 ∧ xEv xP (xprim sa) d m_M_isRoom [.ref l0, .int l1] M (xrI fun r1 M1 => if r1 = 0 then (((nI 0) = 0 ∨ (nI 0) = 1) ∧ Q (some (.int (nI 0))) M1) else (xEv xP (xprim sa) d m_M_isIn [.int l2, .int (-1 : Int32), .int (nI 99)] M1 (xrI fun r2 M2 => if r2 = 0 then (((nI 0) = 0 ∨ (nI 0) = 1) ∧ Q (some (.int (nI 0))) M2) else (xEv xP (xprim sa) d m_M_isIn [.int l3, .int (-1 : Int32), .int (nI 99)] M2 (xrI fun r3 M3 => if ¬ r3 = 0 then (xgfR M3 l0 12 0 fun v1 => (xsI M3 v1 ((nI 40) + ((nI 3) * l1)) l2 fun M4 => (xgfR M4 l0 12 0 fun v2 => (xsI M4 v2 (((nI 40) + ((nI 3) * l1)) + (nI 1)) l3 fun M5 => (xgfR M5 l0 12 0 fun v3 => (if l4 = 0 then (xsI M5 v3 (((nI 40) + ((nI 3) * l1)) + (nI 2)) (nI 0) fun M6 => (((nI 1) = 0 ∨ (nI 1) = 1) ∧ Q (some (.int (nI 1))) M6)) else (xsI M5 v3 (((nI 40) + ((nI 3) * l1)) + (nI 2)) (nI 1) fun M7 => (((nI 1) = 0 ∨ (nI 1) = 1) ∧ Q (some (.int (nI 1))) M7)))))))) else (((nI 0) = 0 ∨ (nI 0) = 1) ∧ Q (some (.int (nI 0))) M3))))))) : K_M_lies sa d Q 0 [some (.ref l0), some (.int l1), some (.int l2), some (.int l3), some (.int l4)] [] M u := by
  refine b_M_lies_0 ?_
  obtain ⟨hz, h⟩ := h
  refine ⟨hz, ?_⟩
  refine xEv_post' _ _ _ _ _ (xrI_mono (fun _ _ h => ?_)) h
  refine xite_mono (fun h => ?_) (fun h => ?_) h
  · exact b_M_lies_3 h
  · refine b_M_lies_1 ?_
    refine xEv_post' _ _ _ _ _ (xrI_mono (fun _ _ h => ?_)) h
    refine xite_mono (fun h => ?_) (fun h => ?_) h
    · exact b_M_lies_3 h
    · refine b_M_lies_2 ?_
      refine xEv_post' _ _ _ _ _ (xrI_mono (fun _ _ h => ?_)) h
      refine xite_mono (fun h => ?_) (fun h => ?_) h
      · refine b_M_lies_4 ?_
        refine xgfR_mono (fun _ h => ?_) h
        refine xsI_mono (fun _ h => ?_) h
        refine xgfR_mono (fun _ h => ?_) h
        refine xsI_mono (fun _ h => ?_) h
        refine xgfR_mono (fun _ h => ?_) h
        refine xite_mono (fun h => ?_) (fun h => ?_) h
        · refine b_M_lies_6 ?_
          exact b_M_lies_7 h
        · refine b_M_lies_5 ?_
          exact b_M_lies_7 h
      · exact b_M_lies_3 h
theorem t_M_lies {sa : Nat → Nat} {d : Nat} {Q : xQ} {l0 : Nat} {l1 : Int32} {l2 : Int32} {l3 : Int32} {l4 : Int32} {M : xM} (h : xobj M l0 12 ∧ xEv xP (xprim sa) d m_M_isRoom [.ref l0, .int l1] M (xrI fun r1 M1 => if r1 = 0 then (((nI 0) = 0 ∨ (nI 0) = 1) ∧ Q (some (.int (nI 0))) M1) else (xEv xP (xprim sa) d m_M_isIn [.int l2, .int (-1 : Int32), .int (nI 99)] M1 (xrI fun r2 M2 => if r2 = 0 then (((nI 0) = 0 ∨ (nI 0) = 1) ∧ Q (some (.int (nI 0))) M2) else (xEv xP (xprim sa) d m_M_isIn [.int l3, .int (-1 : Int32), .int (nI 99)] M2 (xrI fun r3 M3 => if ¬ r3 = 0 then (xgfR M3 l0 12 0 fun v1 => (xsI M3 v1 ((nI 40) + ((nI 3) * l1)) l2 fun M4 => (xgfR M4 l0 12 0 fun v2 => (xsI M4 v2 (((nI 40) + ((nI 3) * l1)) + (nI 1)) l3 fun M5 => (xgfR M5 l0 12 0 fun v3 => (if l4 = 0 then (xsI M5 v3 (((nI 40) + ((nI 3) * l1)) + (nI 2)) (nI 0) fun M6 => (((nI 1) = 0 ∨ (nI 1) = 1) ∧ Q (some (.int (nI 1))) M6)) else (xsI M5 v3 (((nI 40) + ((nI 3) * l1)) + (nI 2)) (nI 1) fun M7 => (((nI 1) = 0 ∨ (nI 1) = 1) ∧ Q (some (.int (nI 1))) M7)))))))) else (((nI 0) = 0 ∨ (nI 0) = 1) ∧ Q (some (.int (nI 0))) M3))))))) : xEv xP (xprim sa) (d + 1) m_M_lies [.ref l0, .int l1, .int l2, .int l3, .int l4] M Q := e_M_lies (t_M_lies_0 h)
set_option maxRecDepth 100000 in
theorem t_M_bar_0 {sa : Nat → Nat} {d : Nat} {Q : xQ} {l0 : Nat} {l1 : Int32} {l2 : Int32} {M : xM} {u : xU} (h : xEv xP (xprim sa) d m_M_isIn [.int l1, .int (nI 0), .int (nI 99)] M (xrI fun r1 M1 => if ¬ r1 = 0 then (xgfR M1 l0 12 0 fun v1 => (if l2 = 0 then (xsI M1 v1 ((nI 70) + l1) (nI 0) fun M2 => (((nI 1) = 0 ∨ (nI 1) = 1) ∧ Q (some (.int (nI 1))) M2)) else (xsI M1 v1 ((nI 70) + l1) (nI 1) fun M3 => (((nI 1) = 0 ∨ (nI 1) = 1) ∧ Q (some (.int (nI 1))) M3)))) else (((nI 0) = 0 ∨ (nI 0) = 1) ∧ Q (some (.int (nI 0))) M1))) : K_M_bar sa d Q 0 [some (.ref l0), some (.int l1), some (.int l2)] [] M u := by
  refine b_M_bar_0 ?_
  refine xEv_post' _ _ _ _ _ (xrI_mono (fun _ _ h => ?_)) h
  refine xite_mono (fun h => ?_) (fun h => ?_) h
  · refine b_M_bar_2 ?_
    refine xgfR_mono (fun _ h => ?_) h
    refine xite_mono (fun h => ?_) (fun h => ?_) h
    · refine b_M_bar_4 ?_
      exact b_M_bar_5 h
    · refine b_M_bar_3 ?_
      exact b_M_bar_5 h
  · exact b_M_bar_1 h
theorem t_M_bar {sa : Nat → Nat} {d : Nat} {Q : xQ} {l0 : Nat} {l1 : Int32} {l2 : Int32} {M : xM} (h : xEv xP (xprim sa) d m_M_isIn [.int l1, .int (nI 0), .int (nI 99)] M (xrI fun r1 M1 => if ¬ r1 = 0 then (xgfR M1 l0 12 0 fun v1 => (if l2 = 0 then (xsI M1 v1 ((nI 70) + l1) (nI 0) fun M2 => (((nI 1) = 0 ∨ (nI 1) = 1) ∧ Q (some (.int (nI 1))) M2)) else (xsI M1 v1 ((nI 70) + l1) (nI 1) fun M3 => (((nI 1) = 0 ∨ (nI 1) = 1) ∧ Q (some (.int (nI 1))) M3)))) else (((nI 0) = 0 ∨ (nI 0) = 1) ∧ Q (some (.int (nI 0))) M1))) : xEv xP (xprim sa) (d + 1) m_M_bar [.ref l0, .int l1, .int l2] M Q := e_M_bar (t_M_bar_0 h)
set_option maxRecDepth 100000 in
theorem t_M_four_0 {sa : Nat → Nat} {d : Nat} {Q : xQ} {l0 : Nat} {l1 : Int32} {M : xM} {u : xU} (h : K_M_four sa d Q 1 [some (.ref l0), some (.int l1), some (.int (nI 24))] [] M u) : K_M_four sa d Q 0 [some (.ref l0), some (.int l1), none] [] M u := b_M_four_0 h
set_option maxRecDepth 100000 in
theorem t_M_four_1 {sa : Nat → Nat} {d : Nat} {Q : xQ} {l0 : Nat} {l1 : Int32} {l2 : Int32} {M : xM} {u : xU} (h : if l2 < 0 then (Q none M) else (xgfR M l0 12 4 fun v1 => (xgfI M l0 12 5 fun v2 => (xsI M v1 v2 ((l1 >>> (l2 &&& 31)) &&& (nI 255)) fun M1 => (xgfI M1 l0 12 5 fun v3 => (xpf M1 l0 12 5 (.int (v3 + (nI 1))) fun M2 => (K_M_four sa d Q 1 [some (.ref l0), some (.int l1), some (.int (l2 + (-8 : Int32)))] [] M2 u))))))) : K_M_four sa d Q 1 [some (.ref l0), some (.int l1), some (.int l2)] [] M u := by
  refine b_M_four_1 ?_
  refine xite_mono (fun h => ?_) (fun h => ?_) h
  · exact b_M_four_3 h
  · exact b_M_four_2 h
theorem t_M_four {sa : Nat → Nat} {d : Nat} {Q : xQ} {l0 : Nat} {l1 : Int32} {M : xM} (h : K_M_four sa d Q 1 [some (.ref l0), some (.int l1), some (.int (nI 24))] [] M (0, 0)) : xEv xP (xprim sa) (d + 1) m_M_four [.ref l0, .int l1] M Q := e_M_four (t_M_four_0 h)
set_option maxRecDepth 100000 in
theorem t_M_feed_0 {sa : Nat → Nat} {d : Nat} {Q : xQ} {l0 : Nat} {l1 : Int32} {l2 : Int32} {l3 : Int32} {l4 : Int32} {l5 : Int32} {M : xM} {u : xU} (h : xgfI M l0 12 5 fun v1 => (if (v1 + (nI 20)) ≤ (nI 300) then (xobj M l0 12 ∧ xEv xP (xprim sa) d m_M_four [.ref l0, .int l1] M (xrV fun M1 => xobj M1 l0 12 ∧ xEv xP (xprim sa) d m_M_four [.ref l0, .int l2] M1 (xrV fun M2 => xobj M2 l0 12 ∧ xEv xP (xprim sa) d m_M_four [.ref l0, .int l3] M2 (xrV fun M3 => xobj M3 l0 12 ∧ xEv xP (xprim sa) d m_M_four [.ref l0, .int l4] M3 (xrV fun M4 => xobj M4 l0 12 ∧ xEv xP (xprim sa) d m_M_four [.ref l0, .int l5] M4 (xrV fun M5 => xgfI M5 l0 12 5 fun v2 => (Q (some (.int v2)) M5))))))) else (Q (some (.int (-1 : Int32))) M))) : K_M_feed sa d Q 0 [some (.ref l0), some (.int l1), some (.int l2), some (.int l3), some (.int l4), some (.int l5)] [] M u := by
  refine b_M_feed_0 ?_
  refine xgfI_mono (fun _ h => ?_) h
  refine xite_mono (fun h => ?_) (fun h => ?_) h
  · exact b_M_feed_2 h
  · exact b_M_feed_1 h
theorem t_M_feed {sa : Nat → Nat} {d : Nat} {Q : xQ} {l0 : Nat} {l1 : Int32} {l2 : Int32} {l3 : Int32} {l4 : Int32} {l5 : Int32} {M : xM} (h : xgfI M l0 12 5 fun v1 => (if (v1 + (nI 20)) ≤ (nI 300) then (xobj M l0 12 ∧ xEv xP (xprim sa) d m_M_four [.ref l0, .int l1] M (xrV fun M1 => xobj M1 l0 12 ∧ xEv xP (xprim sa) d m_M_four [.ref l0, .int l2] M1 (xrV fun M2 => xobj M2 l0 12 ∧ xEv xP (xprim sa) d m_M_four [.ref l0, .int l3] M2 (xrV fun M3 => xobj M3 l0 12 ∧ xEv xP (xprim sa) d m_M_four [.ref l0, .int l4] M3 (xrV fun M4 => xobj M4 l0 12 ∧ xEv xP (xprim sa) d m_M_four [.ref l0, .int l5] M4 (xrV fun M5 => xgfI M5 l0 12 5 fun v2 => (Q (some (.int v2)) M5))))))) else (Q (some (.int (-1 : Int32))) M))) : xEv xP (xprim sa) (d + 1) m_M_feed [.ref l0, .int l1, .int l2, .int l3, .int l4, .int l5] M Q := e_M_feed (t_M_feed_0 h)
set_option maxRecDepth 100000 in
theorem t_M_end_0 {sa : Nat → Nat} {d : Nat} {Q : xQ} {l0 : Nat} {l1 : Int32} {M : xM} {u : xU} (h : xgfI M l0 12 5 fun v1 => (xEv xP (xprim sa) d m_M_isIn [.int l1, .int (nI 0), .int v1] M (xrI fun r1 M1 => if ¬ r1 = 0 then (xpf M1 l0 12 5 (.int l1) fun M2 => (Q (some (.int l1)) M2)) else (Q (some (.int (-1 : Int32))) M1)))) : K_M_end sa d Q 0 [some (.ref l0), some (.int l1)] [] M u := by
  refine b_M_end_0 ?_
  refine xgfI_mono (fun _ h => ?_) h
  refine xEv_post' _ _ _ _ _ (xrI_mono (fun _ _ h => ?_)) h
  refine xite_mono (fun h => ?_) (fun h => ?_) h
  · exact b_M_end_2 h
  · exact b_M_end_1 h
theorem t_M_end {sa : Nat → Nat} {d : Nat} {Q : xQ} {l0 : Nat} {l1 : Int32} {M : xM} (h : xgfI M l0 12 5 fun v1 => (xEv xP (xprim sa) d m_M_isIn [.int l1, .int (nI 0), .int v1] M (xrI fun r1 M1 => if ¬ r1 = 0 then (xpf M1 l0 12 5 (.int l1) fun M2 => (Q (some (.int l1)) M2)) else (Q (some (.int (-1 : Int32))) M1)))) : xEv xP (xprim sa) (d + 1) m_M_end [.ref l0, .int l1] M Q := e_M_end (t_M_end_0 h)
set_option maxRecDepth 100000 in
theorem t_M_byteAt_0 {sa : Nat → Nat} {d : Nat} {Q : xQ} {l0 : Nat} {l1 : Int32} {M : xM} {u : xU} (h : xgfI M l0 12 5 fun v1 => (if v1 ≤ l1 then (Q (some (.int (-1 : Int32))) M) else (xgfR M l0 12 4 fun v2 => (xaI M v2 l1 fun v3 => (Q (some (.int v3)) M))))) : K_M_byteAt sa d Q 0 [some (.ref l0), some (.int l1)] [] M u := by
  refine b_M_byteAt_0 ?_
  refine xgfI_mono (fun _ h => ?_) h
  refine xite_mono (fun h => ?_) (fun h => ?_) h
  · refine b_M_byteAt_2 ?_
    exact b_M_byteAt_3 h
  · refine b_M_byteAt_1 ?_
    refine xgfR_mono (fun _ h => ?_) h
    refine xaI_mono (fun _ h => ?_) h
    exact b_M_byteAt_3 h
theorem t_M_byteAt {sa : Nat → Nat} {d : Nat} {Q : xQ} {l0 : Nat} {l1 : Int32} {M : xM} (h : xgfI M l0 12 5 fun v1 => (if v1 ≤ l1 then (Q (some (.int (-1 : Int32))) M) else (xgfR M l0 12 4 fun v2 => (xaI M v2 l1 fun v3 => (Q (some (.int v3)) M))))) : xEv xP (xprim sa) (d + 1) m_M_byteAt [.ref l0, .int l1] M Q := e_M_byteAt (t_M_byteAt_0 h)
set_option maxRecDepth 100000 in
theorem t_M_isLetter_0 {sa : Nat → Nat} {d : Nat} {Q : xQ} {l0 : Int32} {M : xM} {u : xU} (h : xEv xP (xprim sa) d m_M_isIn [.int l0, .int (nI 97), .int (nI 122)] M (xrI fun r1 M1 => if ¬ r1 = 0 then (((nI 1) = 0 ∨ (nI 1) = 1) ∧ Q (some (.int (nI 1))) M1) else (xEv xP (xprim sa) d m_M_isIn [.int l0, .int (nI 65), .int (nI 90)] M1 (xrI fun r2 M2 => if r2 = 0 then (((nI 0) = 0 ∨ (nI 0) = 1) ∧ Q (some (.int (nI 0))) M2) else (((nI 1) = 0 ∨ (nI 1) = 1) ∧ Q (some (.int (nI 1))) M2))))) : K_M_isLetter sa d Q 0 [some (.int l0)] [] M u := by
  refine b_M_isLetter_0 ?_
  refine xEv_post' _ _ _ _ _ (xrI_mono (fun _ _ h => ?_)) h
  refine xite_mono (fun h => ?_) (fun h => ?_) h
  · refine b_M_isLetter_2 ?_
    exact b_M_isLetter_4 h
  · refine b_M_isLetter_1 ?_
    refine xEv_post' _ _ _ _ _ (xrI_mono (fun _ _ h => ?_)) h
    refine xite_mono (fun h => ?_) (fun h => ?_) h
    · refine b_M_isLetter_3 ?_
      exact b_M_isLetter_4 h
    · refine b_M_isLetter_2 ?_
      exact b_M_isLetter_4 h
theorem t_M_isLetter {sa : Nat → Nat} {d : Nat} {Q : xQ} {l0 : Int32} {M : xM} (h : xEv xP (xprim sa) d m_M_isIn [.int l0, .int (nI 97), .int (nI 122)] M (xrI fun r1 M1 => if ¬ r1 = 0 then (((nI 1) = 0 ∨ (nI 1) = 1) ∧ Q (some (.int (nI 1))) M1) else (xEv xP (xprim sa) d m_M_isIn [.int l0, .int (nI 65), .int (nI 90)] M1 (xrI fun r2 M2 => if r2 = 0 then (((nI 0) = 0 ∨ (nI 0) = 1) ∧ Q (some (.int (nI 0))) M2) else (((nI 1) = 0 ∨ (nI 1) = 1) ∧ Q (some (.int (nI 1))) M2))))) : xEv xP (xprim sa) (d + 1) m_M_isLetter [.int l0] M Q := e_M_isLetter (t_M_isLetter_0 h)
set_option maxRecDepth 100000 in
theorem t_M_isDigit_0 {sa : Nat → Nat} {d : Nat} {Q : xQ} {l0 : Int32} {M : xM} {u : xU} (h : xEv xP (xprim sa) d m_M_isIn [.int l0, .int (nI 48), .int (nI 57)] M (xrI fun r1 M1 => (r1 = 0 ∨ r1 = 1) ∧ Q (some (.int r1)) M1)) : K_M_isDigit sa d Q 0 [some (.int l0)] [] M u := b_M_isDigit_0 h
theorem t_M_isDigit {sa : Nat → Nat} {d : Nat} {Q : xQ} {l0 : Int32} {M : xM} (h : xEv xP (xprim sa) d m_M_isIn [.int l0, .int (nI 48), .int (nI 57)] M (xrI fun r1 M1 => (r1 = 0 ∨ r1 = 1) ∧ Q (some (.int r1)) M1)) : xEv xP (xprim sa) (d + 1) m_M_isDigit [.int l0] M Q := e_M_isDigit (t_M_isDigit_0 h)
set_option maxRecDepth 100000 in
theorem t_M_nextToken_0 {sa : Nat → Nat} {d : Nat} {Q : xQ} {l0 : Nat} {M : xM} {u : xU} (h : xgfI M l0 12 8 fun v1 => (xobj M l0 12 ∧ xEv xP (xprim sa) d m_M_byteAt [.ref l0, .int v1] M (xrI fun r1 M1 => if r1 = (nI 32) then (xgfI M1 l0 12 8 fun v2 => (xpf M1 l0 12 8 (.int (v2 + (nI 1))) fun M2 => (K_M_nextToken sa d Q 0 [some (.ref l0), none, none] [] M2 u))) else (xgfI M1 l0 12 8 fun v3 => (xobj M1 l0 12 ∧ xEv xP (xprim sa) d m_M_byteAt [.ref l0, .int v3] M1 (xrI fun r2 M3 => if ¬ r2 = (nI 10) then (xgfI M3 l0 12 8 fun v4 => (xpf M3 l0 12 9 (.int v4) fun M4 => (xgfI M4 l0 12 8 fun v5 => (xobj M4 l0 12 ∧ xEv xP (xprim sa) d m_M_byteAt [.ref l0, .int v5] M4 (xrI fun r3 M5 => if 0 ≤ r3 then (xEv xP (xprim sa) d m_M_isDigit [.int r3] M5 (xrI fun r4 M6 => if r4 = 0 then (xEv xP (xprim sa) d m_M_isLetter [.int r3] M6 (xrI fun r5 M7 => if r5 = 0 then (xgfI M7 l0 12 8 fun v6 => (xpf M7 l0 12 8 (.int (v6 + (nI 1))) fun M8 => (if r3 = (nI 60) then K_M_nextToken sa d Q 33 [some (.ref l0), some (.int r3), none] [] M8 u else (if r3 = (nI 62) then K_M_nextToken sa d Q 33 [some (.ref l0), some (.int r3), none] [] M8 u else (if r3 = (nI 61) then K_M_nextToken sa d Q 33 [some (.ref l0), some (.int r3), none] [] M8 u else (if r3 = (nI 35) then K_M_nextToken sa d Q 33 [some (.ref l0), some (.int r3), none] [] M8 u else (if r3 = (nI 43) then K_M_nextToken sa d Q 33 [some (.ref l0), some (.int r3), none] [] M8 u else (if r3 = (nI 45) then K_M_nextToken sa d Q 33 [some (.ref l0), some (.int r3), none] [] M8 u else (if r3 = (nI 42) then K_M_nextToken sa d Q 33 [some (.ref l0), some (.int r3), none] [] M8 u else (if r3 = (nI 47) then K_M_nextToken sa d Q 33 [some (.ref l0), some (.int r3), none] [] M8 u else (if r3 = (nI 40) then K_M_nextToken sa d Q 33 [some (.ref l0), some (.int r3), none] [] M8 u else (if r3 = (nI 41) then K_M_nextToken sa d Q 33 [some (.ref l0), some (.int r3), none] [] M8 u else (if r3 = (nI 59) then K_M_nextToken sa d Q 33 [some (.ref l0), some (.int r3), none] [] M8 u else (if r3 = (nI 44) then K_M_nextToken sa d Q 33 [some (.ref l0), some (.int r3), none] [] M8 u else (if r3 = (nI 63) then K_M_nextToken sa d Q 33 [some (.ref l0), some (.int r3), none] [] M8 u else (if ¬ r3 = (nI 58) then K_M_nextToken sa d Q 35 [some (.ref l0), some (.int r3), none] [.int (nI 0)] M8 u else K_M_nextToken sa d Q 33 [some (.ref l0), some (.int r3), none] [] M8 u)))))))))))))))) else (xpf M7 l0 12 10 (.int (nI 2)) fun M9 => (xpf M9 l0 12 12 (.long (0 : Int64)) fun M10 => (K_M_nextToken sa d Q 13 [some (.ref l0), none, none] [] M10 u))))) else (xpf M6 l0 12 10 (.int (nI 1)) fun M11 => (xpf M11 l0 12 11 (.int (nI 0)) fun M12 => (K_M_nextToken sa d Q 7 [some (.ref l0), none, none] [] M12 u))))) else (xpf M5 l0 12 10 (.int (nI 0)) fun M13 => (Q none M13))))))) else (xgfI M3 l0 12 8 fun v7 => (xpf M3 l0 12 8 (.int (v7 + (nI 1))) fun M14 => (K_M_nextToken sa d Q 0 [some (.ref l0), none, none] [] M14 u))))))))) : K_M_nextToken sa d Q 0 [some (.ref l0), none, none] [] M u := by
  refine b_M_nextToken_0 ?_
  refine xgfI_mono (fun _ h => ?_) h
  obtain ⟨hz, h⟩ := h
  refine ⟨hz, ?_⟩
  refine xEv_post' _ _ _ _ _ (xrI_mono (fun _ _ h => ?_)) h
  refine xite_mono (fun h => ?_) (fun h => ?_) h
  · exact b_M_nextToken_2 h
  · refine b_M_nextToken_1 ?_
    refine xgfI_mono (fun _ h => ?_) h
    obtain ⟨hz, h⟩ := h
    refine ⟨hz, ?_⟩
    refine xEv_post' _ _ _ _ _ (xrI_mono (fun _ _ h => ?_)) h
    refine xite_mono (fun h => ?_) (fun h => ?_) h
    · refine b_M_nextToken_3 ?_
      refine xgfI_mono (fun _ h => ?_) h
      refine xpf_mono (fun _ h => ?_) h
      refine xgfI_mono (fun _ h => ?_) h
      obtain ⟨hz, h⟩ := h
      refine ⟨hz, ?_⟩
      refine xEv_post' _ _ _ _ _ (xrI_mono (fun _ _ h => ?_)) h
      refine xite_mono (fun h => ?_) (fun h => ?_) h
      · refine b_M_nextToken_5 ?_
        refine xEv_post' _ _ _ _ _ (xrI_mono (fun _ _ h => ?_)) h
        refine xite_mono (fun h => ?_) (fun h => ?_) h
        · refine b_M_nextToken_11 ?_
          refine xEv_post' _ _ _ _ _ (xrI_mono (fun _ _ h => ?_)) h
          refine xite_mono (fun h => ?_) (fun h => ?_) h
          · refine b_M_nextToken_19 ?_
            refine xgfI_mono (fun _ h => ?_) h
            refine xpf_mono (fun _ h => ?_) h
            refine xite_mono (fun h => ?_) (fun h => ?_) h
            · exact h
            · refine b_M_nextToken_20 ?_
              refine xite_mono (fun h => ?_) (fun h => ?_) h
              · exact h
              · refine b_M_nextToken_21 ?_
                refine xite_mono (fun h => ?_) (fun h => ?_) h
                · exact h
                · refine b_M_nextToken_22 ?_
                  refine xite_mono (fun h => ?_) (fun h => ?_) h
                  · exact h
                  · refine b_M_nextToken_23 ?_
                    refine xite_mono (fun h => ?_) (fun h => ?_) h
                    · exact h
                    · refine b_M_nextToken_24 ?_
                      refine xite_mono (fun h => ?_) (fun h => ?_) h
                      · exact h
                      · refine b_M_nextToken_25 ?_
                        refine xite_mono (fun h => ?_) (fun h => ?_) h
                        · exact h
                        · refine b_M_nextToken_26 ?_
                          refine xite_mono (fun h => ?_) (fun h => ?_) h
                          · exact h
                          · refine b_M_nextToken_27 ?_
                            refine xite_mono (fun h => ?_) (fun h => ?_) h
                            · exact h
                            · refine b_M_nextToken_28 ?_
                              refine xite_mono (fun h => ?_) (fun h => ?_) h
                              · exact h
                              · refine b_M_nextToken_29 ?_
                                refine xite_mono (fun h => ?_) (fun h => ?_) h
                                · exact h
                                · refine b_M_nextToken_30 ?_
                                  refine xite_mono (fun h => ?_) (fun h => ?_) h
                                  · exact h
                                  · refine b_M_nextToken_31 ?_
                                    refine xite_mono (fun h => ?_) (fun h => ?_) h
                                    · exact h
                                    · refine b_M_nextToken_32 ?_
                                      refine xite_mono (fun h => ?_) (fun h => ?_) h
                                      · exact b_M_nextToken_34 h
                                      · exact h
          · exact b_M_nextToken_12 h
        · exact b_M_nextToken_6 h
      · refine b_M_nextToken_4 ?_
        refine xpf_mono (fun _ h => ?_) h
        exact b_M_nextToken_45 h
    · exact b_M_nextToken_2 h
set_option maxRecDepth 100000 in
theorem t_M_nextToken_7 {sa : Nat → Nat} {d : Nat} {Q : xQ} {l0 : Nat} {M : xM} {u : xU} (h : xgfI M l0 12 8 fun v1 => (xobj M l0 12 ∧ xEv xP (xprim sa) d m_M_byteAt [.ref l0, .int v1] M (xrI fun r1 M1 => xEv xP (xprim sa) d m_M_isDigit [.int r1] M1 (xrI fun r2 M2 => if r2 = 0 then (Q none M2) else (xgfI M2 l0 12 11 fun v2 => (if (nI 100000) ≤ v2 then (xgfI M2 l0 12 8 fun v3 => (xpf M2 l0 12 8 (.int (v3 + (nI 1))) fun M3 => (K_M_nextToken sa d Q 7 [some (.ref l0), none, none] [] M3 u))) else (xgfI M2 l0 12 11 fun v4 => (xgfI M2 l0 12 8 fun v5 => (xobj M2 l0 12 ∧ xEv xP (xprim sa) d m_M_byteAt [.ref l0, .int v5] M2 (xrI fun r3 M4 => xpf M4 l0 12 11 (.int ((((nI 10) * v4) + r3) - (nI 48))) fun M5 => (xgfI M5 l0 12 8 fun v6 => (xpf M5 l0 12 8 (.int (v6 + (nI 1))) fun M6 => (K_M_nextToken sa d Q 7 [some (.ref l0), none, none] [] M6 u))))))))))))) : K_M_nextToken sa d Q 7 [some (.ref l0), none, none] [] M u := by
  refine b_M_nextToken_7 ?_
  refine xgfI_mono (fun _ h => ?_) h
  obtain ⟨hz, h⟩ := h
  refine ⟨hz, ?_⟩
  refine xEv_post' _ _ _ _ _ (xrI_mono (fun _ _ h => ?_)) h
  refine xEv_post' _ _ _ _ _ (xrI_mono (fun _ _ h => ?_)) h
  refine xite_mono (fun h => ?_) (fun h => ?_) h
  · exact b_M_nextToken_45 h
  · refine b_M_nextToken_8 ?_
    refine xgfI_mono (fun _ h => ?_) h
    refine xite_mono (fun h => ?_) (fun h => ?_) h
    · exact b_M_nextToken_10 h
    · refine b_M_nextToken_9 ?_
      refine xgfI_mono (fun _ h => ?_) h
      refine xgfI_mono (fun _ h => ?_) h
      obtain ⟨hz, h⟩ := h
      refine ⟨hz, ?_⟩
      refine xEv_post' _ _ _ _ _ (xrI_mono (fun _ _ h => ?_)) h
      refine xpf_mono (fun _ h => ?_) h
      exact b_M_nextToken_10 h
set_option maxRecDepth 100000 in
theorem t_M_nextToken_13 {sa : Nat → Nat} {d : Nat} {Q : xQ} {l0 : Nat} {M : xM} {u : xU} (h : xgfI M l0 12 8 fun v1 => (xobj M l0 12 ∧ xEv xP (xprim sa) d m_M_byteAt [.ref l0, .int v1] M (xrI fun r1 M1 => xEv xP (xprim sa) d m_M_isLetter [.int r1] M1 (xrI fun r2 M2 => if r2 = 0 then (xgfI M2 l0 12 8 fun v2 => (xgfI M2 l0 12 9 fun v3 => (if (v2 - v3) ≤ (nI 7) then (Q none M2) else (xpf M2 l0 12 12 (.long (0 : Int64)) fun M3 => (Q none M3))))) else (xgfI M2 l0 12 8 fun v4 => (xgfI M2 l0 12 9 fun v5 => (if (nI 7) ≤ (v4 - v5) then (xgfI M2 l0 12 8 fun v6 => (xpf M2 l0 12 8 (.int (v6 + (nI 1))) fun M4 => (K_M_nextToken sa d Q 13 [some (.ref l0), none, none] [] M4 u))) else (xgfL M2 l0 12 12 fun v7 => (xgfI M2 l0 12 8 fun v8 => (xobj M2 l0 12 ∧ xEv xP (xprim sa) d m_M_byteAt [.ref l0, .int v8] M2 (xrI fun r3 M5 => xpf M5 l0 12 12 (.long ((v7 <<< ((nI 8).toInt64 &&& 63)) ||| r3.toInt64)) fun M6 => (xgfI M6 l0 12 8 fun v9 => (xpf M6 l0 12 8 (.int (v9 + (nI 1))) fun M7 => (K_M_nextToken sa d Q 13 [some (.ref l0), none, none] [] M7 u)))))))))))))) : K_M_nextToken sa d Q 13 [some (.ref l0), none, none] [] M u := by
  refine b_M_nextToken_13 ?_
  refine xgfI_mono (fun _ h => ?_) h
  obtain ⟨hz, h⟩ := h
  refine ⟨hz, ?_⟩
  refine xEv_post' _ _ _ _ _ (xrI_mono (fun _ _ h => ?_)) h
  refine xEv_post' _ _ _ _ _ (xrI_mono (fun _ _ h => ?_)) h
  refine xite_mono (fun h => ?_) (fun h => ?_) h
  · refine b_M_nextToken_17 ?_
    refine xgfI_mono (fun _ h => ?_) h
    refine xgfI_mono (fun _ h => ?_) h
    refine xite_mono (fun h => ?_) (fun h => ?_) h
    · exact b_M_nextToken_45 h
    · refine b_M_nextToken_18 ?_
      refine xpf_mono (fun _ h => ?_) h
      exact b_M_nextToken_45 h
  · refine b_M_nextToken_14 ?_
    refine xgfI_mono (fun _ h => ?_) h
    refine xgfI_mono (fun _ h => ?_) h
    refine xite_mono (fun h => ?_) (fun h => ?_) h
    · exact b_M_nextToken_16 h
    · refine b_M_nextToken_15 ?_
      refine xgfL_mono (fun _ h => ?_) h
      refine xgfI_mono (fun _ h => ?_) h
      obtain ⟨hz, h⟩ := h
      refine ⟨hz, ?_⟩
      refine xEv_post' _ _ _ _ _ (xrI_mono (fun _ _ h => ?_)) h
      refine xpf_mono (fun _ h => ?_) h
      exact b_M_nextToken_16 h
set_option maxRecDepth 100000 in
theorem t_M_nextToken_33 {sa : Nat → Nat} {d : Nat} {Q : xQ} {l0 : Nat} {l1 : Int32} {M : xM} {u : xU} (h : K_M_nextToken sa d Q 35 [some (.ref l0), some (.int l1), none] [.int (nI 1)] M u) : K_M_nextToken sa d Q 33 [some (.ref l0), some (.int l1), none] [] M u := b_M_nextToken_33 h
set_option maxRecDepth 100000 in
theorem t_M_nextToken_35 {sa : Nat → Nat} {d : Nat} {Q : xQ} {l0 : Nat} {l1 : Int32} {s0 : Int32} {M : xM} {u : xU} (h : if s0 = 0 then K_M_nextToken sa d Q 38 [some (.ref l0), some (.int l1), none] [.int (nI 3), .ref l0] M u else K_M_nextToken sa d Q 38 [some (.ref l0), some (.int l1), none] [.int l1, .ref l0] M u) : K_M_nextToken sa d Q 35 [some (.ref l0), some (.int l1), none] [.int s0] M u := by
  refine b_M_nextToken_35 ?_
  refine xite_mono (fun h => ?_) (fun h => ?_) h
  · exact b_M_nextToken_37 h
  · exact b_M_nextToken_36 h
set_option maxRecDepth 100000 in
theorem t_M_nextToken_38 {sa : Nat → Nat} {d : Nat} {Q : xQ} {l0 : Nat} {l1 : Int32} {s0 : Int32} {s1 : Nat} {M : xM} {u : xU} (h : xpf M s1 12 10 (.int s0) fun M1 => (if l1 = (nI 60) then K_M_nextToken sa d Q 40 [some (.ref l0), some (.int l1), none] [] M1 u else (if ¬ l1 = (nI 62) then (Q none M1) else K_M_nextToken sa d Q 40 [some (.ref l0), some (.int l1), none] [] M1 u))) : K_M_nextToken sa d Q 38 [some (.ref l0), some (.int l1), none] [.int s0, .ref s1] M u := by
  refine b_M_nextToken_38 ?_
  refine xpf_mono (fun _ h => ?_) h
  refine xite_mono (fun h => ?_) (fun h => ?_) h
  · exact h
  · refine b_M_nextToken_39 ?_
    refine xite_mono (fun h => ?_) (fun h => ?_) h
    · exact b_M_nextToken_45 h
    · exact h
set_option maxRecDepth 100000 in
theorem t_M_nextToken_40 {sa : Nat → Nat} {d : Nat} {Q : xQ} {l0 : Nat} {l1 : Int32} {M : xM} {u : xU} (h : xgfI M l0 12 8 fun v1 => (xobj M l0 12 ∧ xEv xP (xprim sa) d m_M_byteAt [.ref l0, .int v1] M (xrI fun r1 M1 => if ¬ r1 = (nI 61) then (Q none M1) else (xgfI M1 l0 12 8 fun v2 => (xpf M1 l0 12 8 (.int (v2 + (nI 1))) fun M2 => (if ¬ l1 = (nI 60) then (xpf M2 l0 12 10 (.int (nI 5)) fun M3 => (Q none M3)) else (xpf M2 l0 12 10 (.int (nI 4)) fun M4 => (Q none M4)))))))) : K_M_nextToken sa d Q 40 [some (.ref l0), some (.int l1), none] [] M u := by
  refine b_M_nextToken_40 ?_
  refine xgfI_mono (fun _ h => ?_) h
  obtain ⟨hz, h⟩ := h
  refine ⟨hz, ?_⟩
  refine xEv_post' _ _ _ _ _ (xrI_mono (fun _ _ h => ?_)) h
  refine xite_mono (fun h => ?_) (fun h => ?_) h
  · exact b_M_nextToken_45 h
  · refine b_M_nextToken_41 ?_
    refine xgfI_mono (fun _ h => ?_) h
    refine xpf_mono (fun _ h => ?_) h
    refine xite_mono (fun h => ?_) (fun h => ?_) h
    · refine b_M_nextToken_43 ?_
      refine b_M_nextToken_44 ?_
      refine xpf_mono (fun _ h => ?_) h
      exact b_M_nextToken_45 h
    · refine b_M_nextToken_42 ?_
      refine b_M_nextToken_44 ?_
      refine xpf_mono (fun _ h => ?_) h
      exact b_M_nextToken_45 h
theorem t_M_nextToken {sa : Nat → Nat} {d : Nat} {Q : xQ} {l0 : Nat} {M : xM} (h : xgfI M l0 12 8 fun v1 => (xobj M l0 12 ∧ xEv xP (xprim sa) d m_M_byteAt [.ref l0, .int v1] M (xrI fun r1 M1 => if r1 = (nI 32) then (xgfI M1 l0 12 8 fun v2 => (xpf M1 l0 12 8 (.int (v2 + (nI 1))) fun M2 => (K_M_nextToken sa d Q 0 [some (.ref l0), none, none] [] M2 (0, 0)))) else (xgfI M1 l0 12 8 fun v3 => (xobj M1 l0 12 ∧ xEv xP (xprim sa) d m_M_byteAt [.ref l0, .int v3] M1 (xrI fun r2 M3 => if ¬ r2 = (nI 10) then (xgfI M3 l0 12 8 fun v4 => (xpf M3 l0 12 9 (.int v4) fun M4 => (xgfI M4 l0 12 8 fun v5 => (xobj M4 l0 12 ∧ xEv xP (xprim sa) d m_M_byteAt [.ref l0, .int v5] M4 (xrI fun r3 M5 => if 0 ≤ r3 then (xEv xP (xprim sa) d m_M_isDigit [.int r3] M5 (xrI fun r4 M6 => if r4 = 0 then (xEv xP (xprim sa) d m_M_isLetter [.int r3] M6 (xrI fun r5 M7 => if r5 = 0 then (xgfI M7 l0 12 8 fun v6 => (xpf M7 l0 12 8 (.int (v6 + (nI 1))) fun M8 => (if r3 = (nI 60) then K_M_nextToken sa d Q 33 [some (.ref l0), some (.int r3), none] [] M8 (0, 0) else (if r3 = (nI 62) then K_M_nextToken sa d Q 33 [some (.ref l0), some (.int r3), none] [] M8 (0, 0) else (if r3 = (nI 61) then K_M_nextToken sa d Q 33 [some (.ref l0), some (.int r3), none] [] M8 (0, 0) else (if r3 = (nI 35) then K_M_nextToken sa d Q 33 [some (.ref l0), some (.int r3), none] [] M8 (0, 0) else (if r3 = (nI 43) then K_M_nextToken sa d Q 33 [some (.ref l0), some (.int r3), none] [] M8 (0, 0) else (if r3 = (nI 45) then K_M_nextToken sa d Q 33 [some (.ref l0), some (.int r3), none] [] M8 (0, 0) else (if r3 = (nI 42) then K_M_nextToken sa d Q 33 [some (.ref l0), some (.int r3), none] [] M8 (0, 0) else (if r3 = (nI 47) then K_M_nextToken sa d Q 33 [some (.ref l0), some (.int r3), none] [] M8 (0, 0) else (if r3 = (nI 40) then K_M_nextToken sa d Q 33 [some (.ref l0), some (.int r3), none] [] M8 (0, 0) else (if r3 = (nI 41) then K_M_nextToken sa d Q 33 [some (.ref l0), some (.int r3), none] [] M8 (0, 0) else (if r3 = (nI 59) then K_M_nextToken sa d Q 33 [some (.ref l0), some (.int r3), none] [] M8 (0, 0) else (if r3 = (nI 44) then K_M_nextToken sa d Q 33 [some (.ref l0), some (.int r3), none] [] M8 (0, 0) else (if r3 = (nI 63) then K_M_nextToken sa d Q 33 [some (.ref l0), some (.int r3), none] [] M8 (0, 0) else (if ¬ r3 = (nI 58) then K_M_nextToken sa d Q 35 [some (.ref l0), some (.int r3), none] [.int (nI 0)] M8 (0, 0) else K_M_nextToken sa d Q 33 [some (.ref l0), some (.int r3), none] [] M8 (0, 0))))))))))))))))) else (xpf M7 l0 12 10 (.int (nI 2)) fun M9 => (xpf M9 l0 12 12 (.long (0 : Int64)) fun M10 => (K_M_nextToken sa d Q 13 [some (.ref l0), none, none] [] M10 (0, 0)))))) else (xpf M6 l0 12 10 (.int (nI 1)) fun M11 => (xpf M11 l0 12 11 (.int (nI 0)) fun M12 => (K_M_nextToken sa d Q 7 [some (.ref l0), none, none] [] M12 (0, 0)))))) else (xpf M5 l0 12 10 (.int (nI 0)) fun M13 => (Q none M13))))))) else (xgfI M3 l0 12 8 fun v7 => (xpf M3 l0 12 8 (.int (v7 + (nI 1))) fun M14 => (K_M_nextToken sa d Q 0 [some (.ref l0), none, none] [] M14 (0, 0)))))))))) : xEv xP (xprim sa) (d + 1) m_M_nextToken [.ref l0] M Q := e_M_nextToken (t_M_nextToken_0 h)
set_option maxRecDepth 100000 in
theorem t_M_w3_0 {sa : Nat → Nat} {d : Nat} {Q : xQ} {l0 : Int32} {l1 : Int32} {l2 : Int32} {M : xM} {u : xU} (h : Q (some (.long ((((l0.toInt64 <<< ((nI 8).toInt64 &&& 63)) ||| l1.toInt64) <<< ((nI 8).toInt64 &&& 63)) ||| l2.toInt64))) M) : K_M_w3 sa d Q 0 [some (.int l0), some (.int l1), some (.int l2)] [] M u := b_M_w3_0 h
theorem t_M_w3 {sa : Nat → Nat} {d : Nat} {Q : xQ} {l0 : Int32} {l1 : Int32} {l2 : Int32} {M : xM} (h : Q (some (.long ((((l0.toInt64 <<< ((nI 8).toInt64 &&& 63)) ||| l1.toInt64) <<< ((nI 8).toInt64 &&& 63)) ||| l2.toInt64))) M) : xEv xP (xprim sa) (d + 1) m_M_w3 [.int l0, .int l1, .int l2] M Q := e_M_w3 (t_M_w3_0 h)
set_option maxRecDepth 100000 in
theorem t_M_w5_0 {sa : Nat → Nat} {d : Nat} {Q : xQ} {l0 : Int32} {l1 : Int32} {l2 : Int32} {l3 : Int32} {l4 : Int32} {M : xM} {u : xU} (h : xEv xP (xprim sa) d m_M_w3 [.int l0, .int l1, .int l2] M (xrL fun r1 M1 => Q (some (.long ((((r1 <<< ((nI 8).toInt64 &&& 63)) ||| l3.toInt64) <<< ((nI 8).toInt64 &&& 63)) ||| l4.toInt64))) M1)) : K_M_w5 sa d Q 0 [some (.int l0), some (.int l1), some (.int l2), some (.int l3), some (.int l4)] [] M u := b_M_w5_0 h
theorem t_M_w5 {sa : Nat → Nat} {d : Nat} {Q : xQ} {l0 : Int32} {l1 : Int32} {l2 : Int32} {l3 : Int32} {l4 : Int32} {M : xM} (h : xEv xP (xprim sa) d m_M_w3 [.int l0, .int l1, .int l2] M (xrL fun r1 M1 => Q (some (.long ((((r1 <<< ((nI 8).toInt64 &&& 63)) ||| l3.toInt64) <<< ((nI 8).toInt64 &&& 63)) ||| l4.toInt64))) M1)) : xEv xP (xprim sa) (d + 1) m_M_w5 [.int l0, .int l1, .int l2, .int l3, .int l4] M Q := e_M_w5 (t_M_w5_0 h)
set_option maxRecDepth 100000 in
theorem t_M_w4_0 {sa : Nat → Nat} {d : Nat} {Q : xQ} {l0 : Int32} {l1 : Int32} {l2 : Int32} {l3 : Int32} {M : xM} {u : xU} (h : xEv xP (xprim sa) d m_M_w3 [.int l0, .int l1, .int l2] M (xrL fun r1 M1 => Q (some (.long ((r1 <<< ((nI 8).toInt64 &&& 63)) ||| l3.toInt64))) M1)) : K_M_w4 sa d Q 0 [some (.int l0), some (.int l1), some (.int l2), some (.int l3)] [] M u := b_M_w4_0 h
theorem t_M_w4 {sa : Nat → Nat} {d : Nat} {Q : xQ} {l0 : Int32} {l1 : Int32} {l2 : Int32} {l3 : Int32} {M : xM} (h : xEv xP (xprim sa) d m_M_w3 [.int l0, .int l1, .int l2] M (xrL fun r1 M1 => Q (some (.long ((r1 <<< ((nI 8).toInt64 &&& 63)) ||| l3.toInt64))) M1)) : xEv xP (xprim sa) (d + 1) m_M_w4 [.int l0, .int l1, .int l2, .int l3] M Q := e_M_w4 (t_M_w4_0 h)
set_option maxRecDepth 100000 in
theorem t_M_isWord_0 {sa : Nat → Nat} {d : Nat} {Q : xQ} {l0 : Nat} {l1 : Int64} {M : xM} {u : xU} (h : xgfI M l0 12 10 fun v1 => (if ¬ v1 = (nI 2) then (((nI 0) = 0 ∨ (nI 0) = 1) ∧ Q (some (.int (nI 0))) M) else (xgfL M l0 12 12 fun v2 => (if ¬ (lg_cmp v2 l1) = 0 then (((nI 0) = 0 ∨ (nI 0) = 1) ∧ Q (some (.int (nI 0))) M) else (((nI 1) = 0 ∨ (nI 1) = 1) ∧ Q (some (.int (nI 1))) M))))) : K_M_isWord sa d Q 0 [some (.ref l0), some (.long l1), none] [] M u := by
  refine b_M_isWord_0 ?_
  refine xgfI_mono (fun _ h => ?_) h
  refine xite_mono (fun h => ?_) (fun h => ?_) h
  · refine b_M_isWord_3 ?_
    exact b_M_isWord_4 h
  · refine b_M_isWord_1 ?_
    refine xgfL_mono (fun _ h => ?_) h
    refine xite_mono (fun h => ?_) (fun h => ?_) h
    · refine b_M_isWord_3 ?_
      exact b_M_isWord_4 h
    · refine b_M_isWord_2 ?_
      exact b_M_isWord_4 h
theorem t_M_isWord {sa : Nat → Nat} {d : Nat} {Q : xQ} {l0 : Nat} {l1 : Int64} {M : xM} (h : xgfI M l0 12 10 fun v1 => (if ¬ v1 = (nI 2) then (((nI 0) = 0 ∨ (nI 0) = 1) ∧ Q (some (.int (nI 0))) M) else (xgfL M l0 12 12 fun v2 => (if ¬ (lg_cmp v2 l1) = 0 then (((nI 0) = 0 ∨ (nI 0) = 1) ∧ Q (some (.int (nI 0))) M) else (((nI 1) = 0 ∨ (nI 1) = 1) ∧ Q (some (.int (nI 1))) M))))) : xEv xP (xprim sa) (d + 1) m_M_isWord [.ref l0, .long l1] M Q := e_M_isWord (t_M_isWord_0 h)
set_option maxRecDepth 100000 in
theorem t_M_emit_0 {sa : Nat → Nat} {d : Nat} {Q : xQ} {l0 : Nat} {l1 : Int32} {l2 : Int32} {M : xM} {u : xU} (h : xgfR M l0 12 3 fun v1 => (xgfI M l0 12 13 fun v2 => (xgfI M l0 12 15 fun v3 => (xsI M v1 ((v2 + (nI 40)) + ((nI 2) * v3)) l1 fun M1 => (xgfR M1 l0 12 3 fun v4 => (xgfI M1 l0 12 13 fun v5 => (xgfI M1 l0 12 15 fun v6 => (xsI M1 v4 (((v5 + (nI 40)) + ((nI 2) * v6)) + (nI 1)) l2 fun M2 => (xgfI M2 l0 12 15 fun v7 => (xpf M2 l0 12 15 (.int (v7 + (nI 1))) fun M3 => (Q none M3))))))))))) : K_M_emit sa d Q 0 [some (.ref l0), some (.int l1), some (.int l2)] [] M u := b_M_emit_0 h
theorem t_M_emit {sa : Nat → Nat} {d : Nat} {Q : xQ} {l0 : Nat} {l1 : Int32} {l2 : Int32} {M : xM} (h : xgfR M l0 12 3 fun v1 => (xgfI M l0 12 13 fun v2 => (xgfI M l0 12 15 fun v3 => (xsI M v1 ((v2 + (nI 40)) + ((nI 2) * v3)) l1 fun M1 => (xgfR M1 l0 12 3 fun v4 => (xgfI M1 l0 12 13 fun v5 => (xgfI M1 l0 12 15 fun v6 => (xsI M1 v4 (((v5 + (nI 40)) + ((nI 2) * v6)) + (nI 1)) l2 fun M2 => (xgfI M2 l0 12 15 fun v7 => (xpf M2 l0 12 15 (.int (v7 + (nI 1))) fun M3 => (Q none M3))))))))))) : xEv xP (xprim sa) (d + 1) m_M_emit [.ref l0, .int l1, .int l2] M Q := e_M_emit (t_M_emit_0 h)
set_option maxRecDepth 100000 in
theorem t_M_push_0 {sa : Nat → Nat} {d : Nat} {Q : xQ} {l0 : Nat} {l1 : Int32} {M : xM} {u : xU} (h : xgfR M l0 12 17 fun v1 => (xgfI M l0 12 18 fun v2 => (xsI M v1 v2 l1 fun M1 => (xgfI M1 l0 12 18 fun v3 => (xpf M1 l0 12 18 (.int (v3 + (nI 1))) fun M2 => (Q none M2)))))) : K_M_push sa d Q 0 [some (.ref l0), some (.int l1)] [] M u := b_M_push_0 h
theorem t_M_push {sa : Nat → Nat} {d : Nat} {Q : xQ} {l0 : Nat} {l1 : Int32} {M : xM} (h : xgfR M l0 12 17 fun v1 => (xgfI M l0 12 18 fun v2 => (xsI M v1 v2 l1 fun M1 => (xgfI M1 l0 12 18 fun v3 => (xpf M1 l0 12 18 (.int (v3 + (nI 1))) fun M2 => (Q none M2)))))) : xEv xP (xprim sa) (d + 1) m_M_push [.ref l0, .int l1] M Q := e_M_push (t_M_push_0 h)
set_option maxRecDepth 100000 in
theorem t_M_rank_0 {sa : Nat → Nat} {d : Nat} {Q : xQ} {l0 : Int32} {M : xM} {u : xU} (h : if l0 < (nI 40) then (if ¬ l0 = (nI 22) then (if ¬ l0 = (nI 21) then (if ¬ l0 = (nI 20) then (if l0 < (nI 10) then (if ¬ l0 = (nI 2) then (if l0 < (nI 5) then (Q (some (.int (nI 5))) M) else (Q (some (.int (nI 6))) M)) else (Q (some (.int (nI 7))) M)) else (Q (some (.int (nI 4))) M)) else (Q (some (.int (nI 3))) M)) else (Q (some (.int (nI 2))) M)) else (Q (some (.int (nI 1))) M)) else (Q (some (.int (nI 0))) M)) : K_M_rank sa d Q 0 [some (.int l0)] [] M u := by
  refine b_M_rank_0 ?_
  refine xite_mono (fun h => ?_) (fun h => ?_) h
  · refine b_M_rank_2 ?_
    refine xite_mono (fun h => ?_) (fun h => ?_) h
    · refine b_M_rank_4 ?_
      refine xite_mono (fun h => ?_) (fun h => ?_) h
      · refine b_M_rank_6 ?_
        refine xite_mono (fun h => ?_) (fun h => ?_) h
        · refine b_M_rank_8 ?_
          refine xite_mono (fun h => ?_) (fun h => ?_) h
          · refine b_M_rank_10 ?_
            refine xite_mono (fun h => ?_) (fun h => ?_) h
            · refine b_M_rank_12 ?_
              refine xite_mono (fun h => ?_) (fun h => ?_) h
              · refine b_M_rank_14 ?_
                exact b_M_rank_15 h
              · refine b_M_rank_13 ?_
                exact b_M_rank_15 h
            · refine b_M_rank_11 ?_
              exact b_M_rank_15 h
          · refine b_M_rank_9 ?_
            exact b_M_rank_15 h
        · refine b_M_rank_7 ?_
          exact b_M_rank_15 h
      · refine b_M_rank_5 ?_
        exact b_M_rank_15 h
    · refine b_M_rank_3 ?_
      exact b_M_rank_15 h
  · refine b_M_rank_1 ?_
    exact b_M_rank_15 h
theorem t_M_rank {sa : Nat → Nat} {d : Nat} {Q : xQ} {l0 : Int32} {M : xM} (h : if l0 < (nI 40) then (if ¬ l0 = (nI 22) then (if ¬ l0 = (nI 21) then (if ¬ l0 = (nI 20) then (if l0 < (nI 10) then (if ¬ l0 = (nI 2) then (if l0 < (nI 5) then (Q (some (.int (nI 5))) M) else (Q (some (.int (nI 6))) M)) else (Q (some (.int (nI 7))) M)) else (Q (some (.int (nI 4))) M)) else (Q (some (.int (nI 3))) M)) else (Q (some (.int (nI 2))) M)) else (Q (some (.int (nI 1))) M)) else (Q (some (.int (nI 0))) M)) : xEv xP (xprim sa) (d + 1) m_M_rank [.int l0] M Q := e_M_rank (t_M_rank_0 h)
set_option maxRecDepth 100000 in
theorem t_M_settle_0 {sa : Nat → Nat} {d : Nat} {Q : xQ} {l0 : Nat} {l1 : Int32} {M : xM} {u : xU} (h : xgfI M l0 12 18 fun v1 => (if v1 ≤ 0 then (Q none M) else (xgfR M l0 12 17 fun v2 => (xgfI M l0 12 18 fun v3 => (xaI M v2 (v3 - (nI 1)) fun v4 => (xEv xP (xprim sa) d m_M_rank [.int v4] M (xrI fun r1 M1 => if r1 < l1 then (Q none M1) else (xgfI M1 l0 12 18 fun v5 => (xpf M1 l0 12 18 (.int (v5 - (nI 1))) fun M2 => (xgfR M2 l0 12 17 fun v6 => (xgfI M2 l0 12 18 fun v7 => (xaI M2 v6 v7 fun v8 => (xobj M2 l0 12 ∧ xEv xP (xprim sa) d m_M_emit [.ref l0, .int v8, .int (nI 0)] M2 (xrV fun M3 => xgfR M3 l0 12 17 fun v9 => (xgfI M3 l0 12 18 fun v10 => (xaI M3 v9 v10 fun v11 => (if v11 = (nI 2) then (xgfI M3 l0 12 19 fun v12 => (xpf M3 l0 12 19 (.int (v12 - (nI 1))) fun M4 => (K_M_settle sa d Q 0 [some (.ref l0), some (.int l1)] [] M4 u))) else (xgfR M3 l0 12 17 fun v13 => (xgfI M3 l0 12 18 fun v14 => (xaI M3 v13 v14 fun v15 => (if ¬ v15 = (nI 20) then K_M_settle sa d Q 0 [some (.ref l0), some (.int l1)] [] M3 u else (xgfI M3 l0 12 19 fun v16 => (xpf M3 l0 12 19 (.int (v16 - (nI 1))) fun M5 => (K_M_settle sa d Q 0 [some (.ref l0), some (.int l1)] [] M5 u)))))))))))))))))))))))) : K_M_settle sa d Q 0 [some (.ref l0), some (.int l1)] [] M u := by
  refine b_M_settle_0 ?_
  refine xgfI_mono (fun _ h => ?_) h
  refine xite_mono (fun h => ?_) (fun h => ?_) h
  · exact b_M_settle_5 h
  · refine b_M_settle_1 ?_
    refine xgfR_mono (fun _ h => ?_) h
    refine xgfI_mono (fun _ h => ?_) h
    refine xaI_mono (fun _ h => ?_) h
    refine xEv_post' _ _ _ _ _ (xrI_mono (fun _ _ h => ?_)) h
    refine xite_mono (fun h => ?_) (fun h => ?_) h
    · exact b_M_settle_5 h
    · refine b_M_settle_2 ?_
      refine xgfI_mono (fun _ h => ?_) h
      refine xpf_mono (fun _ h => ?_) h
      refine xgfR_mono (fun _ h => ?_) h
      refine xgfI_mono (fun _ h => ?_) h
      refine xaI_mono (fun _ h => ?_) h
      obtain ⟨hz, h⟩ := h
      refine ⟨hz, ?_⟩
      refine xEv_post' _ _ _ _ _ (xrV_mono (fun _ h => ?_)) h
      refine xgfR_mono (fun _ h => ?_) h
      refine xgfI_mono (fun _ h => ?_) h
      refine xaI_mono (fun _ h => ?_) h
      refine xite_mono (fun h => ?_) (fun h => ?_) h
      · exact b_M_settle_4 h
      · refine b_M_settle_3 ?_
        refine xgfR_mono (fun _ h => ?_) h
        refine xgfI_mono (fun _ h => ?_) h
        refine xaI_mono (fun _ h => ?_) h
        refine xite_mono (fun h => ?_) (fun h => ?_) h
        · exact h
        · exact b_M_settle_4 h
theorem t_M_settle {sa : Nat → Nat} {d : Nat} {Q : xQ} {l0 : Nat} {l1 : Int32} {M : xM} (h : xgfI M l0 12 18 fun v1 => (if v1 ≤ 0 then (Q none M) else (xgfR M l0 12 17 fun v2 => (xgfI M l0 12 18 fun v3 => (xaI M v2 (v3 - (nI 1)) fun v4 => (xEv xP (xprim sa) d m_M_rank [.int v4] M (xrI fun r1 M1 => if r1 < l1 then (Q none M1) else (xgfI M1 l0 12 18 fun v5 => (xpf M1 l0 12 18 (.int (v5 - (nI 1))) fun M2 => (xgfR M2 l0 12 17 fun v6 => (xgfI M2 l0 12 18 fun v7 => (xaI M2 v6 v7 fun v8 => (xobj M2 l0 12 ∧ xEv xP (xprim sa) d m_M_emit [.ref l0, .int v8, .int (nI 0)] M2 (xrV fun M3 => xgfR M3 l0 12 17 fun v9 => (xgfI M3 l0 12 18 fun v10 => (xaI M3 v9 v10 fun v11 => (if v11 = (nI 2) then (xgfI M3 l0 12 19 fun v12 => (xpf M3 l0 12 19 (.int (v12 - (nI 1))) fun M4 => (K_M_settle sa d Q 0 [some (.ref l0), some (.int l1)] [] M4 (0, 0)))) else (xgfR M3 l0 12 17 fun v13 => (xgfI M3 l0 12 18 fun v14 => (xaI M3 v13 v14 fun v15 => (if ¬ v15 = (nI 20) then K_M_settle sa d Q 0 [some (.ref l0), some (.int l1)] [] M3 (0, 0) else (xgfI M3 l0 12 19 fun v16 => (xpf M3 l0 12 19 (.int (v16 - (nI 1))) fun M5 => (K_M_settle sa d Q 0 [some (.ref l0), some (.int l1)] [] M5 (0, 0))))))))))))))))))))))))) : xEv xP (xprim sa) (d + 1) m_M_settle [.ref l0, .int l1] M Q := e_M_settle (t_M_settle_0 h)
set_option maxRecDepth 100000 in
theorem t_M_whole_0 {sa : Nat → Nat} {d : Nat} {Q : xQ} {l0 : Nat} {M : xM} {u : xU} (h : ((nI 1) = 0 ∨ (nI 1) = 1) ∧ xpf M l0 12 20 (.int (nI 1)) fun M1 => (xobj M1 l0 12 ∧ xEv xP (xprim sa) d m_M_settle [.ref l0, .int (nI 7)] M1 (xrV fun M2 => Q none M2))) : K_M_whole sa d Q 0 [some (.ref l0)] [] M u := b_M_whole_0 h
theorem t_M_whole {sa : Nat → Nat} {d : Nat} {Q : xQ} {l0 : Nat} {M : xM} (h : ((nI 1) = 0 ∨ (nI 1) = 1) ∧ xpf M l0 12 20 (.int (nI 1)) fun M1 => (xobj M1 l0 12 ∧ xEv xP (xprim sa) d m_M_settle [.ref l0, .int (nI 7)] M1 (xrV fun M2 => Q none M2))) : xEv xP (xprim sa) (d + 1) m_M_whole [.ref l0] M Q := e_M_whole (t_M_whole_0 h)
set_option maxRecDepth 100000 in
theorem t_M_marker_0 {sa : Nat → Nat} {d : Nat} {Q : xQ} {l0 : Nat} {M : xM} {u : xU} (h : xgfI M l0 12 18 fun v1 => (K_M_marker sa d Q 1 [some (.ref l0), some (.int (v1 - (nI 1)))] [] M u)) : K_M_marker sa d Q 0 [some (.ref l0), none] [] M u := b_M_marker_0 h
set_option maxRecDepth 100000 in
theorem t_M_marker_1 {sa : Nat → Nat} {d : Nat} {Q : xQ} {l0 : Nat} {l1 : Int32} {M : xM} {u : xU} (h : if l1 < 0 then (Q (some (.int l1)) M) else (xgfR M l0 12 17 fun v1 => (xaI M v1 l1 fun v2 => (if (nI 40) ≤ v2 then (Q (some (.int l1)) M) else K_M_marker sa d Q 1 [some (.ref l0), some (.int (l1 + (-1 : Int32)))] [] M u)))) : K_M_marker sa d Q 1 [some (.ref l0), some (.int l1)] [] M u := by
  refine b_M_marker_1 ?_
  refine xite_mono (fun h => ?_) (fun h => ?_) h
  · exact b_M_marker_4 h
  · refine b_M_marker_2 ?_
    refine xgfR_mono (fun _ h => ?_) h
    refine xaI_mono (fun _ h => ?_) h
    refine xite_mono (fun h => ?_) (fun h => ?_) h
    · exact b_M_marker_4 h
    · exact b_M_marker_3 h
theorem t_M_marker {sa : Nat → Nat} {d : Nat} {Q : xQ} {l0 : Nat} {M : xM} (h : xgfI M l0 12 18 fun v1 => (K_M_marker sa d Q 1 [some (.ref l0), some (.int (v1 - (nI 1)))] [] M (0, 0))) : xEv xP (xprim sa) (d + 1) m_M_marker [.ref l0] M Q := e_M_marker (t_M_marker_0 h)
set_option maxRecDepth 100000 in
theorem t_M_kindOpen_0 {sa : Nat → Nat} {d : Nat} {Q : xQ} {l0 : Nat} {l1 : Int32} {M : xM} {u : xU} (h : xobj M l0 12 ∧ xEv xP (xprim sa) d m_M_marker [.ref l0] M (xrI fun r1 M1 => if r1 < 0 then (if l1 = 0 then (Q (some (.int (nI 40))) M1) else (Q (some (.int (nI 41))) M1)) else (xgfR M1 l0 12 17 fun v1 => (xaI M1 v1 r1 fun v2 => (Q (some (.int v2)) M1))))) : K_M_kindOpen sa d Q 0 [some (.ref l0), some (.int l1), none] [] M u := by
  refine b_M_kindOpen_0 ?_
  obtain ⟨hz, h⟩ := h
  refine ⟨hz, ?_⟩
  refine xEv_post' _ _ _ _ _ (xrI_mono (fun _ _ h => ?_)) h
  refine xite_mono (fun h => ?_) (fun h => ?_) h
  · refine b_M_kindOpen_2 ?_
    refine xite_mono (fun h => ?_) (fun h => ?_) h
    · refine b_M_kindOpen_4 ?_
      exact b_M_kindOpen_5 h
    · refine b_M_kindOpen_3 ?_
      exact b_M_kindOpen_5 h
  · refine b_M_kindOpen_1 ?_
    refine xgfR_mono (fun _ h => ?_) h
    refine xaI_mono (fun _ h => ?_) h
    exact b_M_kindOpen_5 h
theorem t_M_kindOpen {sa : Nat → Nat} {d : Nat} {Q : xQ} {l0 : Nat} {l1 : Int32} {M : xM} (h : xobj M l0 12 ∧ xEv xP (xprim sa) d m_M_marker [.ref l0] M (xrI fun r1 M1 => if r1 < 0 then (if l1 = 0 then (Q (some (.int (nI 40))) M1) else (Q (some (.int (nI 41))) M1)) else (xgfR M1 l0 12 17 fun v1 => (xaI M1 v1 r1 fun v2 => (Q (some (.int v2)) M1))))) : xEv xP (xprim sa) (d + 1) m_M_kindOpen [.ref l0, .int l1] M Q := e_M_kindOpen (t_M_kindOpen_0 h)
set_option maxRecDepth 100000 in
theorem t_M_isCompared_0 {sa : Nat → Nat} {d : Nat} {Q : xQ} {l0 : Nat} {M : xM} {u : xU} (h : xgfI M l0 12 18 fun v1 => (K_M_isCompared sa d Q 1 [some (.ref l0), some (.int (v1 - (nI 1)))] [] M u)) : K_M_isCompared sa d Q 0 [some (.ref l0), none] [] M u := b_M_isCompared_0 h
set_option maxRecDepth 100000 in
theorem t_M_isCompared_1 {sa : Nat → Nat} {d : Nat} {Q : xQ} {l0 : Nat} {l1 : Int32} {M : xM} {u : xU} (h : if l1 < 0 then (if l1 < 0 then (((nI 0) = 0 ∨ (nI 0) = 1) ∧ Q (some (.int (nI 0))) M) else (xgfR M l0 12 17 fun v1 => (xaI M v1 l1 fun v2 => (xEv xP (xprim sa) d m_M_rank [.int v2] M (xrI fun r1 M1 => if ¬ r1 = (nI 4) then (((nI 0) = 0 ∨ (nI 0) = 1) ∧ Q (some (.int (nI 0))) M1) else (((nI 1) = 0 ∨ (nI 1) = 1) ∧ Q (some (.int (nI 1))) M1)))))) else (xgfR M l0 12 17 fun v3 => (xaI M v3 l1 fun v4 => (xEv xP (xprim sa) d m_M_rank [.int v4] M (xrI fun r2 M2 => if r2 ≤ (nI 4) then (if l1 < 0 then (((nI 0) = 0 ∨ (nI 0) = 1) ∧ Q (some (.int (nI 0))) M2) else (xgfR M2 l0 12 17 fun v5 => (xaI M2 v5 l1 fun v6 => (xEv xP (xprim sa) d m_M_rank [.int v6] M2 (xrI fun r3 M3 => if ¬ r3 = (nI 4) then (((nI 0) = 0 ∨ (nI 0) = 1) ∧ Q (some (.int (nI 0))) M3) else (((nI 1) = 0 ∨ (nI 1) = 1) ∧ Q (some (.int (nI 1))) M3)))))) else K_M_isCompared sa d Q 1 [some (.ref l0), some (.int (l1 + (-1 : Int32)))] [] M2 u))))) : K_M_isCompared sa d Q 1 [some (.ref l0), some (.int l1)] [] M u := by
  refine b_M_isCompared_1 ?_
  refine xite_mono (fun h => ?_) (fun h => ?_) h
  · refine b_M_isCompared_4 ?_
    refine xite_mono (fun h => ?_) (fun h => ?_) h
    · refine b_M_isCompared_7 ?_
      exact b_M_isCompared_8 h
    · refine b_M_isCompared_5 ?_
      refine xgfR_mono (fun _ h => ?_) h
      refine xaI_mono (fun _ h => ?_) h
      refine xEv_post' _ _ _ _ _ (xrI_mono (fun _ _ h => ?_)) h
      refine xite_mono (fun h => ?_) (fun h => ?_) h
      · refine b_M_isCompared_7 ?_
        exact b_M_isCompared_8 h
      · refine b_M_isCompared_6 ?_
        exact b_M_isCompared_8 h
  · refine b_M_isCompared_2 ?_
    refine xgfR_mono (fun _ h => ?_) h
    refine xaI_mono (fun _ h => ?_) h
    refine xEv_post' _ _ _ _ _ (xrI_mono (fun _ _ h => ?_)) h
    refine xite_mono (fun h => ?_) (fun h => ?_) h
    · refine b_M_isCompared_4 ?_
      refine xite_mono (fun h => ?_) (fun h => ?_) h
      · refine b_M_isCompared_7 ?_
        exact b_M_isCompared_8 h
      · refine b_M_isCompared_5 ?_
        refine xgfR_mono (fun _ h => ?_) h
        refine xaI_mono (fun _ h => ?_) h
        refine xEv_post' _ _ _ _ _ (xrI_mono (fun _ _ h => ?_)) h
        refine xite_mono (fun h => ?_) (fun h => ?_) h
        · refine b_M_isCompared_7 ?_
          exact b_M_isCompared_8 h
        · refine b_M_isCompared_6 ?_
          exact b_M_isCompared_8 h
    · exact b_M_isCompared_3 h
theorem t_M_isCompared {sa : Nat → Nat} {d : Nat} {Q : xQ} {l0 : Nat} {M : xM} (h : xgfI M l0 12 18 fun v1 => (K_M_isCompared sa d Q 1 [some (.ref l0), some (.int (v1 - (nI 1)))] [] M (0, 0))) : xEv xP (xprim sa) (d + 1) m_M_isCompared [.ref l0] M Q := e_M_isCompared (t_M_isCompared_0 h)
set_option maxRecDepth 100000 in
theorem t_M_isAskAhead_0 {sa : Nat → Nat} {d : Nat} {Q : xQ} {l0 : Nat} {l1 : Int32} {M : xM} {u : xU} (h : xobj M l0 12 ∧ xEv xP (xprim sa) d m_M_kindOpen [.ref l0, .int l1] M (xrI fun r1 M1 => if ¬ r1 = (nI 41) then (((nI 0) = 0 ∨ (nI 0) = 1) ∧ Q (some (.int (nI 0))) M1) else (xgfI M1 l0 12 18 fun v1 => (if v1 = 0 then (((nI 1) = 0 ∨ (nI 1) = 1) ∧ Q (some (.int (nI 1))) M1) else (xgfR M1 l0 12 17 fun v2 => (xgfI M1 l0 12 18 fun v3 => (xaI M1 v2 (v3 - (nI 1)) fun v4 => (if v4 = (nI 41) then (((nI 1) = 0 ∨ (nI 1) = 1) ∧ Q (some (.int (nI 1))) M1) else (xgfR M1 l0 12 17 fun v5 => (xgfI M1 l0 12 18 fun v6 => (xaI M1 v5 (v6 - (nI 1)) fun v7 => (xEv xP (xprim sa) d m_M_rank [.int v7] M1 (xrI fun r2 M2 => xEv xP (xprim sa) d m_M_isIn [.int r2, .int (nI 1), .int (nI 3)] M2 (xrI fun r3 M3 => if r3 = 0 then (((nI 0) = 0 ∨ (nI 0) = 1) ∧ Q (some (.int (nI 0))) M3) else (((nI 1) = 0 ∨ (nI 1) = 1) ∧ Q (some (.int (nI 1))) M3))))))))))))))) : K_M_isAskAhead sa d Q 0 [some (.ref l0), some (.int l1)] [] M u := by
  refine b_M_isAskAhead_0 ?_
  obtain ⟨hz, h⟩ := h
  refine ⟨hz, ?_⟩
  refine xEv_post' _ _ _ _ _ (xrI_mono (fun _ _ h => ?_)) h
  refine xite_mono (fun h => ?_) (fun h => ?_) h
  · refine b_M_isAskAhead_5 ?_
    exact b_M_isAskAhead_6 h
  · refine b_M_isAskAhead_1 ?_
    refine xgfI_mono (fun _ h => ?_) h
    refine xite_mono (fun h => ?_) (fun h => ?_) h
    · refine b_M_isAskAhead_4 ?_
      exact b_M_isAskAhead_6 h
    · refine b_M_isAskAhead_2 ?_
      refine xgfR_mono (fun _ h => ?_) h
      refine xgfI_mono (fun _ h => ?_) h
      refine xaI_mono (fun _ h => ?_) h
      refine xite_mono (fun h => ?_) (fun h => ?_) h
      · refine b_M_isAskAhead_4 ?_
        exact b_M_isAskAhead_6 h
      · refine b_M_isAskAhead_3 ?_
        refine xgfR_mono (fun _ h => ?_) h
        refine xgfI_mono (fun _ h => ?_) h
        refine xaI_mono (fun _ h => ?_) h
        refine xEv_post' _ _ _ _ _ (xrI_mono (fun _ _ h => ?_)) h
        refine xEv_post' _ _ _ _ _ (xrI_mono (fun _ _ h => ?_)) h
        refine xite_mono (fun h => ?_) (fun h => ?_) h
        · refine b_M_isAskAhead_5 ?_
          exact b_M_isAskAhead_6 h
        · refine b_M_isAskAhead_4 ?_
          exact b_M_isAskAhead_6 h
theorem t_M_isAskAhead {sa : Nat → Nat} {d : Nat} {Q : xQ} {l0 : Nat} {l1 : Int32} {M : xM} (h : xobj M l0 12 ∧ xEv xP (xprim sa) d m_M_kindOpen [.ref l0, .int l1] M (xrI fun r1 M1 => if ¬ r1 = (nI 41) then (((nI 0) = 0 ∨ (nI 0) = 1) ∧ Q (some (.int (nI 0))) M1) else (xgfI M1 l0 12 18 fun v1 => (if v1 = 0 then (((nI 1) = 0 ∨ (nI 1) = 1) ∧ Q (some (.int (nI 1))) M1) else (xgfR M1 l0 12 17 fun v2 => (xgfI M1 l0 12 18 fun v3 => (xaI M1 v2 (v3 - (nI 1)) fun v4 => (if v4 = (nI 41) then (((nI 1) = 0 ∨ (nI 1) = 1) ∧ Q (some (.int (nI 1))) M1) else (xgfR M1 l0 12 17 fun v5 => (xgfI M1 l0 12 18 fun v6 => (xaI M1 v5 (v6 - (nI 1)) fun v7 => (xEv xP (xprim sa) d m_M_rank [.int v7] M1 (xrI fun r2 M2 => xEv xP (xprim sa) d m_M_isIn [.int r2, .int (nI 1), .int (nI 3)] M2 (xrI fun r3 M3 => if r3 = 0 then (((nI 0) = 0 ∨ (nI 0) = 1) ∧ Q (some (.int (nI 0))) M3) else (((nI 1) = 0 ∨ (nI 1) = 1) ∧ Q (some (.int (nI 1))) M3))))))))))))))) : xEv xP (xprim sa) (d + 1) m_M_isAskAhead [.ref l0, .int l1] M Q := e_M_isAskAhead (t_M_isAskAhead_0 h)
set_option maxRecDepth 100000 in
theorem t_M_opensBy_0 {sa : Nat → Nat} {d : Nat} {Q : xQ} {l0 : Nat} {l1 : Int32} {M : xM} {u : xU} (h : xgfI M l0 12 19 fun v1 => (if ¬ v1 = (nI 8) then (xgfI M l0 12 19 fun v2 => (xpf M l0 12 19 (.int (v2 + (nI 1))) fun M1 => (xobj M1 l0 12 ∧ xEv xP (xprim sa) d m_M_push [.ref l0, .int l1] M1 (xrV fun M2 => xobj M2 l0 12 ∧ xEv xP (xprim sa) d m_M_nextToken [.ref l0] M2 (xrV fun M3 => Q (some (.int (nI 0))) M3))))) else (Q (some (.int (nI 3))) M))) : K_M_opensBy sa d Q 0 [some (.ref l0), some (.int l1)] [] M u := by
  refine b_M_opensBy_0 ?_
  refine xgfI_mono (fun _ h => ?_) h
  refine xite_mono (fun h => ?_) (fun h => ?_) h
  · exact b_M_opensBy_2 h
  · exact b_M_opensBy_1 h
theorem t_M_opensBy {sa : Nat → Nat} {d : Nat} {Q : xQ} {l0 : Nat} {l1 : Int32} {M : xM} (h : xgfI M l0 12 19 fun v1 => (if ¬ v1 = (nI 8) then (xgfI M l0 12 19 fun v2 => (xpf M l0 12 19 (.int (v2 + (nI 1))) fun M1 => (xobj M1 l0 12 ∧ xEv xP (xprim sa) d m_M_push [.ref l0, .int l1] M1 (xrV fun M2 => xobj M2 l0 12 ∧ xEv xP (xprim sa) d m_M_nextToken [.ref l0] M2 (xrV fun M3 => Q (some (.int (nI 0))) M3))))) else (Q (some (.int (nI 3))) M))) : xEv xP (xprim sa) (d + 1) m_M_opensBy [.ref l0, .int l1] M Q := e_M_opensBy (t_M_opensBy_0 h)
set_option maxRecDepth 100000 in
theorem t_M_beginOne_0 {sa : Nat → Nat} {d : Nat} {Q : xQ} {l0 : Nat} {l1 : Int32} {M : xM} {u : xU} (h : xgfI M l0 12 10 fun v1 => (if ¬ v1 = (nI 1) then K_M_beginOne sa d Q 3 [some (.ref l0), some (.int l1), none] [] M u else (xgfI M l0 12 11 fun v2 => (if v2 ≤ (nI 9999) then K_M_beginOne sa d Q 3 [some (.ref l0), some (.int l1), none] [] M u else (Q (some (.int (nI 2))) M))))) : K_M_beginOne sa d Q 0 [some (.ref l0), some (.int l1), none] [] M u := by
  refine b_M_beginOne_0 ?_
  refine xgfI_mono (fun _ h => ?_) h
  refine xite_mono (fun h => ?_) (fun h => ?_) h
  · exact h
  · refine b_M_beginOne_1 ?_
    refine xgfI_mono (fun _ h => ?_) h
    refine xite_mono (fun h => ?_) (fun h => ?_) h
    · exact h
    · exact b_M_beginOne_2 h
set_option maxRecDepth 100000 in
theorem t_M_beginOne_3 {sa : Nat → Nat} {d : Nat} {Q : xQ} {l0 : Nat} {l1 : Int32} {M : xM} {u : xU} (h : xobj M l0 12 ∧ xEv xP (xprim sa) d m_M_nameOf [.ref l0] M (xrI fun r1 M1 => xgfI M1 l0 12 10 fun v1 => (if v1 = (nI 1) then K_M_beginOne sa d Q 5 [some (.ref l0), none, some (.int r1)] [] M1 u else (if r1 < 0 then (xgfI M1 l0 12 10 fun v2 => (if ¬ v2 = (nI 40) then (xgfI M1 l0 12 10 fun v3 => (if ¬ v3 = (nI 45) then (xgfI M1 l0 12 10 fun v4 => (if ¬ v4 = (nI 2) then K_M_beginOne sa d Q 19 [some (.ref l0), some (.int l1), none] [] M1 u else (xgfL M1 l0 12 12 fun v5 => (if ¬ (lg_cmp v5 (26982 : Int64)) = 0 then K_M_beginOne sa d Q 19 [some (.ref l0), some (.int l1), none] [] M1 u else (xobj M1 l0 12 ∧ xEv xP (xprim sa) d m_M_opensBy [.ref l0, .int (nI 41)] M1 (xrI fun r2 M2 => Q (some (.int r2)) M2)))))) else (xobj M1 l0 12 ∧ xEv xP (xprim sa) d m_M_opensBy [.ref l0, .int (nI 2)] M1 (xrI fun r3 M3 => Q (some (.int r3)) M3)))) else (xobj M1 l0 12 ∧ xEv xP (xprim sa) d m_M_opensBy [.ref l0, .int (nI 40)] M1 (xrI fun r4 M4 => Q (some (.int r4)) M4)))) else K_M_beginOne sa d Q 5 [some (.ref l0), none, some (.int r1)] [] M1 u)))) : K_M_beginOne sa d Q 3 [some (.ref l0), some (.int l1), none] [] M u := by
  refine b_M_beginOne_3 ?_
  obtain ⟨hz, h⟩ := h
  refine ⟨hz, ?_⟩
  refine xEv_post' _ _ _ _ _ (xrI_mono (fun _ _ h => ?_)) h
  refine xgfI_mono (fun _ h => ?_) h
  refine xite_mono (fun h => ?_) (fun h => ?_) h
  · exact h
  · refine b_M_beginOne_4 ?_
    refine xite_mono (fun h => ?_) (fun h => ?_) h
    · refine b_M_beginOne_12 ?_
      refine xgfI_mono (fun _ h => ?_) h
      refine xite_mono (fun h => ?_) (fun h => ?_) h
      · refine b_M_beginOne_14 ?_
        refine xgfI_mono (fun _ h => ?_) h
        refine xite_mono (fun h => ?_) (fun h => ?_) h
        · refine b_M_beginOne_16 ?_
          refine xgfI_mono (fun _ h => ?_) h
          refine xite_mono (fun h => ?_) (fun h => ?_) h
          · exact h
          · refine b_M_beginOne_17 ?_
            refine xgfL_mono (fun _ h => ?_) h
            refine xite_mono (fun h => ?_) (fun h => ?_) h
            · exact h
            · exact b_M_beginOne_18 h
        · exact b_M_beginOne_15 h
      · exact b_M_beginOne_13 h
    · exact h
set_option maxRecDepth 100000 in
theorem t_M_beginOne_5 {sa : Nat → Nat} {d : Nat} {Q : xQ} {l0 : Nat} {l2 : Int32} {M : xM} {u : xU} (h : xgfI M l0 12 10 fun v1 => (if ¬ v1 = (nI 1) then (xgfI M l0 12 10 fun v2 => (if ¬ v2 = (nI 1) then (xobj M l0 12 ∧ xEv xP (xprim sa) d m_M_emit [.ref l0, .int (nI 1), .int l2] M (xrV fun M1 => xobj M1 l0 12 ∧ xEv xP (xprim sa) d m_M_nextToken [.ref l0] M1 (xrV fun M2 => xobj M2 l0 12 ∧ xEv xP (xprim sa) d m_M_whole [.ref l0] M2 (xrV fun M3 => Q (some (.int (nI 0))) M3)))) else (xgfI M l0 12 11 fun v3 => (xobj M l0 12 ∧ xEv xP (xprim sa) d m_M_emit [.ref l0, .int (nI 1), .int v3] M (xrV fun M4 => xobj M4 l0 12 ∧ xEv xP (xprim sa) d m_M_nextToken [.ref l0] M4 (xrV fun M5 => xobj M5 l0 12 ∧ xEv xP (xprim sa) d m_M_whole [.ref l0] M5 (xrV fun M6 => Q (some (.int (nI 0))) M6))))))) else (xgfI M l0 12 10 fun v4 => (if ¬ v4 = (nI 1) then (xobj M l0 12 ∧ xEv xP (xprim sa) d m_M_emit [.ref l0, .int (nI 0), .int l2] M (xrV fun M7 => xobj M7 l0 12 ∧ xEv xP (xprim sa) d m_M_nextToken [.ref l0] M7 (xrV fun M8 => xobj M8 l0 12 ∧ xEv xP (xprim sa) d m_M_whole [.ref l0] M8 (xrV fun M9 => Q (some (.int (nI 0))) M9)))) else (xgfI M l0 12 11 fun v5 => (xobj M l0 12 ∧ xEv xP (xprim sa) d m_M_emit [.ref l0, .int (nI 0), .int v5] M (xrV fun M10 => xobj M10 l0 12 ∧ xEv xP (xprim sa) d m_M_nextToken [.ref l0] M10 (xrV fun M11 => xobj M11 l0 12 ∧ xEv xP (xprim sa) d m_M_whole [.ref l0] M11 (xrV fun M12 => Q (some (.int (nI 0))) M12))))))))) : K_M_beginOne sa d Q 5 [some (.ref l0), none, some (.int l2)] [] M u := by
  refine b_M_beginOne_5 ?_
  refine xgfI_mono (fun _ h => ?_) h
  refine xite_mono (fun h => ?_) (fun h => ?_) h
  · refine b_M_beginOne_7 ?_
    refine b_M_beginOne_8 ?_
    refine xgfI_mono (fun _ h => ?_) h
    refine xite_mono (fun h => ?_) (fun h => ?_) h
    · refine b_M_beginOne_10 ?_
      exact b_M_beginOne_11 h
    · refine b_M_beginOne_9 ?_
      refine xgfI_mono (fun _ h => ?_) h
      exact b_M_beginOne_11 h
  · refine b_M_beginOne_6 ?_
    refine b_M_beginOne_8 ?_
    refine xgfI_mono (fun _ h => ?_) h
    refine xite_mono (fun h => ?_) (fun h => ?_) h
    · refine b_M_beginOne_10 ?_
      exact b_M_beginOne_11 h
    · refine b_M_beginOne_9 ?_
      refine xgfI_mono (fun _ h => ?_) h
      exact b_M_beginOne_11 h
set_option maxRecDepth 100000 in
theorem t_M_beginOne_19 {sa : Nat → Nat} {d : Nat} {Q : xQ} {l0 : Nat} {l1 : Int32} {M : xM} {u : xU} (h : xEv xP (xprim sa) d m_M_w3 [.int (nI 110), .int (nI 111), .int (nI 116)] M (xrL fun r1 M1 => xobj M1 l0 12 ∧ xEv xP (xprim sa) d m_M_isWord [.ref l0, .long r1] M1 (xrI fun r2 M2 => if r2 = 0 then (Q (some (.int (nI 1))) M2) else (xobj M2 l0 12 ∧ xEv xP (xprim sa) d m_M_isAskAhead [.ref l0, .int l1] M2 (xrI fun r3 M3 => if r3 = 0 then (Q (some (.int (nI 1))) M3) else (xobj M3 l0 12 ∧ xEv xP (xprim sa) d m_M_opensBy [.ref l0, .int (nI 20)] M3 (xrI fun r4 M4 => Q (some (.int r4)) M4))))))) : K_M_beginOne sa d Q 19 [some (.ref l0), some (.int l1), none] [] M u := by
  refine b_M_beginOne_19 ?_
  refine xEv_post' _ _ _ _ _ (xrL_mono (fun _ _ h => ?_)) h
  obtain ⟨hz, h⟩ := h
  refine ⟨hz, ?_⟩
  refine xEv_post' _ _ _ _ _ (xrI_mono (fun _ _ h => ?_)) h
  refine xite_mono (fun h => ?_) (fun h => ?_) h
  · refine b_M_beginOne_22 ?_
    exact b_M_beginOne_23 h
  · refine b_M_beginOne_20 ?_
    obtain ⟨hz, h⟩ := h
    refine ⟨hz, ?_⟩
    refine xEv_post' _ _ _ _ _ (xrI_mono (fun _ _ h => ?_)) h
    refine xite_mono (fun h => ?_) (fun h => ?_) h
    · refine b_M_beginOne_22 ?_
      exact b_M_beginOne_23 h
    · refine b_M_beginOne_21 ?_
      obtain ⟨hz, h⟩ := h
      refine ⟨hz, ?_⟩
      refine xEv_post' _ _ _ _ _ (xrI_mono (fun _ _ h => ?_)) h
      exact b_M_beginOne_23 h
theorem t_M_beginOne {sa : Nat → Nat} {d : Nat} {Q : xQ} {l0 : Nat} {l1 : Int32} {M : xM} (h : xgfI M l0 12 10 fun v1 => (if ¬ v1 = (nI 1) then K_M_beginOne sa d Q 3 [some (.ref l0), some (.int l1), none] [] M (0, 0) else (xgfI M l0 12 11 fun v2 => (if v2 ≤ (nI 9999) then K_M_beginOne sa d Q 3 [some (.ref l0), some (.int l1), none] [] M (0, 0) else (Q (some (.int (nI 2))) M))))) : xEv xP (xprim sa) (d + 1) m_M_beginOne [.ref l0, .int l1] M Q := e_M_beginOne (t_M_beginOne_0 h)
set_option maxRecDepth 100000 in
theorem t_M_compareOf_0 {sa : Nat → Nat} {d : Nat} {Q : xQ} {l0 : Nat} {M : xM} {u : xU} (h : xgfI M l0 12 10 fun v1 => (if ¬ v1 = (nI 60) then (xgfI M l0 12 10 fun v2 => (if ¬ v2 = (nI 4) then (xgfI M l0 12 10 fun v3 => (if ¬ v3 = (nI 62) then (xgfI M l0 12 10 fun v4 => (if ¬ v4 = (nI 5) then (xgfI M l0 12 10 fun v5 => (if ¬ v5 = (nI 61) then (xgfI M l0 12 10 fun v6 => (if ¬ v6 = (nI 35) then (Q (some (.int (-1 : Int32))) M) else (Q (some (.int (nI 15))) M))) else (Q (some (.int (nI 14))) M))) else (Q (some (.int (nI 13))) M))) else (Q (some (.int (nI 12))) M))) else (Q (some (.int (nI 11))) M))) else (Q (some (.int (nI 10))) M))) : K_M_compareOf sa d Q 0 [some (.ref l0)] [] M u := by
  refine b_M_compareOf_0 ?_
  refine xgfI_mono (fun _ h => ?_) h
  refine xite_mono (fun h => ?_) (fun h => ?_) h
  · refine b_M_compareOf_2 ?_
    refine xgfI_mono (fun _ h => ?_) h
    refine xite_mono (fun h => ?_) (fun h => ?_) h
    · refine b_M_compareOf_4 ?_
      refine xgfI_mono (fun _ h => ?_) h
      refine xite_mono (fun h => ?_) (fun h => ?_) h
      · refine b_M_compareOf_6 ?_
        refine xgfI_mono (fun _ h => ?_) h
        refine xite_mono (fun h => ?_) (fun h => ?_) h
        · refine b_M_compareOf_8 ?_
          refine xgfI_mono (fun _ h => ?_) h
          refine xite_mono (fun h => ?_) (fun h => ?_) h
          · refine b_M_compareOf_10 ?_
            refine xgfI_mono (fun _ h => ?_) h
            refine xite_mono (fun h => ?_) (fun h => ?_) h
            · refine b_M_compareOf_12 ?_
              exact b_M_compareOf_13 h
            · refine b_M_compareOf_11 ?_
              exact b_M_compareOf_13 h
          · refine b_M_compareOf_9 ?_
            exact b_M_compareOf_13 h
        · refine b_M_compareOf_7 ?_
          exact b_M_compareOf_13 h
      · refine b_M_compareOf_5 ?_
        exact b_M_compareOf_13 h
    · refine b_M_compareOf_3 ?_
      exact b_M_compareOf_13 h
  · refine b_M_compareOf_1 ?_
    exact b_M_compareOf_13 h
theorem t_M_compareOf {sa : Nat → Nat} {d : Nat} {Q : xQ} {l0 : Nat} {M : xM} (h : xgfI M l0 12 10 fun v1 => (if ¬ v1 = (nI 60) then (xgfI M l0 12 10 fun v2 => (if ¬ v2 = (nI 4) then (xgfI M l0 12 10 fun v3 => (if ¬ v3 = (nI 62) then (xgfI M l0 12 10 fun v4 => (if ¬ v4 = (nI 5) then (xgfI M l0 12 10 fun v5 => (if ¬ v5 = (nI 61) then (xgfI M l0 12 10 fun v6 => (if ¬ v6 = (nI 35) then (Q (some (.int (-1 : Int32))) M) else (Q (some (.int (nI 15))) M))) else (Q (some (.int (nI 14))) M))) else (Q (some (.int (nI 13))) M))) else (Q (some (.int (nI 12))) M))) else (Q (some (.int (nI 11))) M))) else (Q (some (.int (nI 10))) M))) : xEv xP (xprim sa) (d + 1) m_M_compareOf [.ref l0] M Q := e_M_compareOf (t_M_compareOf_0 h)
set_option maxRecDepth 100000 in
theorem t_M_betweenOf_0 {sa : Nat → Nat} {d : Nat} {Q : xQ} {l0 : Nat} {l1 : Int32} {M : xM} {u : xU} (h : xgfI M l0 12 10 fun v1 => (if ¬ v1 = (nI 43) then (xgfI M l0 12 10 fun v2 => (if ¬ v2 = (nI 45) then (xgfI M l0 12 10 fun v3 => (if ¬ v3 = (nI 42) then (xgfI M l0 12 10 fun v4 => (if ¬ v4 = (nI 47) then (xobj M l0 12 ∧ xEv xP (xprim sa) d m_M_kindOpen [.ref l0, .int l1] M (xrI fun r1 M1 => if r1 = (nI 41) then (xobj M1 l0 12 ∧ xEv xP (xprim sa) d m_M_isCompared [.ref l0] M1 (xrI fun r2 M2 => if ¬ r2 = 0 then (xEv xP (xprim sa) d m_M_w3 [.int (nI 97), .int (nI 110), .int (nI 100)] M2 (xrL fun r3 M3 => xobj M3 l0 12 ∧ xEv xP (xprim sa) d m_M_isWord [.ref l0, .long r3] M3 (xrI fun r4 M4 => if r4 = 0 then (xgfI M4 l0 12 10 fun v5 => (if ¬ v5 = (nI 2) then (Q (some (.int (-1 : Int32))) M4) else (xgfL M4 l0 12 12 fun v6 => (if ¬ (lg_cmp v6 (28530 : Int64)) = 0 then (Q (some (.int (-1 : Int32))) M4) else (Q (some (.int (nI 22))) M4))))) else (Q (some (.int (nI 21))) M4)))) else (xobj M2 l0 12 ∧ xEv xP (xprim sa) d m_M_compareOf [.ref l0] M2 (xrI fun r5 M5 => Q (some (.int r5)) M5)))) else (Q (some (.int (-1 : Int32))) M1))) else (Q (some (.int (nI 6))) M))) else (Q (some (.int (nI 5))) M))) else (Q (some (.int (nI 4))) M))) else (Q (some (.int (nI 3))) M))) : K_M_betweenOf sa d Q 0 [some (.ref l0), some (.int l1)] [] M u := by
  refine b_M_betweenOf_0 ?_
  refine xgfI_mono (fun _ h => ?_) h
  refine xite_mono (fun h => ?_) (fun h => ?_) h
  · refine b_M_betweenOf_2 ?_
    refine xgfI_mono (fun _ h => ?_) h
    refine xite_mono (fun h => ?_) (fun h => ?_) h
    · refine b_M_betweenOf_4 ?_
      refine xgfI_mono (fun _ h => ?_) h
      refine xite_mono (fun h => ?_) (fun h => ?_) h
      · refine b_M_betweenOf_6 ?_
        refine xgfI_mono (fun _ h => ?_) h
        refine xite_mono (fun h => ?_) (fun h => ?_) h
        · refine b_M_betweenOf_8 ?_
          obtain ⟨hz, h⟩ := h
          refine ⟨hz, ?_⟩
          refine xEv_post' _ _ _ _ _ (xrI_mono (fun _ _ h => ?_)) h
          refine xite_mono (fun h => ?_) (fun h => ?_) h
          · refine b_M_betweenOf_10 ?_
            obtain ⟨hz, h⟩ := h
            refine ⟨hz, ?_⟩
            refine xEv_post' _ _ _ _ _ (xrI_mono (fun _ _ h => ?_)) h
            refine xite_mono (fun h => ?_) (fun h => ?_) h
            · refine b_M_betweenOf_12 ?_
              refine xEv_post' _ _ _ _ _ (xrL_mono (fun _ _ h => ?_)) h
              obtain ⟨hz, h⟩ := h
              refine ⟨hz, ?_⟩
              refine xEv_post' _ _ _ _ _ (xrI_mono (fun _ _ h => ?_)) h
              refine xite_mono (fun h => ?_) (fun h => ?_) h
              · refine b_M_betweenOf_14 ?_
                refine xgfI_mono (fun _ h => ?_) h
                refine xite_mono (fun h => ?_) (fun h => ?_) h
                · refine b_M_betweenOf_17 ?_
                  exact b_M_betweenOf_18 h
                · refine b_M_betweenOf_15 ?_
                  refine xgfL_mono (fun _ h => ?_) h
                  refine xite_mono (fun h => ?_) (fun h => ?_) h
                  · refine b_M_betweenOf_17 ?_
                    exact b_M_betweenOf_18 h
                  · refine b_M_betweenOf_16 ?_
                    exact b_M_betweenOf_18 h
              · refine b_M_betweenOf_13 ?_
                exact b_M_betweenOf_18 h
            · exact b_M_betweenOf_11 h
          · exact b_M_betweenOf_9 h
        · exact b_M_betweenOf_7 h
      · exact b_M_betweenOf_5 h
    · exact b_M_betweenOf_3 h
  · exact b_M_betweenOf_1 h
theorem t_M_betweenOf {sa : Nat → Nat} {d : Nat} {Q : xQ} {l0 : Nat} {l1 : Int32} {M : xM} (h : xgfI M l0 12 10 fun v1 => (if ¬ v1 = (nI 43) then (xgfI M l0 12 10 fun v2 => (if ¬ v2 = (nI 45) then (xgfI M l0 12 10 fun v3 => (if ¬ v3 = (nI 42) then (xgfI M l0 12 10 fun v4 => (if ¬ v4 = (nI 47) then (xobj M l0 12 ∧ xEv xP (xprim sa) d m_M_kindOpen [.ref l0, .int l1] M (xrI fun r1 M1 => if r1 = (nI 41) then (xobj M1 l0 12 ∧ xEv xP (xprim sa) d m_M_isCompared [.ref l0] M1 (xrI fun r2 M2 => if ¬ r2 = 0 then (xEv xP (xprim sa) d m_M_w3 [.int (nI 97), .int (nI 110), .int (nI 100)] M2 (xrL fun r3 M3 => xobj M3 l0 12 ∧ xEv xP (xprim sa) d m_M_isWord [.ref l0, .long r3] M3 (xrI fun r4 M4 => if r4 = 0 then (xgfI M4 l0 12 10 fun v5 => (if ¬ v5 = (nI 2) then (Q (some (.int (-1 : Int32))) M4) else (xgfL M4 l0 12 12 fun v6 => (if ¬ (lg_cmp v6 (28530 : Int64)) = 0 then (Q (some (.int (-1 : Int32))) M4) else (Q (some (.int (nI 22))) M4))))) else (Q (some (.int (nI 21))) M4)))) else (xobj M2 l0 12 ∧ xEv xP (xprim sa) d m_M_compareOf [.ref l0] M2 (xrI fun r5 M5 => Q (some (.int r5)) M5)))) else (Q (some (.int (-1 : Int32))) M1))) else (Q (some (.int (nI 6))) M))) else (Q (some (.int (nI 5))) M))) else (Q (some (.int (nI 4))) M))) else (Q (some (.int (nI 3))) M))) : xEv xP (xprim sa) (d + 1) m_M_betweenOf [.ref l0, .int l1] M Q := e_M_betweenOf (t_M_betweenOf_0 h)
set_option maxRecDepth 100000 in
theorem t_M_behindOne_0 {sa : Nat → Nat} {d : Nat} {Q : xQ} {l0 : Nat} {l1 : Int32} {M : xM} {u : xU} (h : xobj M l0 12 ∧ xEv xP (xprim sa) d m_M_betweenOf [.ref l0, .int l1] M (xrI fun r1 M1 => xobj M1 l0 12 ∧ xEv xP (xprim sa) d m_M_marker [.ref l0] M1 (xrI fun r2 M2 => if 0 ≤ r2 then (xgfR M2 l0 12 17 fun v1 => (xaI M2 v1 r2 fun v2 => (K_M_behindOne sa d Q 3 [some (.ref l0), none, some (.int r1), some (.int r2), none] [.int v2] M2 u))) else K_M_behindOne sa d Q 3 [some (.ref l0), none, some (.int r1), some (.int r2), none] [.int (-1 : Int32)] M2 u))) : K_M_behindOne sa d Q 0 [some (.ref l0), some (.int l1), none, none, none] [] M u := by
  refine b_M_behindOne_0 ?_
  obtain ⟨hz, h⟩ := h
  refine ⟨hz, ?_⟩
  refine xEv_post' _ _ _ _ _ (xrI_mono (fun _ _ h => ?_)) h
  obtain ⟨hz, h⟩ := h
  refine ⟨hz, ?_⟩
  refine xEv_post' _ _ _ _ _ (xrI_mono (fun _ _ h => ?_)) h
  refine xite_mono (fun h => ?_) (fun h => ?_) h
  · exact b_M_behindOne_2 h
  · exact b_M_behindOne_1 h
set_option maxRecDepth 100000 in
theorem t_M_behindOne_3 {sa : Nat → Nat} {d : Nat} {Q : xQ} {l0 : Nat} {l2 : Int32} {l3 : Int32} {s0 : Int32} {M : xM} {u : xU} (h : if l2 < 0 then (xgfI M l0 12 10 fun v1 => (if ¬ v1 = (nI 41) then K_M_behindOne sa d Q 7 [some (.ref l0), none, none, some (.int l3), some (.int s0)] [] M u else (if s0 = (nI 40) then K_M_behindOne sa d Q 9 [some (.ref l0), none, none, none, some (.int s0)] [] M u else K_M_behindOne sa d Q 7 [some (.ref l0), none, none, some (.int l3), some (.int s0)] [] M u))) else (xEv xP (xprim sa) d m_M_rank [.int l2] M (xrI fun r1 M1 => xobj M1 l0 12 ∧ xEv xP (xprim sa) d m_M_settle [.ref l0, .int r1] M1 (xrV fun M2 => xobj M2 l0 12 ∧ xEv xP (xprim sa) d m_M_push [.ref l0, .int l2] M2 (xrV fun M3 => ((nI 0) = 0 ∨ (nI 0) = 1) ∧ xpf M3 l0 12 20 (.int (nI 0)) fun M4 => (xobj M4 l0 12 ∧ xEv xP (xprim sa) d m_M_nextToken [.ref l0] M4 (xrV fun M5 => ((nI 1) = 0 ∨ (nI 1) = 1) ∧ Q (some (.int (nI 1))) M5))))))) : K_M_behindOne sa d Q 3 [some (.ref l0), none, some (.int l2), some (.int l3), none] [.int s0] M u := by
  refine b_M_behindOne_3 ?_
  refine xite_mono (fun h => ?_) (fun h => ?_) h
  · refine b_M_behindOne_5 ?_
    refine xgfI_mono (fun _ h => ?_) h
    refine xite_mono (fun h => ?_) (fun h => ?_) h
    · exact h
    · exact b_M_behindOne_6 h
  · refine b_M_behindOne_4 ?_
    refine xEv_post' _ _ _ _ _ (xrI_mono (fun _ _ h => ?_)) h
    obtain ⟨hz, h⟩ := h
    refine ⟨hz, ?_⟩
    refine xEv_post' _ _ _ _ _ (xrV_mono (fun _ h => ?_)) h
    obtain ⟨hz, h⟩ := h
    refine ⟨hz, ?_⟩
    refine xEv_post' _ _ _ _ _ (xrV_mono (fun _ h => ?_)) h
    obtain ⟨hz, h⟩ := h
    refine ⟨hz, ?_⟩
    refine xpf_mono (fun _ h => ?_) h
    exact b_M_behindOne_19 h
set_option maxRecDepth 100000 in
theorem t_M_behindOne_7 {sa : Nat → Nat} {d : Nat} {Q : xQ} {l0 : Nat} {l3 : Int32} {l4 : Int32} {M : xM} {u : xU} (h : xEv xP (xprim sa) d m_M_w3 [.int (nI 101), .int (nI 110), .int (nI 100)] M (xrL fun r1 M1 => xobj M1 l0 12 ∧ xEv xP (xprim sa) d m_M_isWord [.ref l0, .long r1] M1 (xrI fun r2 M2 => if r2 = 0 then K_M_behindOne sa d Q 12 [some (.ref l0), none, none, some (.int l3), some (.int l4)] [] M2 u else (if ¬ l4 = (nI 43) then K_M_behindOne sa d Q 12 [some (.ref l0), none, none, some (.int l3), some (.int l4)] [] M2 u else K_M_behindOne sa d Q 9 [some (.ref l0), none, none, none, some (.int l4)] [] M2 u)))) : K_M_behindOne sa d Q 7 [some (.ref l0), none, none, some (.int l3), some (.int l4)] [] M u := by
  refine b_M_behindOne_7 ?_
  refine xEv_post' _ _ _ _ _ (xrL_mono (fun _ _ h => ?_)) h
  obtain ⟨hz, h⟩ := h
  refine ⟨hz, ?_⟩
  refine xEv_post' _ _ _ _ _ (xrI_mono (fun _ _ h => ?_)) h
  refine xite_mono (fun h => ?_) (fun h => ?_) h
  · exact h
  · exact b_M_behindOne_8 h
set_option maxRecDepth 100000 in
theorem t_M_behindOne_9 {sa : Nat → Nat} {d : Nat} {Q : xQ} {l0 : Nat} {l4 : Int32} {M : xM} {u : xU} (h : xobj M l0 12 ∧ xEv xP (xprim sa) d m_M_settle [.ref l0, .int (nI 1)] M (xrV fun M1 => xgfI M1 l0 12 18 fun v1 => (xpf M1 l0 12 18 (.int (v1 - (nI 1))) fun M2 => (xgfI M2 l0 12 19 fun v2 => (xpf M2 l0 12 19 (.int (v2 - (nI 1))) fun M3 => (if ¬ l4 = (nI 43) then (xobj M3 l0 12 ∧ xEv xP (xprim sa) d m_M_whole [.ref l0] M3 (xrV fun M4 => xobj M4 l0 12 ∧ xEv xP (xprim sa) d m_M_nextToken [.ref l0] M4 (xrV fun M5 => ((nI 1) = 0 ∨ (nI 1) = 1) ∧ Q (some (.int (nI 1))) M5))) else (xobj M3 l0 12 ∧ xEv xP (xprim sa) d m_M_emit [.ref l0, .int (nI 23), .int (nI 0)] M3 (xrV fun M6 => xobj M6 l0 12 ∧ xEv xP (xprim sa) d m_M_whole [.ref l0] M6 (xrV fun M7 => xobj M7 l0 12 ∧ xEv xP (xprim sa) d m_M_nextToken [.ref l0] M7 (xrV fun M8 => ((nI 1) = 0 ∨ (nI 1) = 1) ∧ Q (some (.int (nI 1))) M8)))))))))) : K_M_behindOne sa d Q 9 [some (.ref l0), none, none, none, some (.int l4)] [] M u := by
  refine b_M_behindOne_9 ?_
  obtain ⟨hz, h⟩ := h
  refine ⟨hz, ?_⟩
  refine xEv_post' _ _ _ _ _ (xrV_mono (fun _ h => ?_)) h
  refine xgfI_mono (fun _ h => ?_) h
  refine xpf_mono (fun _ h => ?_) h
  refine xgfI_mono (fun _ h => ?_) h
  refine xpf_mono (fun _ h => ?_) h
  refine xite_mono (fun h => ?_) (fun h => ?_) h
  · refine b_M_behindOne_11 ?_
    obtain ⟨hz, h⟩ := h
    refine ⟨hz, ?_⟩
    refine xEv_post' _ _ _ _ _ (xrV_mono (fun _ h => ?_)) h
    exact b_M_behindOne_19 h
  · refine b_M_behindOne_10 ?_
    obtain ⟨hz, h⟩ := h
    refine ⟨hz, ?_⟩
    refine xEv_post' _ _ _ _ _ (xrV_mono (fun _ h => ?_)) h
    refine b_M_behindOne_11 ?_
    obtain ⟨hz, h⟩ := h
    refine ⟨hz, ?_⟩
    refine xEv_post' _ _ _ _ _ (xrV_mono (fun _ h => ?_)) h
    exact b_M_behindOne_19 h
set_option maxRecDepth 100000 in
theorem t_M_behindOne_12 {sa : Nat → Nat} {d : Nat} {Q : xQ} {l0 : Nat} {l3 : Int32} {l4 : Int32} {M : xM} {u : xU} (h : xgfI M l0 12 10 fun v1 => (if ¬ v1 = (nI 63) then K_M_behindOne sa d Q 15 [some (.ref l0), none, none, some (.int l3), some (.int l4)] [] M u else (if ¬ l4 = (nI 41) then K_M_behindOne sa d Q 15 [some (.ref l0), none, none, some (.int l3), some (.int l4)] [] M u else (xobj M l0 12 ∧ xEv xP (xprim sa) d m_M_isCompared [.ref l0] M (xrI fun r1 M1 => if ¬ r1 = 0 then (xobj M1 l0 12 ∧ xEv xP (xprim sa) d m_M_settle [.ref l0, .int (nI 1)] M1 (xrV fun M2 => xgfR M2 l0 12 17 fun v2 => (xsI M2 v2 l3 (l4 + (nI 1)) fun M3 => (((nI 0) = 0 ∨ (nI 0) = 1) ∧ xpf M3 l0 12 20 (.int (nI 0)) fun M4 => (xobj M4 l0 12 ∧ xEv xP (xprim sa) d m_M_nextToken [.ref l0] M4 (xrV fun M5 => ((nI 1) = 0 ∨ (nI 1) = 1) ∧ Q (some (.int (nI 1))) M5)))))) else K_M_behindOne sa d Q 15 [some (.ref l0), none, none, some (.int l3), some (.int l4)] [] M1 u))))) : K_M_behindOne sa d Q 12 [some (.ref l0), none, none, some (.int l3), some (.int l4)] [] M u := by
  refine b_M_behindOne_12 ?_
  refine xgfI_mono (fun _ h => ?_) h
  refine xite_mono (fun h => ?_) (fun h => ?_) h
  · exact h
  · refine b_M_behindOne_13 ?_
    refine xite_mono (fun h => ?_) (fun h => ?_) h
    · exact h
    · refine b_M_behindOne_14 ?_
      obtain ⟨hz, h⟩ := h
      refine ⟨hz, ?_⟩
      refine xEv_post' _ _ _ _ _ (xrI_mono (fun _ _ h => ?_)) h
      refine xite_mono (fun h => ?_) (fun h => ?_) h
      · refine b_M_behindOne_17 ?_
        obtain ⟨hz, h⟩ := h
        refine ⟨hz, ?_⟩
        refine xEv_post' _ _ _ _ _ (xrV_mono (fun _ h => ?_)) h
        refine xgfR_mono (fun _ h => ?_) h
        refine xsI_mono (fun _ h => ?_) h
        obtain ⟨hz, h⟩ := h
        refine ⟨hz, ?_⟩
        refine xpf_mono (fun _ h => ?_) h
        exact b_M_behindOne_19 h
      · exact h
set_option maxRecDepth 100000 in
theorem t_M_behindOne_15 {sa : Nat → Nat} {d : Nat} {Q : xQ} {l0 : Nat} {l3 : Int32} {l4 : Int32} {M : xM} {u : xU} (h : xgfI M l0 12 10 fun v1 => (if ¬ v1 = (nI 58) then (((nI 0) = 0 ∨ (nI 0) = 1) ∧ Q (some (.int (nI 0))) M) else (if ¬ l4 = (nI 42) then (((nI 0) = 0 ∨ (nI 0) = 1) ∧ Q (some (.int (nI 0))) M) else (xobj M l0 12 ∧ xEv xP (xprim sa) d m_M_settle [.ref l0, .int (nI 1)] M (xrV fun M1 => xgfR M1 l0 12 17 fun v2 => (xsI M1 v2 l3 (l4 + (nI 1)) fun M2 => (((nI 0) = 0 ∨ (nI 0) = 1) ∧ xpf M2 l0 12 20 (.int (nI 0)) fun M3 => (xobj M3 l0 12 ∧ xEv xP (xprim sa) d m_M_nextToken [.ref l0] M3 (xrV fun M4 => ((nI 1) = 0 ∨ (nI 1) = 1) ∧ Q (some (.int (nI 1))) M4))))))))) : K_M_behindOne sa d Q 15 [some (.ref l0), none, none, some (.int l3), some (.int l4)] [] M u := by
  refine b_M_behindOne_15 ?_
  refine xgfI_mono (fun _ h => ?_) h
  refine xite_mono (fun h => ?_) (fun h => ?_) h
  · exact b_M_behindOne_18 h
  · refine b_M_behindOne_16 ?_
    refine xite_mono (fun h => ?_) (fun h => ?_) h
    · exact b_M_behindOne_18 h
    · refine b_M_behindOne_17 ?_
      obtain ⟨hz, h⟩ := h
      refine ⟨hz, ?_⟩
      refine xEv_post' _ _ _ _ _ (xrV_mono (fun _ h => ?_)) h
      refine xgfR_mono (fun _ h => ?_) h
      refine xsI_mono (fun _ h => ?_) h
      obtain ⟨hz, h⟩ := h
      refine ⟨hz, ?_⟩
      refine xpf_mono (fun _ h => ?_) h
      exact b_M_behindOne_19 h
theorem t_M_behindOne {sa : Nat → Nat} {d : Nat} {Q : xQ} {l0 : Nat} {l1 : Int32} {M : xM} (h : xobj M l0 12 ∧ xEv xP (xprim sa) d m_M_betweenOf [.ref l0, .int l1] M (xrI fun r1 M1 => xobj M1 l0 12 ∧ xEv xP (xprim sa) d m_M_marker [.ref l0] M1 (xrI fun r2 M2 => if 0 ≤ r2 then (xgfR M2 l0 12 17 fun v1 => (xaI M2 v1 r2 fun v2 => (K_M_behindOne sa d Q 3 [some (.ref l0), none, some (.int r1), some (.int r2), none] [.int v2] M2 (0, 0)))) else K_M_behindOne sa d Q 3 [some (.ref l0), none, some (.int r1), some (.int r2), none] [.int (-1 : Int32)] M2 (0, 0)))) : xEv xP (xprim sa) (d + 1) m_M_behindOne [.ref l0, .int l1] M Q := e_M_behindOne (t_M_behindOne_0 h)
set_option maxRecDepth 100000 in
theorem t_M_parsed_0 {sa : Nat → Nat} {d : Nat} {Q : xQ} {l0 : Nat} {l1 : Int32} {M : xM} {u : xU} (h : xpf M l0 12 18 (.int (nI 0)) fun M1 => (((nI 0) = 0 ∨ (nI 0) = 1) ∧ xpf M1 l0 12 20 (.int (nI 0)) fun M2 => (K_M_parsed sa d Q 1 [some (.ref l0), some (.int l1), some (.int (nI 1)), none] [] M2 u))) : K_M_parsed sa d Q 0 [some (.ref l0), some (.int l1), none, none] [] M u := b_M_parsed_0 h
set_option maxRecDepth 100000 in
theorem t_M_parsed_1 {sa : Nat → Nat} {d : Nat} {Q : xQ} {l0 : Nat} {l1 : Int32} {l2 : Int32} {M : xM} {u : xU} (h : if l2 = 0 then (xobj M l0 12 ∧ xEv xP (xprim sa) d m_M_marker [.ref l0] M (xrI fun r1 M1 => if 0 ≤ r1 then (Q (some (.int (nI 1))) M1) else (if l1 = 0 then (xobj M1 l0 12 ∧ xEv xP (xprim sa) d m_M_settle [.ref l0, .int (nI 1)] M1 (xrV fun M2 => Q (some (.int (nI 0))) M2)) else (xobj M1 l0 12 ∧ xEv xP (xprim sa) d m_M_isCompared [.ref l0] M1 (xrI fun r2 M3 => if ¬ r2 = 0 then (xobj M3 l0 12 ∧ xEv xP (xprim sa) d m_M_settle [.ref l0, .int (nI 1)] M3 (xrV fun M4 => Q (some (.int (nI 0))) M4)) else (Q (some (.int (nI 1))) M3)))))) else (xgfI M l0 12 20 fun v1 => (if v1 = 0 then (xobj M l0 12 ∧ xEv xP (xprim sa) d m_M_beginOne [.ref l0, .int l1] M (xrI fun r3 M5 => if r3 = 0 then K_M_parsed sa d Q 1 [some (.ref l0), some (.int l1), some (.int l2), none] [] M5 u else (Q (some (.int r3)) M5))) else (xobj M l0 12 ∧ xEv xP (xprim sa) d m_M_behindOne [.ref l0, .int l1] M (xrI fun r4 M6 => K_M_parsed sa d Q 1 [some (.ref l0), some (.int l1), some (.int r4), none] [] M6 u))))) : K_M_parsed sa d Q 1 [some (.ref l0), some (.int l1), some (.int l2), none] [] M u := by
  refine b_M_parsed_1 ?_
  refine xite_mono (fun h => ?_) (fun h => ?_) h
  · refine b_M_parsed_7 ?_
    obtain ⟨hz, h⟩ := h
    refine ⟨hz, ?_⟩
    refine xEv_post' _ _ _ _ _ (xrI_mono (fun _ _ h => ?_)) h
    refine xite_mono (fun h => ?_) (fun h => ?_) h
    · exact b_M_parsed_10 h
    · refine b_M_parsed_8 ?_
      refine xite_mono (fun h => ?_) (fun h => ?_) h
      · exact b_M_parsed_11 h
      · refine b_M_parsed_9 ?_
        obtain ⟨hz, h⟩ := h
        refine ⟨hz, ?_⟩
        refine xEv_post' _ _ _ _ _ (xrI_mono (fun _ _ h => ?_)) h
        refine xite_mono (fun h => ?_) (fun h => ?_) h
        · exact b_M_parsed_11 h
        · exact b_M_parsed_10 h
  · refine b_M_parsed_2 ?_
    refine xgfI_mono (fun _ h => ?_) h
    refine xite_mono (fun h => ?_) (fun h => ?_) h
    · refine b_M_parsed_4 ?_
      obtain ⟨hz, h⟩ := h
      refine ⟨hz, ?_⟩
      refine xEv_post' _ _ _ _ _ (xrI_mono (fun _ _ h => ?_)) h
      refine xite_mono (fun h => ?_) (fun h => ?_) h
      · exact b_M_parsed_6 h
      · exact b_M_parsed_5 h
    · exact b_M_parsed_3 h
theorem t_M_parsed {sa : Nat → Nat} {d : Nat} {Q : xQ} {l0 : Nat} {l1 : Int32} {M : xM} (h : xpf M l0 12 18 (.int (nI 0)) fun M1 => (((nI 0) = 0 ∨ (nI 0) = 1) ∧ xpf M1 l0 12 20 (.int (nI 0)) fun M2 => (K_M_parsed sa d Q 1 [some (.ref l0), some (.int l1), some (.int (nI 1)), none] [] M2 (0, 0)))) : xEv xP (xprim sa) (d + 1) m_M_parsed [.ref l0, .int l1] M Q := e_M_parsed (t_M_parsed_0 h)
set_option maxRecDepth 100000 in
theorem t_M_isGotRight_0 {sa : Nat → Nat} {d : Nat} {Q : xQ} {l0 : Nat} {M : xM} {u : xU} (h : xgfI M l0 12 8 fun v1 => (xgfI M l0 12 9 fun v2 => (if ¬ (v1 - v2) = (nI 8) then (((nI 0) = 0 ∨ (nI 0) = 1) ∧ Q (some (.int (nI 0))) M) else (xgfI M l0 12 9 fun v3 => (xobj M l0 12 ∧ xEv xP (xprim sa) d m_M_byteAt [.ref l0, .int v3] M (xrI fun r1 M1 => if ¬ r1 = (nI 103) then (((nI 0) = 0 ∨ (nI 0) = 1) ∧ Q (some (.int (nI 0))) M1) else (xgfI M1 l0 12 9 fun v4 => (xobj M1 l0 12 ∧ xEv xP (xprim sa) d m_M_byteAt [.ref l0, .int (v4 + (nI 1))] M1 (xrI fun r2 M2 => if ¬ r2 = (nI 111) then (((nI 0) = 0 ∨ (nI 0) = 1) ∧ Q (some (.int (nI 0))) M2) else (xgfI M2 l0 12 9 fun v5 => (xobj M2 l0 12 ∧ xEv xP (xprim sa) d m_M_byteAt [.ref l0, .int (v5 + (nI 2))] M2 (xrI fun r3 M3 => if ¬ r3 = (nI 116) then (((nI 0) = 0 ∨ (nI 0) = 1) ∧ Q (some (.int (nI 0))) M3) else (xgfI M3 l0 12 9 fun v6 => (xobj M3 l0 12 ∧ xEv xP (xprim sa) d m_M_byteAt [.ref l0, .int (v6 + (nI 3))] M3 (xrI fun r4 M4 => if r4 = (nI 114) then (xgfI M4 l0 12 9 fun v7 => (xobj M4 l0 12 ∧ xEv xP (xprim sa) d m_M_byteAt [.ref l0, .int (v7 + (nI 4))] M4 (xrI fun r5 M5 => if ¬ r5 = (nI 105) then (((nI 0) = 0 ∨ (nI 0) = 1) ∧ Q (some (.int (nI 0))) M5) else (xgfI M5 l0 12 9 fun v8 => (xobj M5 l0 12 ∧ xEv xP (xprim sa) d m_M_byteAt [.ref l0, .int (v8 + (nI 5))] M5 (xrI fun r6 M6 => if ¬ r6 = (nI 103) then (((nI 0) = 0 ∨ (nI 0) = 1) ∧ Q (some (.int (nI 0))) M6) else (xgfI M6 l0 12 9 fun v9 => (xobj M6 l0 12 ∧ xEv xP (xprim sa) d m_M_byteAt [.ref l0, .int (v9 + (nI 6))] M6 (xrI fun r7 M7 => if ¬ r7 = (nI 104) then (((nI 0) = 0 ∨ (nI 0) = 1) ∧ Q (some (.int (nI 0))) M7) else (xgfI M7 l0 12 9 fun v10 => (xobj M7 l0 12 ∧ xEv xP (xprim sa) d m_M_byteAt [.ref l0, .int (v10 + (nI 7))] M7 (xrI fun r8 M8 => if ¬ r8 = (nI 116) then (((nI 0) = 0 ∨ (nI 0) = 1) ∧ Q (some (.int (nI 0))) M8) else (((nI 1) = 0 ∨ (nI 1) = 1) ∧ Q (some (.int (nI 1))) M8))))))))))))) else (((nI 0) = 0 ∨ (nI 0) = 1) ∧ Q (some (.int (nI 0))) M4)))))))))))))))) : K_M_isGotRight sa d Q 0 [some (.ref l0)] [] M u := by
  refine b_M_isGotRight_0 ?_
  refine xgfI_mono (fun _ h => ?_) h
  refine xgfI_mono (fun _ h => ?_) h
  refine xite_mono (fun h => ?_) (fun h => ?_) h
  · exact b_M_isGotRight_5 h
  · refine b_M_isGotRight_1 ?_
    refine xgfI_mono (fun _ h => ?_) h
    obtain ⟨hz, h⟩ := h
    refine ⟨hz, ?_⟩
    refine xEv_post' _ _ _ _ _ (xrI_mono (fun _ _ h => ?_)) h
    refine xite_mono (fun h => ?_) (fun h => ?_) h
    · exact b_M_isGotRight_5 h
    · refine b_M_isGotRight_2 ?_
      refine xgfI_mono (fun _ h => ?_) h
      obtain ⟨hz, h⟩ := h
      refine ⟨hz, ?_⟩
      refine xEv_post' _ _ _ _ _ (xrI_mono (fun _ _ h => ?_)) h
      refine xite_mono (fun h => ?_) (fun h => ?_) h
      · exact b_M_isGotRight_5 h
      · refine b_M_isGotRight_3 ?_
        refine xgfI_mono (fun _ h => ?_) h
        obtain ⟨hz, h⟩ := h
        refine ⟨hz, ?_⟩
        refine xEv_post' _ _ _ _ _ (xrI_mono (fun _ _ h => ?_)) h
        refine xite_mono (fun h => ?_) (fun h => ?_) h
        · exact b_M_isGotRight_5 h
        · refine b_M_isGotRight_4 ?_
          refine xgfI_mono (fun _ h => ?_) h
          obtain ⟨hz, h⟩ := h
          refine ⟨hz, ?_⟩
          refine xEv_post' _ _ _ _ _ (xrI_mono (fun _ _ h => ?_)) h
          refine xite_mono (fun h => ?_) (fun h => ?_) h
          · refine b_M_isGotRight_6 ?_
            refine xgfI_mono (fun _ h => ?_) h
            obtain ⟨hz, h⟩ := h
            refine ⟨hz, ?_⟩
            refine xEv_post' _ _ _ _ _ (xrI_mono (fun _ _ h => ?_)) h
            refine xite_mono (fun h => ?_) (fun h => ?_) h
            · refine b_M_isGotRight_11 ?_
              exact b_M_isGotRight_12 h
            · refine b_M_isGotRight_7 ?_
              refine xgfI_mono (fun _ h => ?_) h
              obtain ⟨hz, h⟩ := h
              refine ⟨hz, ?_⟩
              refine xEv_post' _ _ _ _ _ (xrI_mono (fun _ _ h => ?_)) h
              refine xite_mono (fun h => ?_) (fun h => ?_) h
              · refine b_M_isGotRight_11 ?_
                exact b_M_isGotRight_12 h
              · refine b_M_isGotRight_8 ?_
                refine xgfI_mono (fun _ h => ?_) h
                obtain ⟨hz, h⟩ := h
                refine ⟨hz, ?_⟩
                refine xEv_post' _ _ _ _ _ (xrI_mono (fun _ _ h => ?_)) h
                refine xite_mono (fun h => ?_) (fun h => ?_) h
                · refine b_M_isGotRight_11 ?_
                  exact b_M_isGotRight_12 h
                · refine b_M_isGotRight_9 ?_
                  refine xgfI_mono (fun _ h => ?_) h
                  obtain ⟨hz, h⟩ := h
                  refine ⟨hz, ?_⟩
                  refine xEv_post' _ _ _ _ _ (xrI_mono (fun _ _ h => ?_)) h
                  refine xite_mono (fun h => ?_) (fun h => ?_) h
                  · refine b_M_isGotRight_11 ?_
                    exact b_M_isGotRight_12 h
                  · refine b_M_isGotRight_10 ?_
                    exact b_M_isGotRight_12 h
          · exact b_M_isGotRight_5 h
theorem t_M_isGotRight {sa : Nat → Nat} {d : Nat} {Q : xQ} {l0 : Nat} {M : xM} (h : xgfI M l0 12 8 fun v1 => (xgfI M l0 12 9 fun v2 => (if ¬ (v1 - v2) = (nI 8) then (((nI 0) = 0 ∨ (nI 0) = 1) ∧ Q (some (.int (nI 0))) M) else (xgfI M l0 12 9 fun v3 => (xobj M l0 12 ∧ xEv xP (xprim sa) d m_M_byteAt [.ref l0, .int v3] M (xrI fun r1 M1 => if ¬ r1 = (nI 103) then (((nI 0) = 0 ∨ (nI 0) = 1) ∧ Q (some (.int (nI 0))) M1) else (xgfI M1 l0 12 9 fun v4 => (xobj M1 l0 12 ∧ xEv xP (xprim sa) d m_M_byteAt [.ref l0, .int (v4 + (nI 1))] M1 (xrI fun r2 M2 => if ¬ r2 = (nI 111) then (((nI 0) = 0 ∨ (nI 0) = 1) ∧ Q (some (.int (nI 0))) M2) else (xgfI M2 l0 12 9 fun v5 => (xobj M2 l0 12 ∧ xEv xP (xprim sa) d m_M_byteAt [.ref l0, .int (v5 + (nI 2))] M2 (xrI fun r3 M3 => if ¬ r3 = (nI 116) then (((nI 0) = 0 ∨ (nI 0) = 1) ∧ Q (some (.int (nI 0))) M3) else (xgfI M3 l0 12 9 fun v6 => (xobj M3 l0 12 ∧ xEv xP (xprim sa) d m_M_byteAt [.ref l0, .int (v6 + (nI 3))] M3 (xrI fun r4 M4 => if r4 = (nI 114) then (xgfI M4 l0 12 9 fun v7 => (xobj M4 l0 12 ∧ xEv xP (xprim sa) d m_M_byteAt [.ref l0, .int (v7 + (nI 4))] M4 (xrI fun r5 M5 => if ¬ r5 = (nI 105) then (((nI 0) = 0 ∨ (nI 0) = 1) ∧ Q (some (.int (nI 0))) M5) else (xgfI M5 l0 12 9 fun v8 => (xobj M5 l0 12 ∧ xEv xP (xprim sa) d m_M_byteAt [.ref l0, .int (v8 + (nI 5))] M5 (xrI fun r6 M6 => if ¬ r6 = (nI 103) then (((nI 0) = 0 ∨ (nI 0) = 1) ∧ Q (some (.int (nI 0))) M6) else (xgfI M6 l0 12 9 fun v9 => (xobj M6 l0 12 ∧ xEv xP (xprim sa) d m_M_byteAt [.ref l0, .int (v9 + (nI 6))] M6 (xrI fun r7 M7 => if ¬ r7 = (nI 104) then (((nI 0) = 0 ∨ (nI 0) = 1) ∧ Q (some (.int (nI 0))) M7) else (xgfI M7 l0 12 9 fun v10 => (xobj M7 l0 12 ∧ xEv xP (xprim sa) d m_M_byteAt [.ref l0, .int (v10 + (nI 7))] M7 (xrI fun r8 M8 => if ¬ r8 = (nI 116) then (((nI 0) = 0 ∨ (nI 0) = 1) ∧ Q (some (.int (nI 0))) M8) else (((nI 1) = 0 ∨ (nI 1) = 1) ∧ Q (some (.int (nI 1))) M8))))))))))))) else (((nI 0) = 0 ∨ (nI 0) = 1) ∧ Q (some (.int (nI 0))) M4)))))))))))))))) : xEv xP (xprim sa) (d + 1) m_M_isGotRight [.ref l0] M Q := e_M_isGotRight (t_M_isGotRight_0 h)
set_option maxRecDepth 100000 in
theorem t_M_nameOf_0 {sa : Nat → Nat} {d : Nat} {Q : xQ} {l0 : Nat} {M : xM} {u : xU} (h : xgfI M l0 12 10 fun v1 => (if v1 = (nI 2) then (xgfL M l0 12 12 fun v2 => (if ¬ (lg_cmp v2 (28005 : Int64)) = 0 then (xgfL M l0 12 12 fun v3 => (xEv xP (xprim sa) d m_M_w4 [.int (nI 107), .int (nI 101), .int (nI 112), .int (nI 116)] M (xrL fun r1 M1 => if ¬ (lg_cmp v3 r1) = 0 then (xgfL M1 l0 12 12 fun v4 => (xEv xP (xprim sa) d m_M_w3 [.int (nI 103), .int (nI 111), .int (nI 116)] M1 (xrL fun r2 M2 => xEv xP (xprim sa) d m_M_w4 [.int (nI 108), .int (nI 101), .int (nI 102), .int (nI 116)] M2 (xrL fun r3 M3 => if ¬ (lg_cmp v4 ((r2 <<< ((nI 32).toInt64 &&& 63)) ||| r3)) = 0 then (xobj M3 l0 12 ∧ xEv xP (xprim sa) d m_M_isGotRight [.ref l0] M3 (xrI fun r4 M4 => if r4 = 0 then (xgfL M4 l0 12 12 fun v5 => (xEv xP (xprim sa) d m_M_w4 [.int (nI 98), .int (nI 101), .int (nI 108), .int (nI 108)] M4 (xrL fun r5 M5 => if ¬ (lg_cmp v5 r5) = 0 then (xgfL M5 l0 12 12 fun v6 => (xEv xP (xprim sa) d m_M_w4 [.int (nI 104), .int (nI 111), .int (nI 117), .int (nI 114)] M5 (xrL fun r6 M6 => if ¬ (lg_cmp v6 r6) = 0 then (xgfL M6 l0 12 12 fun v7 => (xEv xP (xprim sa) d m_M_w5 [.int (nI 102), .int (nI 105), .int (nI 114), .int (nI 115), .int (nI 116)] M6 (xrL fun r7 M7 => if ¬ (lg_cmp v7 r7) = 0 then (xgfL M7 l0 12 12 fun v8 => (xEv xP (xprim sa) d m_M_w5 [.int (nI 114), .int (nI 111), .int (nI 111), .int (nI 109), .int (nI 115)] M7 (xrL fun r8 M8 => if ¬ (lg_cmp v8 r8) = 0 then (Q (some (.int (-1 : Int32))) M8) else (Q (some (.int (nI 7))) M8)))) else (Q (some (.int (nI 6))) M7)))) else (Q (some (.int (nI 5))) M6)))) else (Q (some (.int (nI 4))) M5)))) else (Q (some (.int (nI 3))) M4))) else (Q (some (.int (nI 2))) M3))))) else (Q (some (.int (nI 1))) M1)))) else (Q (some (.int (nI 0))) M))) else (Q (some (.int (-1 : Int32))) M))) : K_M_nameOf sa d Q 0 [some (.ref l0)] [] M u := by
  refine b_M_nameOf_0 ?_
  refine xgfI_mono (fun _ h => ?_) h
  refine xite_mono (fun h => ?_) (fun h => ?_) h
  · refine b_M_nameOf_2 ?_
    refine xgfL_mono (fun _ h => ?_) h
    refine xite_mono (fun h => ?_) (fun h => ?_) h
    · refine b_M_nameOf_4 ?_
      refine xgfL_mono (fun _ h => ?_) h
      refine xEv_post' _ _ _ _ _ (xrL_mono (fun _ _ h => ?_)) h
      refine xite_mono (fun h => ?_) (fun h => ?_) h
      · refine b_M_nameOf_6 ?_
        refine xgfL_mono (fun _ h => ?_) h
        refine xEv_post' _ _ _ _ _ (xrL_mono (fun _ _ h => ?_)) h
        refine xEv_post' _ _ _ _ _ (xrL_mono (fun _ _ h => ?_)) h
        refine xite_mono (fun h => ?_) (fun h => ?_) h
        · refine b_M_nameOf_8 ?_
          obtain ⟨hz, h⟩ := h
          refine ⟨hz, ?_⟩
          refine xEv_post' _ _ _ _ _ (xrI_mono (fun _ _ h => ?_)) h
          refine xite_mono (fun h => ?_) (fun h => ?_) h
          · refine b_M_nameOf_10 ?_
            refine xgfL_mono (fun _ h => ?_) h
            refine xEv_post' _ _ _ _ _ (xrL_mono (fun _ _ h => ?_)) h
            refine xite_mono (fun h => ?_) (fun h => ?_) h
            · refine b_M_nameOf_12 ?_
              refine xgfL_mono (fun _ h => ?_) h
              refine xEv_post' _ _ _ _ _ (xrL_mono (fun _ _ h => ?_)) h
              refine xite_mono (fun h => ?_) (fun h => ?_) h
              · refine b_M_nameOf_14 ?_
                refine xgfL_mono (fun _ h => ?_) h
                refine xEv_post' _ _ _ _ _ (xrL_mono (fun _ _ h => ?_)) h
                refine xite_mono (fun h => ?_) (fun h => ?_) h
                · refine b_M_nameOf_16 ?_
                  refine xgfL_mono (fun _ h => ?_) h
                  refine xEv_post' _ _ _ _ _ (xrL_mono (fun _ _ h => ?_)) h
                  refine xite_mono (fun h => ?_) (fun h => ?_) h
                  · refine b_M_nameOf_18 ?_
                    exact b_M_nameOf_19 h
                  · refine b_M_nameOf_17 ?_
                    exact b_M_nameOf_19 h
                · refine b_M_nameOf_15 ?_
                  exact b_M_nameOf_19 h
              · exact b_M_nameOf_13 h
            · exact b_M_nameOf_11 h
          · exact b_M_nameOf_9 h
        · exact b_M_nameOf_7 h
      · exact b_M_nameOf_5 h
    · exact b_M_nameOf_3 h
  · exact b_M_nameOf_1 h
theorem t_M_nameOf {sa : Nat → Nat} {d : Nat} {Q : xQ} {l0 : Nat} {M : xM} (h : xgfI M l0 12 10 fun v1 => (if v1 = (nI 2) then (xgfL M l0 12 12 fun v2 => (if ¬ (lg_cmp v2 (28005 : Int64)) = 0 then (xgfL M l0 12 12 fun v3 => (xEv xP (xprim sa) d m_M_w4 [.int (nI 107), .int (nI 101), .int (nI 112), .int (nI 116)] M (xrL fun r1 M1 => if ¬ (lg_cmp v3 r1) = 0 then (xgfL M1 l0 12 12 fun v4 => (xEv xP (xprim sa) d m_M_w3 [.int (nI 103), .int (nI 111), .int (nI 116)] M1 (xrL fun r2 M2 => xEv xP (xprim sa) d m_M_w4 [.int (nI 108), .int (nI 101), .int (nI 102), .int (nI 116)] M2 (xrL fun r3 M3 => if ¬ (lg_cmp v4 ((r2 <<< ((nI 32).toInt64 &&& 63)) ||| r3)) = 0 then (xobj M3 l0 12 ∧ xEv xP (xprim sa) d m_M_isGotRight [.ref l0] M3 (xrI fun r4 M4 => if r4 = 0 then (xgfL M4 l0 12 12 fun v5 => (xEv xP (xprim sa) d m_M_w4 [.int (nI 98), .int (nI 101), .int (nI 108), .int (nI 108)] M4 (xrL fun r5 M5 => if ¬ (lg_cmp v5 r5) = 0 then (xgfL M5 l0 12 12 fun v6 => (xEv xP (xprim sa) d m_M_w4 [.int (nI 104), .int (nI 111), .int (nI 117), .int (nI 114)] M5 (xrL fun r6 M6 => if ¬ (lg_cmp v6 r6) = 0 then (xgfL M6 l0 12 12 fun v7 => (xEv xP (xprim sa) d m_M_w5 [.int (nI 102), .int (nI 105), .int (nI 114), .int (nI 115), .int (nI 116)] M6 (xrL fun r7 M7 => if ¬ (lg_cmp v7 r7) = 0 then (xgfL M7 l0 12 12 fun v8 => (xEv xP (xprim sa) d m_M_w5 [.int (nI 114), .int (nI 111), .int (nI 111), .int (nI 109), .int (nI 115)] M7 (xrL fun r8 M8 => if ¬ (lg_cmp v8 r8) = 0 then (Q (some (.int (-1 : Int32))) M8) else (Q (some (.int (nI 7))) M8)))) else (Q (some (.int (nI 6))) M7)))) else (Q (some (.int (nI 5))) M6)))) else (Q (some (.int (nI 4))) M5)))) else (Q (some (.int (nI 3))) M4))) else (Q (some (.int (nI 2))) M3))))) else (Q (some (.int (nI 1))) M1)))) else (Q (some (.int (nI 0))) M))) else (Q (some (.int (-1 : Int32))) M))) : xEv xP (xprim sa) (d + 1) m_M_nameOf [.ref l0] M Q := e_M_nameOf (t_M_nameOf_0 h)
set_option maxRecDepth 100000 in
theorem t_M_sortOf_0 {sa : Nat → Nat} {d : Nat} {Q : xQ} {l0 : Nat} {M : xM} {u : xU} (h : xEv xP (xprim sa) d m_M_w4 [.int (nI 107), .int (nI 101), .int (nI 101), .int (nI 112)] M (xrL fun r1 M1 => xobj M1 l0 12 ∧ xEv xP (xprim sa) d m_M_isWord [.ref l0, .long r1] M1 (xrI fun r2 M2 => if r2 = 0 then (xEv xP (xprim sa) d m_M_w4 [.int (nI 108), .int (nI 101), .int (nI 102), .int (nI 116)] M2 (xrL fun r3 M3 => xobj M3 l0 12 ∧ xEv xP (xprim sa) d m_M_isWord [.ref l0, .long r3] M3 (xrI fun r4 M4 => if r4 = 0 then (xEv xP (xprim sa) d m_M_w5 [.int (nI 114), .int (nI 105), .int (nI 103), .int (nI 104), .int (nI 116)] M4 (xrL fun r5 M5 => xobj M5 l0 12 ∧ xEv xP (xprim sa) d m_M_isWord [.ref l0, .long r5] M5 (xrI fun r6 M6 => if r6 = 0 then (xEv xP (xprim sa) d m_M_w4 [.int (nI 119), .int (nI 111), .int (nI 114), .int (nI 100)] M6 (xrL fun r7 M7 => xobj M7 l0 12 ∧ xEv xP (xprim sa) d m_M_isWord [.ref l0, .long r7] M7 (xrI fun r8 M8 => if r8 = 0 then (xEv xP (xprim sa) d m_M_w4 [.int (nI 114), .int (nI 111), .int (nI 112), .int (nI 101)] M8 (xrL fun r9 M9 => xobj M9 l0 12 ∧ xEv xP (xprim sa) d m_M_isWord [.ref l0, .long r9] M9 (xrI fun r10 M10 => if r10 = 0 then (Q (some (.int (-1 : Int32))) M10) else (Q (some (.int (nI 4))) M10)))) else (Q (some (.int (nI 3))) M8)))) else (Q (some (.int (nI 2))) M6)))) else (Q (some (.int (nI 1))) M4)))) else (Q (some (.int (nI 0))) M2)))) : K_M_sortOf sa d Q 0 [some (.ref l0)] [] M u := by
  refine b_M_sortOf_0 ?_
  refine xEv_post' _ _ _ _ _ (xrL_mono (fun _ _ h => ?_)) h
  obtain ⟨hz, h⟩ := h
  refine ⟨hz, ?_⟩
  refine xEv_post' _ _ _ _ _ (xrI_mono (fun _ _ h => ?_)) h
  refine xite_mono (fun h => ?_) (fun h => ?_) h
  · refine b_M_sortOf_2 ?_
    refine xEv_post' _ _ _ _ _ (xrL_mono (fun _ _ h => ?_)) h
    obtain ⟨hz, h⟩ := h
    refine ⟨hz, ?_⟩
    refine xEv_post' _ _ _ _ _ (xrI_mono (fun _ _ h => ?_)) h
    refine xite_mono (fun h => ?_) (fun h => ?_) h
    · refine b_M_sortOf_4 ?_
      refine xEv_post' _ _ _ _ _ (xrL_mono (fun _ _ h => ?_)) h
      obtain ⟨hz, h⟩ := h
      refine ⟨hz, ?_⟩
      refine xEv_post' _ _ _ _ _ (xrI_mono (fun _ _ h => ?_)) h
      refine xite_mono (fun h => ?_) (fun h => ?_) h
      · refine b_M_sortOf_6 ?_
        refine xEv_post' _ _ _ _ _ (xrL_mono (fun _ _ h => ?_)) h
        obtain ⟨hz, h⟩ := h
        refine ⟨hz, ?_⟩
        refine xEv_post' _ _ _ _ _ (xrI_mono (fun _ _ h => ?_)) h
        refine xite_mono (fun h => ?_) (fun h => ?_) h
        · refine b_M_sortOf_8 ?_
          refine xEv_post' _ _ _ _ _ (xrL_mono (fun _ _ h => ?_)) h
          obtain ⟨hz, h⟩ := h
          refine ⟨hz, ?_⟩
          refine xEv_post' _ _ _ _ _ (xrI_mono (fun _ _ h => ?_)) h
          refine xite_mono (fun h => ?_) (fun h => ?_) h
          · refine b_M_sortOf_10 ?_
            exact b_M_sortOf_11 h
          · refine b_M_sortOf_9 ?_
            exact b_M_sortOf_11 h
        · refine b_M_sortOf_7 ?_
          exact b_M_sortOf_11 h
      · exact b_M_sortOf_5 h
    · exact b_M_sortOf_3 h
  · exact b_M_sortOf_1 h
theorem t_M_sortOf {sa : Nat → Nat} {d : Nat} {Q : xQ} {l0 : Nat} {M : xM} (h : xEv xP (xprim sa) d m_M_w4 [.int (nI 107), .int (nI 101), .int (nI 101), .int (nI 112)] M (xrL fun r1 M1 => xobj M1 l0 12 ∧ xEv xP (xprim sa) d m_M_isWord [.ref l0, .long r1] M1 (xrI fun r2 M2 => if r2 = 0 then (xEv xP (xprim sa) d m_M_w4 [.int (nI 108), .int (nI 101), .int (nI 102), .int (nI 116)] M2 (xrL fun r3 M3 => xobj M3 l0 12 ∧ xEv xP (xprim sa) d m_M_isWord [.ref l0, .long r3] M3 (xrI fun r4 M4 => if r4 = 0 then (xEv xP (xprim sa) d m_M_w5 [.int (nI 114), .int (nI 105), .int (nI 103), .int (nI 104), .int (nI 116)] M4 (xrL fun r5 M5 => xobj M5 l0 12 ∧ xEv xP (xprim sa) d m_M_isWord [.ref l0, .long r5] M5 (xrI fun r6 M6 => if r6 = 0 then (xEv xP (xprim sa) d m_M_w4 [.int (nI 119), .int (nI 111), .int (nI 114), .int (nI 100)] M6 (xrL fun r7 M7 => xobj M7 l0 12 ∧ xEv xP (xprim sa) d m_M_isWord [.ref l0, .long r7] M7 (xrI fun r8 M8 => if r8 = 0 then (xEv xP (xprim sa) d m_M_w4 [.int (nI 114), .int (nI 111), .int (nI 112), .int (nI 101)] M8 (xrL fun r9 M9 => xobj M9 l0 12 ∧ xEv xP (xprim sa) d m_M_isWord [.ref l0, .long r9] M9 (xrI fun r10 M10 => if r10 = 0 then (Q (some (.int (-1 : Int32))) M10) else (Q (some (.int (nI 4))) M10)))) else (Q (some (.int (nI 3))) M8)))) else (Q (some (.int (nI 2))) M6)))) else (Q (some (.int (nI 1))) M4)))) else (Q (some (.int (nI 0))) M2)))) : xEv xP (xprim sa) (d + 1) m_M_sortOf [.ref l0] M Q := e_M_sortOf (t_M_sortOf_0 h)
set_option maxRecDepth 100000 in
theorem t_M_clause_0 {sa : Nat → Nat} {d : Nat} {Q : xQ} {l0 : Nat} {M : xM} {u : xU} (h : xobj M l0 12 ∧ xEv xP (xprim sa) d m_M_sortOf [.ref l0] M (xrI fun r1 M1 => if 0 ≤ r1 then (if (nI 4) ≤ r1 then K_M_clause sa d Q 5 [some (.ref l0), some (.int r1), none, none, none] [] M1 u else (xgfI M1 l0 12 21 fun v1 => (if ¬ ((v1 >>> (r1 &&& 31)) &&& (nI 1)) = (nI 1) then K_M_clause sa d Q 5 [some (.ref l0), some (.int r1), none, none, none] [] M1 u else (Q (some (.int (nI 4))) M1)))) else (Q (some (.int (nI 1))) M1))) : K_M_clause sa d Q 0 [some (.ref l0), none, none, none, none] [] M u := by
  refine b_M_clause_0 ?_
  obtain ⟨hz, h⟩ := h
  refine ⟨hz, ?_⟩
  refine xEv_post' _ _ _ _ _ (xrI_mono (fun _ _ h => ?_)) h
  refine xite_mono (fun h => ?_) (fun h => ?_) h
  · refine b_M_clause_2 ?_
    refine xite_mono (fun h => ?_) (fun h => ?_) h
    · exact h
    · refine b_M_clause_3 ?_
      refine xgfI_mono (fun _ h => ?_) h
      refine xite_mono (fun h => ?_) (fun h => ?_) h
      · exact h
      · exact b_M_clause_4 h
  · exact b_M_clause_1 h
set_option maxRecDepth 100000 in
theorem t_M_clause_5 {sa : Nat → Nat} {d : Nat} {Q : xQ} {l0 : Nat} {l1 : Int32} {M : xM} {u : xU} (h : xgfR M l0 12 3 fun v1 => (xgfI M l0 12 13 fun v2 => (xaI M v1 v2 fun v3 => (if ¬ v3 = (nI 12) then (if (nI 4) ≤ l1 then K_M_clause sa d Q 9 [some (.ref l0), some (.int l1), some (.int v3), none, none] [] M u else (xgfI M l0 12 21 fun v4 => (xpf M l0 12 21 (.int (v4 ||| ((nI 1) <<< (l1 &&& 31)))) fun M1 => (K_M_clause sa d Q 9 [some (.ref l0), some (.int l1), some (.int v3), none, none] [] M1 u)))) else (Q (some (.int (nI 5))) M))))) : K_M_clause sa d Q 5 [some (.ref l0), some (.int l1), none, none, none] [] M u := by
  refine b_M_clause_5 ?_
  refine xgfR_mono (fun _ h => ?_) h
  refine xgfI_mono (fun _ h => ?_) h
  refine xaI_mono (fun _ h => ?_) h
  refine xite_mono (fun h => ?_) (fun h => ?_) h
  · refine b_M_clause_7 ?_
    refine xite_mono (fun h => ?_) (fun h => ?_) h
    · exact h
    · exact b_M_clause_8 h
  · exact b_M_clause_6 h
set_option maxRecDepth 100000 in
theorem t_M_clause_9 {sa : Nat → Nat} {d : Nat} {Q : xQ} {l0 : Nat} {l1 : Int32} {l2 : Int32} {M : xM} {u : xU} (h : xobj M l0 12 ∧ xEv xP (xprim sa) d m_M_nextToken [.ref l0] M (xrV fun M1 => xgfI M1 l0 12 13 fun v1 => (xgfR M1 l0 12 3 fun v2 => (xsI M1 v2 ((v1 + (nI 1)) + ((nI 3) * l2)) l1 fun M2 => (xgfR M2 l0 12 3 fun v3 => (xgfI M2 l0 12 15 fun v4 => (xsI M2 v3 (((v1 + (nI 1)) + ((nI 3) * l2)) + (nI 1)) v4 fun M3 => (if ¬ l1 = (nI 4) then K_M_clause sa d Q 12 [some (.ref l0), none, none, some (.int ((v1 + (nI 1)) + ((nI 3) * l2))), none] [.int (nI 0), .ref l0] M3 u else K_M_clause sa d Q 12 [some (.ref l0), none, none, some (.int ((v1 + (nI 1)) + ((nI 3) * l2))), none] [.int (nI 1), .ref l0] M3 u)))))))) : K_M_clause sa d Q 9 [some (.ref l0), some (.int l1), some (.int l2), none, none] [] M u := by
  refine b_M_clause_9 ?_
  obtain ⟨hz, h⟩ := h
  refine ⟨hz, ?_⟩
  refine xEv_post' _ _ _ _ _ (xrV_mono (fun _ h => ?_)) h
  refine xgfI_mono (fun _ h => ?_) h
  refine xgfR_mono (fun _ h => ?_) h
  refine xsI_mono (fun _ h => ?_) h
  refine xgfR_mono (fun _ h => ?_) h
  refine xgfI_mono (fun _ h => ?_) h
  refine xsI_mono (fun _ h => ?_) h
  refine xite_mono (fun h => ?_) (fun h => ?_) h
  · exact b_M_clause_11 h
  · exact b_M_clause_10 h
set_option maxRecDepth 100000 in
theorem t_M_clause_12 {sa : Nat → Nat} {d : Nat} {Q : xQ} {l0 : Nat} {l3 : Int32} {s0 : Int32} {s1 : Nat} {M : xM} {u : xU} (h : xobj M s1 12 ∧ xEv xP (xprim sa) d m_M_parsed [.ref s1, .int s0] M (xrI fun r1 M1 => if r1 = 0 then (xgfR M1 l0 12 3 fun v1 => (xgfI M1 l0 12 15 fun v2 => (xsI M1 v1 (l3 + (nI 2)) v2 fun M2 => (xgfR M2 l0 12 3 fun v3 => (xgfI M2 l0 12 13 fun v4 => (xaI M2 v3 v4 fun v5 => (xsI M2 v3 v4 (v5 + (nI 1)) fun M3 => (xgfI M3 l0 12 10 fun v6 => (if v6 = (nI 59) then (xobj M3 l0 12 ∧ xEv xP (xprim sa) d m_M_nextToken [.ref l0] M3 (xrV fun M4 => Q (some (.int (nI 0))) M4)) else (Q (some (.int (nI 1))) M3)))))))))) else (Q (some (.int r1)) M1))) : K_M_clause sa d Q 12 [some (.ref l0), none, none, some (.int l3), none] [.int s0, .ref s1] M u := by
  refine b_M_clause_12 ?_
  obtain ⟨hz, h⟩ := h
  refine ⟨hz, ?_⟩
  refine xEv_post' _ _ _ _ _ (xrI_mono (fun _ _ h => ?_)) h
  refine xite_mono (fun h => ?_) (fun h => ?_) h
  · refine b_M_clause_14 ?_
    refine xgfR_mono (fun _ h => ?_) h
    refine xgfI_mono (fun _ h => ?_) h
    refine xsI_mono (fun _ h => ?_) h
    refine xgfR_mono (fun _ h => ?_) h
    refine xgfI_mono (fun _ h => ?_) h
    refine xaI_mono (fun _ h => ?_) h
    refine xsI_mono (fun _ h => ?_) h
    refine xgfI_mono (fun _ h => ?_) h
    refine xite_mono (fun h => ?_) (fun h => ?_) h
    · exact b_M_clause_16 h
    · exact b_M_clause_15 h
  · exact b_M_clause_13 h
theorem t_M_clause {sa : Nat → Nat} {d : Nat} {Q : xQ} {l0 : Nat} {M : xM} (h : xobj M l0 12 ∧ xEv xP (xprim sa) d m_M_sortOf [.ref l0] M (xrI fun r1 M1 => if 0 ≤ r1 then (if (nI 4) ≤ r1 then K_M_clause sa d Q 5 [some (.ref l0), some (.int r1), none, none, none] [] M1 (0, 0) else (xgfI M1 l0 12 21 fun v1 => (if ¬ ((v1 >>> (r1 &&& 31)) &&& (nI 1)) = (nI 1) then K_M_clause sa d Q 5 [some (.ref l0), some (.int r1), none, none, none] [] M1 (0, 0) else (Q (some (.int (nI 4))) M1)))) else (Q (some (.int (nI 1))) M1))) : xEv xP (xprim sa) (d + 1) m_M_clause [.ref l0] M Q := e_M_clause (t_M_clause_0 h)
set_option maxRecDepth 100000 in
theorem t_M_readText_0 {sa : Nat → Nat} {d : Nat} {Q : xQ} {l0 : Nat} {M : xM} {u : xU} (h : xgfR M l0 12 0 fun v1 => (xaI M v1 (nI 0) fun v2 => (xpf M l0 12 13 (.int ((nI 645) * v2)) fun M1 => (xgfR M1 l0 12 3 fun v3 => (xgfI M1 l0 12 13 fun v4 => (xsI M1 v3 v4 (nI 0) fun M2 => (xpf M2 l0 12 15 (.int (nI 0)) fun M3 => (xpf M3 l0 12 19 (.int (nI 0)) fun M4 => (xpf M4 l0 12 21 (.int (nI 0)) fun M5 => (xpf M5 l0 12 8 (.int (nI 0)) fun M6 => (xobj M6 l0 12 ∧ xEv xP (xprim sa) d m_M_nextToken [.ref l0] M6 (xrV fun M7 => K_M_readText sa d Q 1 [some (.ref l0), none] [] M7 u)))))))))))) : K_M_readText sa d Q 0 [some (.ref l0), none] [] M u := b_M_readText_0 h
set_option maxRecDepth 100000 in
theorem t_M_readText_1 {sa : Nat → Nat} {d : Nat} {Q : xQ} {l0 : Nat} {M : xM} {u : xU} (h : xgfI M l0 12 10 fun v1 => (if v1 = 0 then (Q (some (.int (nI 0))) M) else (xobj M l0 12 ∧ xEv xP (xprim sa) d m_M_clause [.ref l0] M (xrI fun r1 M1 => if r1 = 0 then K_M_readText sa d Q 1 [some (.ref l0), none] [] M1 u else (Q (some (.int r1)) M1))))) : K_M_readText sa d Q 1 [some (.ref l0), none] [] M u := by
  refine b_M_readText_1 ?_
  refine xgfI_mono (fun _ h => ?_) h
  refine xite_mono (fun h => ?_) (fun h => ?_) h
  · exact b_M_readText_5 h
  · refine b_M_readText_2 ?_
    obtain ⟨hz, h⟩ := h
    refine ⟨hz, ?_⟩
    refine xEv_post' _ _ _ _ _ (xrI_mono (fun _ _ h => ?_)) h
    refine xite_mono (fun h => ?_) (fun h => ?_) h
    · exact b_M_readText_4 h
    · exact b_M_readText_3 h
theorem t_M_readText {sa : Nat → Nat} {d : Nat} {Q : xQ} {l0 : Nat} {M : xM} (h : xgfR M l0 12 0 fun v1 => (xaI M v1 (nI 0) fun v2 => (xpf M l0 12 13 (.int ((nI 645) * v2)) fun M1 => (xgfR M1 l0 12 3 fun v3 => (xgfI M1 l0 12 13 fun v4 => (xsI M1 v3 v4 (nI 0) fun M2 => (xpf M2 l0 12 15 (.int (nI 0)) fun M3 => (xpf M3 l0 12 19 (.int (nI 0)) fun M4 => (xpf M4 l0 12 21 (.int (nI 0)) fun M5 => (xpf M5 l0 12 8 (.int (nI 0)) fun M6 => (xobj M6 l0 12 ∧ xEv xP (xprim sa) d m_M_nextToken [.ref l0] M6 (xrV fun M7 => K_M_readText sa d Q 1 [some (.ref l0), none] [] M7 (0, 0))))))))))))) : xEv xP (xprim sa) (d + 1) m_M_readText [.ref l0] M Q := e_M_readText (t_M_readText_0 h)
set_option maxRecDepth 100000 in
theorem t_M_text_0 {sa : Nat → Nat} {d : Nat} {Q : xQ} {l0 : Nat} {M : xM} {u : xU} (h : xgfR M l0 12 0 fun v1 => (xaI M v1 (nI 0) fun v2 => (if ¬ v2 = (nI 4) then (xobj M l0 12 ∧ xEv xP (xprim sa) d m_M_readText [.ref l0] M (xrI fun r1 M1 => xpf M1 l0 12 6 (.int r1) fun M2 => (xgfI M2 l0 12 6 fun v3 => (if ¬ v3 = 0 then (xgfI M2 l0 12 9 fun v4 => (xpf M2 l0 12 7 (.int v4) fun M3 => (xpf M3 l0 12 5 (.int (nI 0)) fun M4 => (xgfI M4 l0 12 6 fun v5 => (if v5 = 0 then (xgfR M4 l0 12 0 fun v6 => (xaI M4 v6 (nI 0) fun v7 => (xsI M4 v6 (nI 0) (v7 + (nI 1)) fun M5 => (xgfR M5 l0 12 0 fun v8 => (xaI M5 v8 (nI 0) fun v9 => (Q (some (.int (v9 - (nI 1)))) M5)))))) else (Q (some (.int (-1 : Int32))) M4)))))) else (xpf M2 l0 12 7 (.int (-1 : Int32)) fun M6 => (xpf M6 l0 12 5 (.int (nI 0)) fun M7 => (xgfI M7 l0 12 6 fun v10 => (if v10 = 0 then (xgfR M7 l0 12 0 fun v11 => (xaI M7 v11 (nI 0) fun v12 => (xsI M7 v11 (nI 0) (v12 + (nI 1)) fun M8 => (xgfR M8 l0 12 0 fun v13 => (xaI M8 v13 (nI 0) fun v14 => (Q (some (.int (v14 - (nI 1)))) M8)))))) else (Q (some (.int (-1 : Int32))) M7))))))))) else (Q (some (.int (-1 : Int32))) M)))) : K_M_text sa d Q 0 [some (.ref l0)] [] M u := by
  refine b_M_text_0 ?_
  refine xgfR_mono (fun _ h => ?_) h
  refine xaI_mono (fun _ h => ?_) h
  refine xite_mono (fun h => ?_) (fun h => ?_) h
  · refine b_M_text_2 ?_
    obtain ⟨hz, h⟩ := h
    refine ⟨hz, ?_⟩
    refine xEv_post' _ _ _ _ _ (xrI_mono (fun _ _ h => ?_)) h
    refine xpf_mono (fun _ h => ?_) h
    refine xgfI_mono (fun _ h => ?_) h
    refine xite_mono (fun h => ?_) (fun h => ?_) h
    · refine b_M_text_4 ?_
      refine xgfI_mono (fun _ h => ?_) h
      refine b_M_text_5 ?_
      refine xpf_mono (fun _ h => ?_) h
      refine xpf_mono (fun _ h => ?_) h
      refine xgfI_mono (fun _ h => ?_) h
      refine xite_mono (fun h => ?_) (fun h => ?_) h
      · exact b_M_text_7 h
      · exact b_M_text_6 h
    · refine b_M_text_3 ?_
      refine b_M_text_5 ?_
      refine xpf_mono (fun _ h => ?_) h
      refine xpf_mono (fun _ h => ?_) h
      refine xgfI_mono (fun _ h => ?_) h
      refine xite_mono (fun h => ?_) (fun h => ?_) h
      · exact b_M_text_7 h
      · exact b_M_text_6 h
  · exact b_M_text_1 h
theorem t_M_text {sa : Nat → Nat} {d : Nat} {Q : xQ} {l0 : Nat} {M : xM} (h : xgfR M l0 12 0 fun v1 => (xaI M v1 (nI 0) fun v2 => (if ¬ v2 = (nI 4) then (xobj M l0 12 ∧ xEv xP (xprim sa) d m_M_readText [.ref l0] M (xrI fun r1 M1 => xpf M1 l0 12 6 (.int r1) fun M2 => (xgfI M2 l0 12 6 fun v3 => (if ¬ v3 = 0 then (xgfI M2 l0 12 9 fun v4 => (xpf M2 l0 12 7 (.int v4) fun M3 => (xpf M3 l0 12 5 (.int (nI 0)) fun M4 => (xgfI M4 l0 12 6 fun v5 => (if v5 = 0 then (xgfR M4 l0 12 0 fun v6 => (xaI M4 v6 (nI 0) fun v7 => (xsI M4 v6 (nI 0) (v7 + (nI 1)) fun M5 => (xgfR M5 l0 12 0 fun v8 => (xaI M5 v8 (nI 0) fun v9 => (Q (some (.int (v9 - (nI 1)))) M5)))))) else (Q (some (.int (-1 : Int32))) M4)))))) else (xpf M2 l0 12 7 (.int (-1 : Int32)) fun M6 => (xpf M6 l0 12 5 (.int (nI 0)) fun M7 => (xgfI M7 l0 12 6 fun v10 => (if v10 = 0 then (xgfR M7 l0 12 0 fun v11 => (xaI M7 v11 (nI 0) fun v12 => (xsI M7 v11 (nI 0) (v12 + (nI 1)) fun M8 => (xgfR M8 l0 12 0 fun v13 => (xaI M8 v13 (nI 0) fun v14 => (Q (some (.int (v14 - (nI 1)))) M8)))))) else (Q (some (.int (-1 : Int32))) M7))))))))) else (Q (some (.int (-1 : Int32))) M)))) : xEv xP (xprim sa) (d + 1) m_M_text [.ref l0] M Q := e_M_text (t_M_text_0 h)
set_option maxRecDepth 100000 in
theorem t_M_fault_0 {sa : Nat → Nat} {d : Nat} {Q : xQ} {l0 : Nat} {l1 : Int32} {M : xM} {u : xU} (h : if ¬ l1 = 0 then (if ¬ l1 = (nI 1) then (Q (some (.int (-1 : Int32))) M) else (xgfI M l0 12 7 fun v1 => (Q (some (.int v1)) M))) else (xgfI M l0 12 6 fun v2 => (Q (some (.int v2)) M))) : K_M_fault sa d Q 0 [some (.ref l0), some (.int l1)] [] M u := by
  refine b_M_fault_0 ?_
  refine xite_mono (fun h => ?_) (fun h => ?_) h
  · refine b_M_fault_2 ?_
    refine xite_mono (fun h => ?_) (fun h => ?_) h
    · refine b_M_fault_4 ?_
      exact b_M_fault_5 h
    · refine b_M_fault_3 ?_
      refine xgfI_mono (fun _ h => ?_) h
      exact b_M_fault_5 h
  · refine b_M_fault_1 ?_
    refine xgfI_mono (fun _ h => ?_) h
    exact b_M_fault_5 h
theorem t_M_fault {sa : Nat → Nat} {d : Nat} {Q : xQ} {l0 : Nat} {l1 : Int32} {M : xM} (h : if ¬ l1 = 0 then (if ¬ l1 = (nI 1) then (Q (some (.int (-1 : Int32))) M) else (xgfI M l0 12 7 fun v1 => (Q (some (.int v1)) M))) else (xgfI M l0 12 6 fun v2 => (Q (some (.int v2)) M))) : xEv xP (xprim sa) (d + 1) m_M_fault [.ref l0, .int l1] M Q := e_M_fault (t_M_fault_0 h)
set_option maxRecDepth 100000 in
theorem t_M_by_0 {sa : Nat → Nat} {d : Nat} {Q : xQ} {l0 : Nat} {l1 : Int32} {M : xM} {u : xU} (h : xgfR M l0 12 0 fun v1 => (xaI M v1 (nI 0) fun v2 => (xEv xP (xprim sa) d m_M_isIn [.int l1, .int (-1 : Int32), .int (v2 - (nI 1))] M (xrI fun r1 M1 => if ¬ r1 = 0 then (xgfR M1 l0 12 0 fun v3 => (xsI M1 v3 (nI 1) l1 fun M2 => (((nI 1) = 0 ∨ (nI 1) = 1) ∧ Q (some (.int (nI 1))) M2))) else (((nI 0) = 0 ∨ (nI 0) = 1) ∧ Q (some (.int (nI 0))) M1))))) : K_M_by sa d Q 0 [some (.ref l0), some (.int l1)] [] M u := by
  refine b_M_by_0 ?_
  refine xgfR_mono (fun _ h => ?_) h
  refine xaI_mono (fun _ h => ?_) h
  refine xEv_post' _ _ _ _ _ (xrI_mono (fun _ _ h => ?_)) h
  refine xite_mono (fun h => ?_) (fun h => ?_) h
  · exact b_M_by_2 h
  · exact b_M_by_1 h
theorem t_M_by {sa : Nat → Nat} {d : Nat} {Q : xQ} {l0 : Nat} {l1 : Int32} {M : xM} (h : xgfR M l0 12 0 fun v1 => (xaI M v1 (nI 0) fun v2 => (xEv xP (xprim sa) d m_M_isIn [.int l1, .int (-1 : Int32), .int (v2 - (nI 1))] M (xrI fun r1 M1 => if ¬ r1 = 0 then (xgfR M1 l0 12 0 fun v3 => (xsI M1 v3 (nI 1) l1 fun M2 => (((nI 1) = 0 ∨ (nI 1) = 1) ∧ Q (some (.int (nI 1))) M2))) else (((nI 0) = 0 ∨ (nI 0) = 1) ∧ Q (some (.int (nI 0))) M1))))) : xEv xP (xprim sa) (d + 1) m_M_by [.ref l0, .int l1] M Q := e_M_by (t_M_by_0 h)
set_option maxRecDepth 100000 in
theorem t_M_clip_0 {sa : Nat → Nat} {d : Nat} {Q : xQ} {l0 : Int64} {M : xM} {u : xU} (h : if (lg_cmp l0 (1000000 : Int64)) ≤ 0 then (if 0 ≤ (lg_cmp l0 (-1000000 : Int64)) then (Q (some (.long l0)) M) else (Q (some (.long (-1000000 : Int64))) M)) else (Q (some (.long (1000000 : Int64))) M)) : K_M_clip sa d Q 0 [some (.long l0), none] [] M u := by
  refine b_M_clip_0 ?_
  refine xite_mono (fun h => ?_) (fun h => ?_) h
  · refine b_M_clip_2 ?_
    refine xite_mono (fun h => ?_) (fun h => ?_) h
    · refine b_M_clip_4 ?_
      exact b_M_clip_5 h
    · refine b_M_clip_3 ?_
      exact b_M_clip_5 h
  · refine b_M_clip_1 ?_
    exact b_M_clip_5 h
theorem t_M_clip {sa : Nat → Nat} {d : Nat} {Q : xQ} {l0 : Int64} {M : xM} (h : if (lg_cmp l0 (1000000 : Int64)) ≤ 0 then (if 0 ≤ (lg_cmp l0 (-1000000 : Int64)) then (Q (some (.long l0)) M) else (Q (some (.long (-1000000 : Int64))) M)) else (Q (some (.long (1000000 : Int64))) M)) : xEv xP (xprim sa) (d + 1) m_M_clip [.long l0] M Q := e_M_clip (t_M_clip_0 h)
set_option maxRecDepth 100000 in
theorem t_M_two_0 {sa : Nat → Nat} {d : Nat} {Q : xQ} {l0 : Int32} {l1 : Int64} {l3 : Int64} {M : xM} {u : xU} (h : if l0 = (nI 3) then (xEv xP (xprim sa) d m_M_clip [.long (l1 + l3)] M (xrL fun r2 M2 => Q (some (.long r2)) M2)) else (if l0 = (nI 4) then (xEv xP (xprim sa) d m_M_clip [.long (l1 - l3)] M (xrL fun r3 M3 => Q (some (.long r3)) M3)) else (if l0 = (nI 5) then (xEv xP (xprim sa) d m_M_clip [.long (l1 * l3)] M (xrL fun r4 M4 => Q (some (.long r4)) M4)) else (if ¬ (lg_cmp l3 (0 : Int64)) = 0 then (¬ l3 = 0 ∧ xEv xP (xprim sa) d m_M_clip [.long (l1 / l3)] M (xrL fun r1 M1 => Q (some (.long r1)) M1)) else (Q (some (.long (0 : Int64))) M))))) : K_M_two sa d Q 0 [some (.int l0), some (.long l1), none, some (.long l3), none] [] M u := by
  refine b_M_two_0 ?_
  refine xite_mono (fun h => ?_) (fun h => ?_) h
  · exact b_M_two_1 h
  · refine xite_mono (fun h => ?_) (fun h => ?_) h
    · exact b_M_two_2 h
    · refine xite_mono (fun h => ?_) (fun h => ?_) h
      · exact b_M_two_3 h
      · refine b_M_two_4 ?_
        refine xite_mono (fun h => ?_) (fun h => ?_) h
        · refine b_M_two_6 ?_
          obtain ⟨hz, h⟩ := h
          refine ⟨hz, ?_⟩
          refine xEv_post' _ _ _ _ _ (xrL_mono (fun _ _ h => ?_)) h
          exact b_M_two_7 h
        · refine b_M_two_5 ?_
          exact b_M_two_7 h
theorem t_M_two {sa : Nat → Nat} {d : Nat} {Q : xQ} {l0 : Int32} {l1 : Int64} {l3 : Int64} {M : xM} (h : if l0 = (nI 3) then (xEv xP (xprim sa) d m_M_clip [.long (l1 + l3)] M (xrL fun r2 M2 => Q (some (.long r2)) M2)) else (if l0 = (nI 4) then (xEv xP (xprim sa) d m_M_clip [.long (l1 - l3)] M (xrL fun r3 M3 => Q (some (.long r3)) M3)) else (if l0 = (nI 5) then (xEv xP (xprim sa) d m_M_clip [.long (l1 * l3)] M (xrL fun r4 M4 => Q (some (.long r4)) M4)) else (if ¬ (lg_cmp l3 (0 : Int64)) = 0 then (¬ l3 = 0 ∧ xEv xP (xprim sa) d m_M_clip [.long (l1 / l3)] M (xrL fun r1 M1 => Q (some (.long r1)) M1)) else (Q (some (.long (0 : Int64))) M))))) : xEv xP (xprim sa) (d + 1) m_M_two [.int l0, .long l1, .long l3] M Q := e_M_two (t_M_two_0 h)
set_option maxRecDepth 100000 in
theorem t_M_isAsked_0 {sa : Nat → Nat} {d : Nat} {Q : xQ} {l0 : Int32} {l1 : Int64} {l3 : Int64} {M : xM} {u : xU} (h : if ¬ l0 = (nI 10) then (if ¬ l0 = (nI 11) then (if ¬ l0 = (nI 12) then (if ¬ l0 = (nI 13) then (if ¬ l0 = (nI 14) then (if (lg_cmp l1 l3) = 0 then (((nI 0) = 0 ∨ (nI 0) = 1) ∧ Q (some (.int (nI 0))) M) else (((nI 1) = 0 ∨ (nI 1) = 1) ∧ Q (some (.int (nI 1))) M)) else (if ¬ (lg_cmp l1 l3) = 0 then (((nI 0) = 0 ∨ (nI 0) = 1) ∧ Q (some (.int (nI 0))) M) else (((nI 1) = 0 ∨ (nI 1) = 1) ∧ Q (some (.int (nI 1))) M))) else (if (lg_cmp l1 l3) < 0 then (((nI 0) = 0 ∨ (nI 0) = 1) ∧ Q (some (.int (nI 0))) M) else (((nI 1) = 0 ∨ (nI 1) = 1) ∧ Q (some (.int (nI 1))) M))) else (if (lg_cmp l1 l3) ≤ 0 then (((nI 0) = 0 ∨ (nI 0) = 1) ∧ Q (some (.int (nI 0))) M) else (((nI 1) = 0 ∨ (nI 1) = 1) ∧ Q (some (.int (nI 1))) M))) else (if 0 < (lg_cmp l1 l3) then (((nI 0) = 0 ∨ (nI 0) = 1) ∧ Q (some (.int (nI 0))) M) else (((nI 1) = 0 ∨ (nI 1) = 1) ∧ Q (some (.int (nI 1))) M))) else (if 0 ≤ (lg_cmp l1 l3) then (((nI 0) = 0 ∨ (nI 0) = 1) ∧ Q (some (.int (nI 0))) M) else (((nI 1) = 0 ∨ (nI 1) = 1) ∧ Q (some (.int (nI 1))) M))) : K_M_isAsked sa d Q 0 [some (.int l0), some (.long l1), none, some (.long l3), none] [] M u := by
  refine b_M_isAsked_0 ?_
  refine xite_mono (fun h => ?_) (fun h => ?_) h
  · refine b_M_isAsked_4 ?_
    refine xite_mono (fun h => ?_) (fun h => ?_) h
    · refine b_M_isAsked_8 ?_
      refine xite_mono (fun h => ?_) (fun h => ?_) h
      · refine b_M_isAsked_12 ?_
        refine xite_mono (fun h => ?_) (fun h => ?_) h
        · refine b_M_isAsked_16 ?_
          refine xite_mono (fun h => ?_) (fun h => ?_) h
          · refine b_M_isAsked_20 ?_
            refine xite_mono (fun h => ?_) (fun h => ?_) h
            · refine b_M_isAsked_22 ?_
              exact b_M_isAsked_23 h
            · refine b_M_isAsked_21 ?_
              exact b_M_isAsked_23 h
          · refine b_M_isAsked_17 ?_
            refine xite_mono (fun h => ?_) (fun h => ?_) h
            · refine b_M_isAsked_19 ?_
              exact b_M_isAsked_23 h
            · refine b_M_isAsked_18 ?_
              exact b_M_isAsked_23 h
        · refine b_M_isAsked_13 ?_
          refine xite_mono (fun h => ?_) (fun h => ?_) h
          · refine b_M_isAsked_15 ?_
            exact b_M_isAsked_23 h
          · refine b_M_isAsked_14 ?_
            exact b_M_isAsked_23 h
      · refine b_M_isAsked_9 ?_
        refine xite_mono (fun h => ?_) (fun h => ?_) h
        · refine b_M_isAsked_11 ?_
          exact b_M_isAsked_23 h
        · refine b_M_isAsked_10 ?_
          exact b_M_isAsked_23 h
    · refine b_M_isAsked_5 ?_
      refine xite_mono (fun h => ?_) (fun h => ?_) h
      · refine b_M_isAsked_7 ?_
        exact b_M_isAsked_23 h
      · refine b_M_isAsked_6 ?_
        exact b_M_isAsked_23 h
  · refine b_M_isAsked_1 ?_
    refine xite_mono (fun h => ?_) (fun h => ?_) h
    · refine b_M_isAsked_3 ?_
      exact b_M_isAsked_23 h
    · refine b_M_isAsked_2 ?_
      exact b_M_isAsked_23 h
theorem t_M_isAsked {sa : Nat → Nat} {d : Nat} {Q : xQ} {l0 : Int32} {l1 : Int64} {l3 : Int64} {M : xM} (h : if ¬ l0 = (nI 10) then (if ¬ l0 = (nI 11) then (if ¬ l0 = (nI 12) then (if ¬ l0 = (nI 13) then (if ¬ l0 = (nI 14) then (if (lg_cmp l1 l3) = 0 then (((nI 0) = 0 ∨ (nI 0) = 1) ∧ Q (some (.int (nI 0))) M) else (((nI 1) = 0 ∨ (nI 1) = 1) ∧ Q (some (.int (nI 1))) M)) else (if ¬ (lg_cmp l1 l3) = 0 then (((nI 0) = 0 ∨ (nI 0) = 1) ∧ Q (some (.int (nI 0))) M) else (((nI 1) = 0 ∨ (nI 1) = 1) ∧ Q (some (.int (nI 1))) M))) else (if (lg_cmp l1 l3) < 0 then (((nI 0) = 0 ∨ (nI 0) = 1) ∧ Q (some (.int (nI 0))) M) else (((nI 1) = 0 ∨ (nI 1) = 1) ∧ Q (some (.int (nI 1))) M))) else (if (lg_cmp l1 l3) ≤ 0 then (((nI 0) = 0 ∨ (nI 0) = 1) ∧ Q (some (.int (nI 0))) M) else (((nI 1) = 0 ∨ (nI 1) = 1) ∧ Q (some (.int (nI 1))) M))) else (if 0 < (lg_cmp l1 l3) then (((nI 0) = 0 ∨ (nI 0) = 1) ∧ Q (some (.int (nI 0))) M) else (((nI 1) = 0 ∨ (nI 1) = 1) ∧ Q (some (.int (nI 1))) M))) else (if 0 ≤ (lg_cmp l1 l3) then (((nI 0) = 0 ∨ (nI 0) = 1) ∧ Q (some (.int (nI 0))) M) else (((nI 1) = 0 ∨ (nI 1) = 1) ∧ Q (some (.int (nI 1))) M))) : xEv xP (xprim sa) (d + 1) m_M_isAsked [.int l0, .long l1, .long l3] M Q := e_M_isAsked (t_M_isAsked_0 h)
set_option maxRecDepth 100000 in
theorem t_M_work_0 {sa : Nat → Nat} {d : Nat} {Q : xQ} {l0 : Nat} {l1 : Int32} {M : xM} {u : xU} (h : xgfR M l0 12 0 fun v1 => (xaI M v1 (nI 1) fun v2 => (xgfR M l0 12 0 fun v3 => (xaI M v3 (nI 1) fun v4 => (xgfR M l0 12 3 fun v5 => (xaI M v5 (((((nI 645) * v2) + (nI 1)) + ((nI 3) * l1)) + (nI 1)) fun v6 => (K_M_work sa d Q 1 [some (.ref l0), none, some (.int ((((nI 645) * v2) + (nI 1)) + ((nI 3) * l1))), some (.int (((nI 645) * v4) + (nI 40))), some (.int (nI 0)), some (.int (nI 0)), some (.int v6), none, none] [] M u))))))) : K_M_work sa d Q 0 [some (.ref l0), some (.int l1), none, none, none, none, none, none, none] [] M u := b_M_work_0 h
set_option maxRecDepth 100000 in
theorem t_M_work_1 {sa : Nat → Nat} {d : Nat} {Q : xQ} {l0 : Nat} {l2 : Int32} {l3 : Int32} {l4 : Int32} {l5 : Int32} {l6 : Int32} {M : xM} {u : xU} (h : xgfR M l0 12 3 fun v1 => (xaI M v1 (l2 + (nI 2)) fun v2 => (if v2 ≤ l6 then (Q none M) else (xgfR M l0 12 3 fun v3 => (xaI M v3 (l3 + ((nI 2) * l6)) fun v4 => (xgfR M l0 12 3 fun v5 => (xaI M v5 ((l3 + ((nI 2) * l6)) + (nI 1)) fun v6 => (if (nI 1) < v4 then (if ¬ v4 = (nI 2) then (if (nI 10) ≤ v4 then (if (nI 20) ≤ v4 then (if ¬ v4 = (nI 20) then (if ¬ v4 = (nI 23) then (xgfR M l0 12 24 fun v7 => (if ¬ v4 = (nI 21) then (xgfR M l0 12 24 fun v8 => (xaZ M v8 ((l5 + (-1 : Int32)) - (nI 1)) fun v9 => (if ¬ v9 = 0 then (xsZ M v7 ((l5 + (-1 : Int32)) - (nI 1)) (nI 1) fun M1 => (K_M_work sa d Q 1 [some (.ref l0), none, some (.int l2), some (.int l3), some (.int l4), some (.int (l5 + (-1 : Int32))), some (.int (l6 + (nI 1))), none, none] [] M1 u)) else (xgfR M l0 12 24 fun v10 => (xaZ M v10 (l5 + (-1 : Int32)) fun v11 => (if v11 = 0 then (xsZ M v7 ((l5 + (-1 : Int32)) - (nI 1)) (nI 0) fun M2 => (K_M_work sa d Q 1 [some (.ref l0), none, some (.int l2), some (.int l3), some (.int l4), some (.int (l5 + (-1 : Int32))), some (.int (l6 + (nI 1))), none, none] [] M2 u)) else (xsZ M v7 ((l5 + (-1 : Int32)) - (nI 1)) (nI 1) fun M3 => (K_M_work sa d Q 1 [some (.ref l0), none, some (.int l2), some (.int l3), some (.int l4), some (.int (l5 + (-1 : Int32))), some (.int (l6 + (nI 1))), none, none] [] M3 u)))))))) else (xgfR M l0 12 24 fun v12 => (xaZ M v12 ((l5 + (-1 : Int32)) - (nI 1)) fun v13 => (if v13 = 0 then (xsZ M v7 ((l5 + (-1 : Int32)) - (nI 1)) (nI 0) fun M4 => (K_M_work sa d Q 1 [some (.ref l0), none, some (.int l2), some (.int l3), some (.int l4), some (.int (l5 + (-1 : Int32))), some (.int (l6 + (nI 1))), none, none] [] M4 u)) else (xgfR M l0 12 24 fun v14 => (xaZ M v14 (l5 + (-1 : Int32)) fun v15 => (if v15 = 0 then (xsZ M v7 ((l5 + (-1 : Int32)) - (nI 1)) (nI 0) fun M5 => (K_M_work sa d Q 1 [some (.ref l0), none, some (.int l2), some (.int l3), some (.int l4), some (.int (l5 + (-1 : Int32))), some (.int (l6 + (nI 1))), none, none] [] M5 u)) else (xsZ M v7 ((l5 + (-1 : Int32)) - (nI 1)) (nI 1) fun M6 => (K_M_work sa d Q 1 [some (.ref l0), none, some (.int l2), some (.int l3), some (.int l4), some (.int (l5 + (-1 : Int32))), some (.int (l6 + (nI 1))), none, none] [] M6 u)))))))))) else (xgfR M l0 12 23 fun v16 => (xgfR M l0 12 24 fun v17 => (xaZ M v17 (l5 + (-1 : Int32)) fun v18 => (if v18 = 0 then (xgfR M l0 12 23 fun v19 => (xaL M v19 (l4 + (-1 : Int32)) fun v20 => (xsL M v16 ((l4 + (-1 : Int32)) - (nI 1)) v20 fun M7 => (K_M_work sa d Q 1 [some (.ref l0), none, some (.int l2), some (.int l3), some (.int (l4 + (-1 : Int32))), some (.int (l5 + (-1 : Int32))), some (.int (l6 + (nI 1))), none, none] [] M7 u)))) else (xgfR M l0 12 23 fun v21 => (xaL M v21 ((l4 + (-1 : Int32)) - (nI 1)) fun v22 => (xsL M v16 ((l4 + (-1 : Int32)) - (nI 1)) v22 fun M8 => (K_M_work sa d Q 1 [some (.ref l0), none, some (.int l2), some (.int l3), some (.int (l4 + (-1 : Int32))), some (.int (l5 + (-1 : Int32))), some (.int (l6 + (nI 1))), none, none] [] M8 u))))))))) else (xgfR M l0 12 24 fun v23 => (xgfR M l0 12 24 fun v24 => (xaZ M v24 (l5 - (nI 1)) fun v25 => (if ¬ v25 = 0 then (xsZ M v23 (l5 - (nI 1)) (nI 0) fun M9 => (K_M_work sa d Q 1 [some (.ref l0), none, some (.int l2), some (.int l3), some (.int l4), some (.int l5), some (.int (l6 + (nI 1))), none, none] [] M9 u)) else (xsZ M v23 (l5 - (nI 1)) (nI 1) fun M10 => (K_M_work sa d Q 1 [some (.ref l0), none, some (.int l2), some (.int l3), some (.int l4), some (.int l5), some (.int (l6 + (nI 1))), none, none] [] M10 u))))))) else (xgfR M l0 12 24 fun v26 => (xgfR M l0 12 23 fun v27 => (xaL M v27 (l4 + (-2 : Int32)) fun v28 => (xgfR M l0 12 23 fun v29 => (xaL M v29 ((l4 + (-2 : Int32)) + (nI 1)) fun v30 => (xEv xP (xprim sa) d m_M_isAsked [.int v4, .long v28, .long v30] M (xrI fun r1 M11 => xsZ M11 v26 l5 r1 fun M12 => (K_M_work sa d Q 1 [some (.ref l0), none, some (.int l2), some (.int l3), some (.int (l4 + (-2 : Int32))), some (.int (l5 + (nI 1))), some (.int (l6 + (nI 1))), none, none] [] M12 u))))))))) else (xgfR M l0 12 23 fun v31 => (xgfR M l0 12 23 fun v32 => (xaL M v32 ((l4 + (-1 : Int32)) - (nI 1)) fun v33 => (xgfR M l0 12 23 fun v34 => (xaL M v34 (l4 + (-1 : Int32)) fun v35 => (xEv xP (xprim sa) d m_M_two [.int v4, .long v33, .long v35] M (xrL fun r2 M13 => xsL M13 v31 ((l4 + (-1 : Int32)) - (nI 1)) r2 fun M14 => (K_M_work sa d Q 1 [some (.ref l0), none, some (.int l2), some (.int l3), some (.int (l4 + (-1 : Int32))), some (.int l5), some (.int (l6 + (nI 1))), none, none] [] M14 u))))))))) else (xgfR M l0 12 23 fun v36 => (xgfR M l0 12 23 fun v37 => (xaL M v37 (l4 - (nI 1)) fun v38 => (xsL M v36 (l4 - (nI 1)) (-v38) fun M15 => (K_M_work sa d Q 1 [some (.ref l0), none, some (.int l2), some (.int l3), some (.int l4), some (.int l5), some (.int (l6 + (nI 1))), none, none] [] M15 u)))))) else (xgfR M l0 12 23 fun v39 => (if ¬ v4 = 0 then (xgfR M l0 12 22 fun v40 => (xaI M v40 v6 fun v41 => (xsL M v39 l4 v41.toInt64 fun M16 => (K_M_work sa d Q 1 [some (.ref l0), none, some (.int l2), some (.int l3), some (.int (l4 + (nI 1))), some (.int l5), some (.int (l6 + (nI 1))), none, none] [] M16 u)))) else (xsL M v39 l4 v6.toInt64 fun M17 => (K_M_work sa d Q 1 [some (.ref l0), none, some (.int l2), some (.int l3), some (.int (l4 + (nI 1))), some (.int l5), some (.int (l6 + (nI 1))), none, none] [] M17 u)))))))))))) : K_M_work sa d Q 1 [some (.ref l0), none, some (.int l2), some (.int l3), some (.int l4), some (.int l5), some (.int l6), none, none] [] M u := by
  refine b_M_work_1 ?_
  refine xgfR_mono (fun _ h => ?_) h
  refine xaI_mono (fun _ h => ?_) h
  refine xite_mono (fun h => ?_) (fun h => ?_) h
  · exact b_M_work_34 h
  · refine b_M_work_2 ?_
    refine xgfR_mono (fun _ h => ?_) h
    refine xaI_mono (fun _ h => ?_) h
    refine xgfR_mono (fun _ h => ?_) h
    refine xaI_mono (fun _ h => ?_) h
    refine xite_mono (fun h => ?_) (fun h => ?_) h
    · refine b_M_work_7 ?_
      refine xite_mono (fun h => ?_) (fun h => ?_) h
      · refine b_M_work_9 ?_
        refine xite_mono (fun h => ?_) (fun h => ?_) h
        · refine b_M_work_11 ?_
          refine xite_mono (fun h => ?_) (fun h => ?_) h
          · refine b_M_work_13 ?_
            refine xite_mono (fun h => ?_) (fun h => ?_) h
            · refine b_M_work_18 ?_
              refine xite_mono (fun h => ?_) (fun h => ?_) h
              · refine b_M_work_23 ?_
                refine xgfR_mono (fun _ h => ?_) h
                refine xite_mono (fun h => ?_) (fun h => ?_) h
                · refine b_M_work_28 ?_
                  refine xgfR_mono (fun _ h => ?_) h
                  refine xaZ_mono (fun _ h => ?_) h
                  refine xite_mono (fun h => ?_) (fun h => ?_) h
                  · refine b_M_work_30 ?_
                    refine b_M_work_32 ?_
                    refine xsZ_mono (fun _ h => ?_) h
                    exact b_M_work_33 h
                  · refine b_M_work_29 ?_
                    refine xgfR_mono (fun _ h => ?_) h
                    refine xaZ_mono (fun _ h => ?_) h
                    refine xite_mono (fun h => ?_) (fun h => ?_) h
                    · refine b_M_work_31 ?_
                      refine b_M_work_32 ?_
                      refine xsZ_mono (fun _ h => ?_) h
                      exact b_M_work_33 h
                    · refine b_M_work_30 ?_
                      refine b_M_work_32 ?_
                      refine xsZ_mono (fun _ h => ?_) h
                      exact b_M_work_33 h
                · refine b_M_work_24 ?_
                  refine xgfR_mono (fun _ h => ?_) h
                  refine xaZ_mono (fun _ h => ?_) h
                  refine xite_mono (fun h => ?_) (fun h => ?_) h
                  · refine b_M_work_27 ?_
                    refine b_M_work_32 ?_
                    refine xsZ_mono (fun _ h => ?_) h
                    exact b_M_work_33 h
                  · refine b_M_work_25 ?_
                    refine xgfR_mono (fun _ h => ?_) h
                    refine xaZ_mono (fun _ h => ?_) h
                    refine xite_mono (fun h => ?_) (fun h => ?_) h
                    · refine b_M_work_27 ?_
                      refine b_M_work_32 ?_
                      refine xsZ_mono (fun _ h => ?_) h
                      exact b_M_work_33 h
                    · refine b_M_work_26 ?_
                      refine b_M_work_32 ?_
                      refine xsZ_mono (fun _ h => ?_) h
                      exact b_M_work_33 h
              · refine b_M_work_19 ?_
                refine xgfR_mono (fun _ h => ?_) h
                refine xgfR_mono (fun _ h => ?_) h
                refine xaZ_mono (fun _ h => ?_) h
                refine xite_mono (fun h => ?_) (fun h => ?_) h
                · refine b_M_work_21 ?_
                  refine xgfR_mono (fun _ h => ?_) h
                  refine xaL_mono (fun _ h => ?_) h
                  refine b_M_work_22 ?_
                  refine xsL_mono (fun _ h => ?_) h
                  exact b_M_work_33 h
                · refine b_M_work_20 ?_
                  refine xgfR_mono (fun _ h => ?_) h
                  refine xaL_mono (fun _ h => ?_) h
                  refine b_M_work_22 ?_
                  refine xsL_mono (fun _ h => ?_) h
                  exact b_M_work_33 h
            · refine b_M_work_14 ?_
              refine xgfR_mono (fun _ h => ?_) h
              refine xgfR_mono (fun _ h => ?_) h
              refine xaZ_mono (fun _ h => ?_) h
              refine xite_mono (fun h => ?_) (fun h => ?_) h
              · refine b_M_work_16 ?_
                refine b_M_work_17 ?_
                refine xsZ_mono (fun _ h => ?_) h
                exact b_M_work_33 h
              · refine b_M_work_15 ?_
                refine b_M_work_17 ?_
                refine xsZ_mono (fun _ h => ?_) h
                exact b_M_work_33 h
          · refine b_M_work_12 ?_
            refine xgfR_mono (fun _ h => ?_) h
            refine xgfR_mono (fun _ h => ?_) h
            refine xaL_mono (fun _ h => ?_) h
            refine xgfR_mono (fun _ h => ?_) h
            refine xaL_mono (fun _ h => ?_) h
            refine xEv_post' _ _ _ _ _ (xrI_mono (fun _ _ h => ?_)) h
            refine xsZ_mono (fun _ h => ?_) h
            exact b_M_work_33 h
        · refine b_M_work_10 ?_
          refine xgfR_mono (fun _ h => ?_) h
          refine xgfR_mono (fun _ h => ?_) h
          refine xaL_mono (fun _ h => ?_) h
          refine xgfR_mono (fun _ h => ?_) h
          refine xaL_mono (fun _ h => ?_) h
          refine xEv_post' _ _ _ _ _ (xrL_mono (fun _ _ h => ?_)) h
          refine xsL_mono (fun _ h => ?_) h
          exact b_M_work_33 h
      · refine b_M_work_8 ?_
        refine xgfR_mono (fun _ h => ?_) h
        refine xgfR_mono (fun _ h => ?_) h
        refine xaL_mono (fun _ h => ?_) h
        refine xsL_mono (fun _ h => ?_) h
        exact b_M_work_33 h
    · refine b_M_work_3 ?_
      refine xgfR_mono (fun _ h => ?_) h
      refine xite_mono (fun h => ?_) (fun h => ?_) h
      · refine b_M_work_5 ?_
        refine xgfR_mono (fun _ h => ?_) h
        refine xaI_mono (fun _ h => ?_) h
        refine b_M_work_6 ?_
        refine xsL_mono (fun _ h => ?_) h
        exact b_M_work_33 h
      · refine b_M_work_4 ?_
        refine b_M_work_6 ?_
        refine xsL_mono (fun _ h => ?_) h
        exact b_M_work_33 h
theorem t_M_work {sa : Nat → Nat} {d : Nat} {Q : xQ} {l0 : Nat} {l1 : Int32} {M : xM} (h : xgfR M l0 12 0 fun v1 => (xaI M v1 (nI 1) fun v2 => (xgfR M l0 12 0 fun v3 => (xaI M v3 (nI 1) fun v4 => (xgfR M l0 12 3 fun v5 => (xaI M v5 (((((nI 645) * v2) + (nI 1)) + ((nI 3) * l1)) + (nI 1)) fun v6 => (K_M_work sa d Q 1 [some (.ref l0), none, some (.int ((((nI 645) * v2) + (nI 1)) + ((nI 3) * l1))), some (.int (((nI 645) * v4) + (nI 40))), some (.int (nI 0)), some (.int (nI 0)), some (.int v6), none, none] [] M (0, 0)))))))) : xEv xP (xprim sa) (d + 1) m_M_work [.ref l0, .int l1] M Q := e_M_work (t_M_work_0 h)
set_option maxRecDepth 100000 in
theorem t_M_clauses_0 {sa : Nat → Nat} {d : Nat} {Q : xQ} {l0 : Nat} {M : xM} {u : xU} (h : xgfR M l0 12 0 fun v1 => (xaI M v1 (nI 1) fun v2 => (if 0 ≤ v2 then (xgfR M l0 12 3 fun v3 => (xgfR M l0 12 0 fun v4 => (xaI M v4 (nI 1) fun v5 => (xaI M v3 ((nI 645) * v5) fun v6 => (Q (some (.int v6)) M))))) else (Q (some (.int (nI 0))) M)))) : K_M_clauses sa d Q 0 [some (.ref l0)] [] M u := by
  refine b_M_clauses_0 ?_
  refine xgfR_mono (fun _ h => ?_) h
  refine xaI_mono (fun _ h => ?_) h
  refine xite_mono (fun h => ?_) (fun h => ?_) h
  · refine b_M_clauses_2 ?_
    refine xgfR_mono (fun _ h => ?_) h
    refine xgfR_mono (fun _ h => ?_) h
    refine xaI_mono (fun _ h => ?_) h
    refine xaI_mono (fun _ h => ?_) h
    exact b_M_clauses_3 h
  · refine b_M_clauses_1 ?_
    exact b_M_clauses_3 h
theorem t_M_clauses {sa : Nat → Nat} {d : Nat} {Q : xQ} {l0 : Nat} {M : xM} (h : xgfR M l0 12 0 fun v1 => (xaI M v1 (nI 1) fun v2 => (if 0 ≤ v2 then (xgfR M l0 12 3 fun v3 => (xgfR M l0 12 0 fun v4 => (xaI M v4 (nI 1) fun v5 => (xaI M v3 ((nI 645) * v5) fun v6 => (Q (some (.int v6)) M))))) else (Q (some (.int (nI 0))) M)))) : xEv xP (xprim sa) (d + 1) m_M_clauses [.ref l0] M Q := e_M_clauses (t_M_clauses_0 h)
set_option maxRecDepth 100000 in
theorem t_M_sortAt_0 {sa : Nat → Nat} {d : Nat} {Q : xQ} {l0 : Nat} {l1 : Int32} {M : xM} {u : xU} (h : xgfR M l0 12 3 fun v1 => (xgfR M l0 12 0 fun v2 => (xaI M v2 (nI 1) fun v3 => (xaI M v1 ((((nI 645) * v3) + (nI 1)) + ((nI 3) * l1)) fun v4 => (Q (some (.int v4)) M))))) : K_M_sortAt sa d Q 0 [some (.ref l0), some (.int l1)] [] M u := b_M_sortAt_0 h
theorem t_M_sortAt {sa : Nat → Nat} {d : Nat} {Q : xQ} {l0 : Nat} {l1 : Int32} {M : xM} (h : xgfR M l0 12 3 fun v1 => (xgfR M l0 12 0 fun v2 => (xaI M v2 (nI 1) fun v3 => (xaI M v1 ((((nI 645) * v3) + (nI 1)) + ((nI 3) * l1)) fun v4 => (Q (some (.int v4)) M))))) : xEv xP (xprim sa) (d + 1) m_M_sortAt [.ref l0, .int l1] M Q := e_M_sortAt (t_M_sortAt_0 h)
