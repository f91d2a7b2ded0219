/-! what is ok stays ok: image, back, end -/
theorem ok_image {R : Nat} {s : fS} (ho : okF R s) : okF R (oImage s).2 := ⟨ho.1, ho.2.1, ho.2.2.1, ho.2.2.1, Int.le_refl _, ho.2.2.2.2.2⟩
theorem ok_back {R : Nat} {s : fS} (ho : okF R s) : okF R (oBack s).2 := ⟨ho.1, ho.2.1, ho.2.2.2.1, ho.2.2.2.1, Int.le_refl _, ho.2.2.2.2.2.1, ho.2.2.2.2.2.2.1, fun t ht => ho.2.2.2.2.2.2.2 t (Int.lt_of_lt_of_le ht ho.2.2.2.2.1)⟩
theorem ok_end {R : Nat} {s : fS} {v : Int32} (ho : okF R s) : okF R (oEnd v s).2 := by
  unfold oEnd
  split
  · rename_i h
    have h : iv v 0 (nI s.2.2.2.2.1) := by
      by_cases q : iv v 0 (nI s.2.2.2.2.1)
      · exact q
      · rw [ivB_f q] at h; exact nomatch h
    have h300 := ho.2.2.2.2.2.1
    obtain ⟨n, hn, rfl⟩ := nI_rng h.1 h.2 (by omega)
    have hc : cN (nI n) = n := nI_cl (by omega)
    refine ⟨ho.1, ho.2.1, ho.2.2.1, ho.2.2.2.1, ho.2.2.2.2.1, ?_, fun j hj => ?_, ho.2.2.2.2.2.2.2⟩
    · show cN (nI n) ≤ 300; omega
    · have hj : j < cN (nI n) := hj
      exact ho.2.2.2.2.2.2.1 j (by omega)
  · exact ho
