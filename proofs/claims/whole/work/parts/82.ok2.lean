/-! what is ok stays ok: the settings -/
theorem okF_uB {R : Nat} {s : fS} {B : Nat → Int32} (ho : okF R s) (hB : okS R (B, s.1.2)) (h0 : B 0 = s.1.1 0) : okF R (uB s B) := by
  refine ⟨ho.1, ho.2.1, hB, ho.2.2.2.1, ?_, ho.2.2.2.2.2.1, ho.2.2.2.2.2.2.1, fun t ht => ?_⟩
  · show (s.2.1.1 0).toInt ≤ (B 0).toInt
    rw [h0]; exact ho.2.2.2.2.1
  · have ht : (t : Int) < (B 0).toInt := ht
    rw [h0] at ht
    exact ho.2.2.2.2.2.2.2 t ht
theorem okS_of {R : Nat} {a : aS} {B : Nat → Int32} (ho : okS R a) (p : ∀ j, (j = 0 ∨ j = 1 ∨ j = 3 ∨ j = 4 ∨ 170 ≤ j) → B j = a.1 j) (p1 : ∀ i, i < 9 → iv (B (10 + i)) 0 (nI 2) ∧ iv (B (20 + i)) 0 (nI 9) ∧ (R ≤ i → B (20 + i) = 0) ∧ (B (30 + i) = 0 ∨ B (30 + i) = 1) ∧ (B (42 + 3 * i) = 0 ∨ B (42 + 3 * i) = 1)) (pl : lieV B) (p7 : ∀ k, k < 100 → B (70 + k) = 0 ∨ B (70 + k) = 1) : okS R (B, a.2) := by
  obtain ⟨⟨nt, h1, h2, h3⟩, ⟨n, h4, h5, h6, h7⟩, _, _, _, h8⟩ := ho
  refine ⟨⟨nt, h1, (p 0 (by omega)).trans h2, by dsimp only; rw [p 1 (by omega)]; exact h3⟩, ⟨n, h4, (p 3 (by omega)).trans h5, by dsimp only; rw [p 4 (by omega)]; exact h6, fun j hj => ?_⟩, p1, pl, p7, h8⟩
  dsimp only
  rw [p (170 + 2 * j) (by omega), p (171 + 2 * j) (by omega)]
  exact h7 j hj
theorem z01_r (b : Int32) : z01 b = 0 ∨ z01 b = 1 := by
  unfold z01
  split
  · exact Or.inl rfl
  · exact Or.inr rfl
theorem rm_of {R : Nat} {v : Int32} (h3 : 3 ≤ R) (h9 : R ≤ 9) (h : rmB R v = true) : ∃ r, r < R ∧ v = nI r ∧ cN v = r := by
  obtain ⟨r, hr, e⟩ := (rmB_i h3 h9).mp h
  refine ⟨r, hr, e, ?_⟩
  rw [e]; exact nI_cl (by omega)
theorem iv_of {v lo hi : Int32} (h : ivB v lo hi = true) : iv v lo hi := by
  by_cases q : iv v lo hi
  · exact q
  · rw [ivB_f q] at h; exact nomatch h
section OKX
variable {R : Nat} {s : fS}
theorem ok_elder {v k f : Int32} (ho : okF R s) : okF R (oElder R v k f s).2 := by
  unfold oElder
  split
  · rename_i h
    rw [Bool.and_eq_true, Bool.and_eq_true] at h
    obtain ⟨r, hr, _, hc⟩ := rm_of ho.1 ho.2.1 h.1
    have hk := iv_of h.2.1
    have hf := iv_of h.2.2
    have h9 := ho.2.1
    have hs := ho.2.2.1
    rw [hc]
    refine okF_uB ho (okS_of hs (fun j hj => ?_) (fun i hi => ⟨?_, ?_, fun hRi => ?_, ?_, ?_⟩) (fun j hj => ?_) (fun k hk => ?_)) ?_
    · rw [upd_n (by omega), upd_n (by omega)]
    · rw [upd_n (by omega)]
      by_cases e : i = r
      · rw [e, upd_s]; exact hk
      · rw [upd_n (by omega)]; exact (hs.2.2.1 i hi).1
    · by_cases e : i = r
      · rw [e, upd_s]; exact hf
      · rw [upd_n (by omega), upd_n (by omega)]; exact (hs.2.2.1 i hi).2.1
    · rw [upd_n (by omega), upd_n (by omega)]; exact (hs.2.2.1 i hi).2.2.1 hRi
    · rw [upd_n (by omega), upd_n (by omega)]; exact (hs.2.2.1 i hi).2.2.2.1
    · rw [upd_n (by omega), upd_n (by omega)]; exact (hs.2.2.1 i hi).2.2.2.2
    · rw [upd_n (by omega), upd_n (by omega), upd_n (by omega), upd_n (by omega)]; exact hs.2.2.2.1 j hj
    · rw [upd_n (by omega), upd_n (by omega)]; exact hs.2.2.2.2.1 k hk
    · rw [upd_n (by omega), upd_n (by omega)]
  · exact ho
theorem ok_stuck {v b : Int32} (ho : okF R s) : okF R (oStuck R v b s).2 := by
  unfold oStuck
  split
  · rename_i h
    obtain ⟨r, hr, _, hc⟩ := rm_of ho.1 ho.2.1 h
    have h9 := ho.2.1
    have hs := ho.2.2.1
    rw [hc]
    refine okF_uB ho (okS_of hs (fun j hj => ?_) (fun i hi => ⟨?_, ?_, fun hRi => ?_, ?_, ?_⟩) (fun j hj => ?_) (fun k hk => ?_)) ?_
    · rw [upd_n (by omega)]
    · rw [upd_n (by omega)]; exact (hs.2.2.1 i hi).1
    · rw [upd_n (by omega)]; exact (hs.2.2.1 i hi).2.1
    · rw [upd_n (by omega)]; exact (hs.2.2.1 i hi).2.2.1 hRi
    · by_cases e : i = r
      · rw [e, upd_s]; exact z01_r b
      · rw [upd_n (by omega)]; exact (hs.2.2.1 i hi).2.2.2.1
    · rw [upd_n (by omega)]; exact (hs.2.2.1 i hi).2.2.2.2
    · rw [upd_n (by omega), upd_n (by omega)]; exact hs.2.2.2.1 j hj
    · rw [upd_n (by omega)]; exact hs.2.2.2.2.1 k hk
    · rw [upd_n (by omega)]
  · exact ho
theorem ok_bar {v b : Int32} (ho : okF R s) : okF R (oBar v b s).2 := by
  unfold oBar
  split
  · rename_i h
    have hv := iv_of h
    obtain ⟨r, hr, e⟩ := nI_rng hv.1 hv.2 (by omega)
    have hc : cN v = r := by rw [e]; exact nI_cl (by omega)
    have hs := ho.2.2.1
    rw [hc]
    refine okF_uB ho (okS_of hs (fun j hj => ?_) (fun i hi => ⟨?_, ?_, fun hRi => ?_, ?_, ?_⟩) (fun j hj => ?_) (fun k hk => ?_)) ?_
    · rw [upd_n (by omega)]
    · rw [upd_n (by omega)]; exact (hs.2.2.1 i hi).1
    · rw [upd_n (by omega)]; exact (hs.2.2.1 i hi).2.1
    · rw [upd_n (by omega)]; exact (hs.2.2.1 i hi).2.2.1 hRi
    · rw [upd_n (by omega)]; exact (hs.2.2.1 i hi).2.2.2.1
    · rw [upd_n (by omega)]; exact (hs.2.2.1 i hi).2.2.2.2
    · rw [upd_n (by omega), upd_n (by omega)]; exact hs.2.2.2.1 j hj
    · by_cases e : k = r
      · rw [e, upd_s]; exact z01_r b
      · rw [upd_n (by omega)]; exact hs.2.2.2.2.1 k hk
    · rw [upd_n (by omega)]
  · exact ho
theorem ok_lies {v x y b : Int32} (ho : okF R s) : okF R (oLies R v x y b s).2 := by
  unfold oLies
  split
  · rename_i h
    rw [Bool.and_eq_true, Bool.and_eq_true] at h
    obtain ⟨r, hr, _, hc⟩ := rm_of ho.1 ho.2.1 h.1
    have hx := iv_of h.2.1
    have hy := iv_of h.2.2
    have h9 := ho.2.1
    have hs := ho.2.2.1
    rw [hc]
    refine okF_uB ho (okS_of hs (fun j hj => ?_) (fun i hi => ⟨?_, ?_, fun hRi => ?_, ?_, ?_⟩) (fun j hj => ?_) (fun k hk => ?_)) ?_
    · rw [upd_n (by omega), upd_n (by omega), upd_n (by omega)]
    · rw [upd_n (by omega), upd_n (by omega), upd_n (by omega)]; exact (hs.2.2.1 i hi).1
    · rw [upd_n (by omega), upd_n (by omega), upd_n (by omega)]; exact (hs.2.2.1 i hi).2.1
    · rw [upd_n (by omega), upd_n (by omega), upd_n (by omega)]; exact (hs.2.2.1 i hi).2.2.1 hRi
    · rw [upd_n (by omega), upd_n (by omega), upd_n (by omega)]; exact (hs.2.2.1 i hi).2.2.2.1
    · by_cases e : i = r
      · rw [e, show 42 + 3 * r = 40 + 3 * r + 2 by omega, upd_s]; exact z01_r b
      · rw [upd_n (by omega), upd_n (by omega), upd_n (by omega)]; exact (hs.2.2.1 i hi).2.2.2.2
    · by_cases e : j = r
      · rw [e, show 41 + 3 * r = 40 + 3 * r + 1 by omega]
        refine ⟨?_, ?_⟩
        · rw [upd_n (by omega), upd_n (by omega), upd_s]; exact hx
        · rw [upd_n (by omega), upd_s]; exact hy
      · rw [upd_n (by omega), upd_n (by omega), upd_n (by omega), upd_n (by omega), upd_n (by omega), upd_n (by omega)]
        exact hs.2.2.2.1 j hj
    · rw [upd_n (by omega), upd_n (by omega), upd_n (by omega)]; exact hs.2.2.2.2.1 k hk
    · rw [upd_n (by omega), upd_n (by omega), upd_n (by omega)]
  · exact ho
end OKX
