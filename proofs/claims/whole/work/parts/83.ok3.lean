/-! what is ok stays ok: the rest -/
theorem by_iv {v : Int32} {k : Nat} : iv (byS v k) 0 (nI 255) := by
  unfold byS
  generalize v >>> (nI k &&& 31) = x
  have e255 : (nI 255).toBitVec = 255#32 := rfl
  have hb : (x &&& nI 255).toBitVec.toNat ≤ 255 := by
    rw [Int32.toBitVec_and, e255, BitVec.toNat_and]
    exact Nat.and_le_right
  have hi : (x &&& nI 255).toInt = ((x &&& nI 255).toBitVec.toNat : Int) := by
    show (x &&& nI 255).toBitVec.toInt = _
    exact BitVec.toInt_eq_toNat_of_lt (by omega)
  rw [iv_i, hi, nI_i (by omega)]
  have : (0 : Int32).toInt = 0 := rfl
  omega
theorem tp4_iv {t : Nat → Int32} {n : Nat} {v : Int32} (h : ∀ j, j < n → iv (t j) 0 (nI 255)) : ∀ j, j < n + 4 → iv (tp4 t n v j) 0 (nI 255) := by
  intro j hj
  by_cases h1 : j < n
  · rw [tp4_in h1]; exact h j h1
  · unfold tp4
    rcases (show j = n ∨ j = n + 1 ∨ j = n + 2 ∨ j = n + 3 by omega) with e | e | e | e
    · rw [e, upd_n (by omega), upd_n (by omega), upd_n (by omega), upd_s]; exact by_iv
    · rw [e, upd_n (by omega), upd_n (by omega), upd_s]; exact by_iv
    · rw [e, upd_n (by omega), upd_s]; exact by_iv
    · rw [e, upd_s]; exact by_iv
theorem rdS_V {tk tv : Nat → Nat} : ∀ (m i : Nat) (l l' : List (Nat × Term)), txV l → rdS tk tv m i l = .inr l' → txV l'
  | 0, _, _, _, _, h => nomatch h
  | m + 1, i, l, l', hl, h => by
    rw [rdS_s] at h
    split at h
    · rw [← Sum.inr.inj h]; exact hl
    · split at h
      · exact nomatch h
      · rename_i h4
        split at h
        · exact nomatch h
        · rename_i hk
          split at h
          · exact nomatch h
          · split at h
            · exact nomatch h
            · split at h
              · refine rdS_V m _ _ _ (txV_a hl (fun q => ?_)) h
                cases e : hasK (tk i - 400) l
                · rfl
                · have q : tk i - 400 < 4 := q
                  exact absurd ⟨by omega, e⟩ hk
              · exact nomatch h
theorem txV_n : txV [] := fun i j p q h _ _ _ => by rw [List.getElem?_nil] at h; exact nomatch h
section OKY
variable {R : Nat} {s : fS}
theorem ok_by {v : Int32} (ho : okF R s) : okF R (oBy v s).2 := by
  unfold oBy
  split
  · rename_i h
    have hv := iv_of h
    have hs := ho.2.2.1
    refine okF_uB ho ?_ (upd_n (by omega))
    obtain ⟨⟨nt, h1, h2, h3⟩, ⟨n, h4, h5, h6, h7⟩, h8, h9, h10, h11⟩ := hs
    have e : ∀ j, j ≠ 1 → upd s.1.1 1 v j = s.1.1 j := fun j hj => upd_n hj
    refine ⟨⟨nt, h1, (e 0 (by omega)).trans h2, ?_⟩, ⟨n, h4, (e 3 (by omega)).trans h5, ?_, fun j hj => ?_⟩, fun i hi => ?_, fun i hi => ?_, fun k hk => ?_, h11⟩
    · show upd s.1.1 1 v 1 = -1 ∨ ∃ t, t < nt ∧ upd s.1.1 1 v 1 = nI t
      rw [upd_s]
      rw [h2] at hv
      by_cases g : v = -1
      · exact Or.inl g
      · have hv := iv_i.mp hv
        have m1 : (-1 : Int32).toInt = -1 := rfl
        have o1 : (1 : Int32).toInt = 1 := rfl
        have z0 : (0 : Int32).toInt = 0 := rfl
        rw [m1, Int32.toInt_sub, nI_i (by omega), o1, bm32 (by omega) (by omega)] at hv
        have gi : v.toInt ≠ -1 := fun q => g (Int32.toInt_inj.mp (q.trans m1.symm))
        obtain ⟨t, ht, e⟩ := nI_rng (x := v) (n := nt - 1) (Int32.le_iff_toInt_le.mpr (by omega)) (Int32.le_iff_toInt_le.mpr (by rw [nI_i (by omega)]; omega)) (by omega)
        exact Or.inr ⟨t, by omega, e⟩
    · show (n = 0 ∧ upd s.1.1 1 v 4 = -1) ∨ (0 < n ∧ ∃ r, r < R ∧ upd s.1.1 1 v 4 = nI r)
      rw [e 4 (by omega)]; exact h6
    · show iv (upd s.1.1 1 v (170 + 2 * j)) _ _ ∧ iv (upd s.1.1 1 v (171 + 2 * j)) _ _
      rw [e _ (by omega), e _ (by omega)]; exact h7 j hj
    · show iv (upd s.1.1 1 v (10 + i)) _ _ ∧ iv (upd s.1.1 1 v (20 + i)) _ _ ∧ (R ≤ i → upd s.1.1 1 v (20 + i) = 0) ∧ (upd s.1.1 1 v (30 + i) = 0 ∨ upd s.1.1 1 v (30 + i) = 1) ∧ (upd s.1.1 1 v (42 + 3 * i) = 0 ∨ upd s.1.1 1 v (42 + 3 * i) = 1)
      rw [e _ (by omega), e _ (by omega), e _ (by omega), e _ (by omega)]; exact h8 i hi
    · show iv (upd s.1.1 1 v (40 + 3 * i)) _ _ ∧ iv (upd s.1.1 1 v (41 + 3 * i)) _ _
      rw [e _ (by omega), e _ (by omega)]; exact h9 i hi
    · show upd s.1.1 1 v (70 + k) = 0 ∨ upd s.1.1 1 v (70 + k) = 1
      rw [e _ (by omega)]; exact h10 k hk
  · exact ho
theorem ok_start (ho : okF R s) : okF R (oStart s).2 := by
  have h := beg_all ho
  refine okF_row ho ⟨h.1, h.2.1, ?_⟩ (by show 0 ≤ 40; omega) (fun j g hg => by rw [List.getElem?_nil] at hg; exact nomatch hg)
  have : beginRow (fun i => s.1.1 (20 + i)) 0 = nI 0 := h.2.2
  rw [this]
  exact ⟨by decide, by decide⟩
theorem ok_undo (ho : okF R s) : okF R (oUndo s).2 := by
  unfold oUndo
  have hs := ho.2.2.1
  match e : s.1.2.2 with
  | [] => exact ho
  | g :: P =>
    have h1 := hs.2.2.2.2.2.2
    rw [e, List.length_cons] at h1
    refine okF_row ho (h1.2 0 g rfl) (by omega) (fun j g' hg => h1.2 (j + 1) g' hg)
/-- what was told is other -/
theorem okS_told {a : aS} {B : Nat → Int32} (ho : okS R a) (p : ∀ j, j ≠ 3 → j ≠ 4 → (j < 170 ∨ 186 ≤ j) → B j = a.1 j) (n : Nat) (h4 : n ≤ 8) (h5 : B 3 = nI n) (h6 : (n = 0 ∧ B 4 = -1) ∨ (0 < n ∧ ∃ r, r < R ∧ B 4 = nI r)) (h7 : ∀ j, j < n → iv (B (170 + 2 * j)) (-1) (nI 99) ∧ iv (B (171 + 2 * j)) (-1) (nI 99)) : okS R (B, a.2) := by
  obtain ⟨⟨nt, h1, h2, h3⟩, _, h8, h9, h10, h11⟩ := ho
  refine ⟨⟨nt, h1, (p 0 (by omega) (by omega) (by omega)).trans h2, ?_⟩, ⟨n, h4, h5, h6, h7⟩, fun i hi => ?_, fun i hi => ?_, fun k hk => ?_, h11⟩
  · show B 1 = -1 ∨ ∃ t, t < nt ∧ B 1 = nI t
    rw [p 1 (by omega) (by omega) (by omega)]; exact h3
  · show iv (B (10 + i)) _ _ ∧ iv (B (20 + i)) _ _ ∧ (R ≤ i → B (20 + i) = 0) ∧ (B (30 + i) = 0 ∨ B (30 + i) = 1) ∧ (B (42 + 3 * i) = 0 ∨ B (42 + 3 * i) = 1)
    rw [p _ (by omega) (by omega) (by omega), p _ (by omega) (by omega) (by omega), p _ (by omega) (by omega) (by omega), p _ (by omega) (by omega) (by omega)]; exact h8 i hi
  · show iv (B (40 + 3 * i)) _ _ ∧ iv (B (41 + 3 * i)) _ _
    rw [p _ (by omega) (by omega) (by omega), p _ (by omega) (by omega) (by omega)]; exact h9 i hi
  · show B (70 + k) = 0 ∨ B (70 + k) = 1
    rw [p _ (by omega) (by omega) (by omega)]; exact h10 k hk
theorem ok_tell {r n : Nat} {x y : Int32} (ho : okF R s) (hr : r < R) (hn : n < 8) (hx : iv x (-1) (nI 99)) (hy : iv y (-1) (nI 99)) (h7 : ∀ j, j < n → iv (s.1.1 (170 + 2 * j)) (-1) (nI 99) ∧ iv (s.1.1 (171 + 2 * j)) (-1) (nI 99)) : okF R (uB s (tellB s.1.1 r n x y)) := by
  unfold tellB
  refine okF_uB ho (okS_told ho.2.2.1 (fun j h3 h4 hj => ?_) (n + 1) (by omega) upd_s (Or.inr ⟨by omega, r, hr, ?_⟩) (fun j hj => ?_)) ?_
  · rw [upd_n (by omega), upd_n (by omega), upd_n (by omega), upd_n (by omega)]
  · rw [upd_n (by omega), upd_n (by omega), upd_n (by omega), upd_s]
  · by_cases e : j = n
    · rw [e]
      refine ⟨?_, ?_⟩
      · rw [upd_n (by omega), upd_n (by omega), upd_s]; exact hx
      · rw [upd_n (by omega), upd_s]; exact hy
    · rw [upd_n (by omega), upd_n (by omega), upd_n (by omega), upd_n (by omega), upd_n (by omega), upd_n (by omega), upd_n (by omega), upd_n (by omega)]
      exact h7 j (by omega)
  · rw [upd_n (by omega), upd_n (by omega), upd_n (by omega), upd_n (by omega)]
theorem ok_told {v x y : Int32} (ho : okF R s) : okF R (oTold R v x y s).2 := by
  unfold oTold
  split
  · rename_i h
    rw [Bool.and_eq_true, Bool.and_eq_true] at h
    obtain ⟨r, hr, _, hc⟩ := rm_of ho.1 ho.2.1 h.1
    have hx := iv_of h.2.1
    have hy := iv_of h.2.2
    rw [hc]
    obtain ⟨n, h4, h5, h6, h7⟩ := ho.2.2.1.2.1
    split
    · split
      · exact ho
      · rename_i h8
        have hn : cN (s.1.1 3) = n := by rw [h5]; exact nI_cl (by omega)
        have n8 : n ≠ 8 := fun e => h8 (by rw [h5, e])
        rw [hn]
        exact ok_tell ho hr (by omega) hx hy h7
    · exact ok_tell ho hr (by omega) hx hy (fun j hj => absurd hj (by omega))
  · exact ho
theorem ok_forget (ho : okF R s) : okF R (oForget s).2 := by
  refine okF_uB ho (okS_told ho.2.2.1 (fun j h3 h4 hj => ?_) 0 (by omega) ?_ (Or.inl ⟨rfl, upd_s⟩) (fun j hj => absurd hj (by omega))) ?_
  · rw [upd_n (by omega), upd_n (by omega)]
  · rw [upd_n (by omega), upd_s]; rfl
  · rw [upd_n (by omega), upd_n (by omega)]
theorem ok_hourN : ∀ (n : Nat) (s : fS), okF R s → (s.1.2.1 0).toInt + n ≤ 999 → okF R (oHourN R n s)
  | 0, _, ho, _ => ho
  | n + 1, s, ho, h => by
    have h0 := iv_i.mp ho.2.2.1.2.2.2.2.2.1.2.2
    have z0 : (0 : Int32).toInt = 0 := rfl
    refine ok_hourN n (oHour R s) (ok_hour ho (by omega)) ?_
    rw [hour_0, Int32.toInt_add]
    have : (1 : Int32).toInt = 1 := rfl
    rw [this, bm32 (by omega) (by omega)]
    omega
theorem ok_hours {v : Int32} (ho : okF R s) : okF R (oHours R v s).2 := by
  unfold oHours
  split
  · rename_i h
    have hi := iv_of h
    obtain ⟨n, hn9, e⟩ := nI_rng (Int32.le_trans (by decide) hi.1) hi.2 (by omega)
    have hc : cN v = n := by rw [e]; exact nI_cl (by omega)
    split
    · rename_i h9
      rw [hc]
      refine ok_hourN n s ho ?_
      have h0 := iv_i.mp ho.2.2.1.2.2.2.2.2.1.2.2
      rw [nI_i (by omega)] at h0
      have z0 : (0 : Int32).toInt = 0 := rfl
      have := Int32.le_iff_toInt_le.mp h9
      rw [Int32.toInt_add, e, nI_i (by omega), nI_i (by omega), bm32 (by omega) (by omega)] at this
      exact this
    · exact ho
  · exact ho
theorem ok_feed {a b c e f : Int32} (ho : okF R s) : okF R (oFeed a b c e f s).2 := by
  unfold oFeed
  split
  · rename_i h
    refine ⟨ho.1, ho.2.1, ho.2.2.1, ho.2.2.2.1, ho.2.2.2.2.1, h, ?_, ho.2.2.2.2.2.2.2⟩
    exact tp4_iv (tp4_iv (tp4_iv (tp4_iv (tp4_iv ho.2.2.2.2.2.2.1))))
  · exact ho
theorem ok_text (ho : okF R s) : okF R (oText s).2 := by
  unfold oText
  split
  · exact ho
  · rename_i h4
    split
    · exact ⟨ho.1, ho.2.1, ho.2.2.1, ho.2.2.2.1, ho.2.2.2.2.1, by show 0 ≤ 300; omega, fun j hj => absurd (show j < 0 from hj) (by omega), ho.2.2.2.2.2.2.2⟩
    · rename_i l hl
      obtain ⟨⟨nt, h1, h2, h3⟩, ⟨n, k4, h5, h6, h7⟩, h8, h9, h10, h11⟩ := ho.2.2.1
      have n4 : nt ≠ 4 := fun e => h4 (by rw [h2, e])
      have hc : cN (s.1.1 0) = nt := by rw [h2]; exact nI_cl (by omega)
      have hv : txV l := rdS_V _ _ _ _ txV_n hl
      rw [hc]
      have e : ∀ j, j ≠ 0 → upd s.1.1 0 (nI (nt + 1)) j = s.1.1 j := fun j hj => upd_n hj
      have himg := ho.2.2.2.2.1
      rw [h2, nI_i (by omega)] at himg
      refine ⟨ho.1, ho.2.1, ⟨⟨nt + 1, by omega, (upd_s : upd s.1.1 0 (nI (nt + 1)) 0 = nI (nt + 1)), ?_⟩, ⟨n, k4, (e 3 (by omega)).trans h5, ?_, fun j hj => ?_⟩, fun i hi => ?_, fun i hi => ?_, fun k hk => ?_, h11⟩, ho.2.2.2.1, ?_, by show 0 ≤ 300; omega, fun j hj => absurd (show j < 0 from hj) (by omega), fun t ht => ?_⟩
      · show upd s.1.1 0 (nI (nt + 1)) 1 = -1 ∨ ∃ t, t < nt + 1 ∧ upd s.1.1 0 (nI (nt + 1)) 1 = nI t
        rw [e 1 (by omega)]
        rcases h3 with h3 | ⟨t, ht, h3⟩
        · exact Or.inl h3
        · exact Or.inr ⟨t, by omega, h3⟩
      · show (n = 0 ∧ upd s.1.1 0 (nI (nt + 1)) 4 = -1) ∨ (0 < n ∧ ∃ r, r < R ∧ upd s.1.1 0 (nI (nt + 1)) 4 = nI r)
        rw [e 4 (by omega)]; exact h6
      · show iv (upd s.1.1 0 (nI (nt + 1)) (170 + 2 * j)) _ _ ∧ iv (upd s.1.1 0 (nI (nt + 1)) (171 + 2 * j)) _ _
        rw [e _ (by omega), e _ (by omega)]; exact h7 j hj
      · show iv (upd s.1.1 0 (nI (nt + 1)) (10 + i)) _ _ ∧ iv (upd s.1.1 0 (nI (nt + 1)) (20 + i)) _ _ ∧ (R ≤ i → upd s.1.1 0 (nI (nt + 1)) (20 + i) = 0) ∧ (upd s.1.1 0 (nI (nt + 1)) (30 + i) = 0 ∨ upd s.1.1 0 (nI (nt + 1)) (30 + i) = 1) ∧ (upd s.1.1 0 (nI (nt + 1)) (42 + 3 * i) = 0 ∨ upd s.1.1 0 (nI (nt + 1)) (42 + 3 * i) = 1)
        rw [e _ (by omega), e _ (by omega), e _ (by omega), e _ (by omega)]; exact h8 i hi
      · show iv (upd s.1.1 0 (nI (nt + 1)) (40 + 3 * i)) _ _ ∧ iv (upd s.1.1 0 (nI (nt + 1)) (41 + 3 * i)) _ _
        rw [e _ (by omega), e _ (by omega)]; exact h9 i hi
      · show upd s.1.1 0 (nI (nt + 1)) (70 + k) = 0 ∨ upd s.1.1 0 (nI (nt + 1)) (70 + k) = 1
        rw [e _ (by omega)]; exact h10 k hk
      · show (s.2.1.1 0).toInt ≤ (upd s.1.1 0 (nI (nt + 1)) 0).toInt
        rw [upd_s, nI_i (by omega)]; omega
      · show txV (if t = nt then l else s.2.2.1 t)
        have ht : (t : Int) < (upd s.1.1 0 (nI (nt + 1)) 0).toInt := ht
        rw [upd_s, nI_i (by omega)] at ht
        by_cases g : t = nt
        · rw [if_pos g]; exact hv
        · rw [if_neg g]
          exact ho.2.2.2.2.2.2.2 t (by rw [h2, nI_i (by omega)]; omega)
end OKY
