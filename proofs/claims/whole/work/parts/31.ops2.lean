/-! the reference's side of start, undo, told, image, back, hours -/
theorem beg_c {f g : Nat → Int32} (h : ∀ i, i < 9 → f i = g i) : beginRow f = beginRow g := by
  funext j
  unfold beginRow
  split
  · rfl
  · split
    · exact h _ (by omega)
    · rfl
theorem rA_start {A : Nat → Int32} {s : aS} (h : rA A s) : rA (lay (upd A 2 0) 190 29 (beginRow (fun i => A (20 + i)))) (s.1, beginRow (fun i => s.1 (20 + i)), []) := by
  refine ⟨fun j hj hj2 => ?_, ?_, fun e he => ?_, fun j g hg => ?_⟩
  · rw [lay_out (by omega), upd_n hj2]; exact h.1 j hj hj2
  · rw [lay_out (by omega), upd_s]; rfl
  · rw [lay_in he, beg_c (g := fun i => s.1 (20 + i)) (fun i hi => h.1 (20 + i) (by omega) (by omega))]
  · exact absurd hg (by simp)
theorem rA_undo {A B f g : Nat → Int32} {P : List (Nat → Int32)} (h : rA A (B, f, g :: P)) (h40 : P.length + 1 ≤ 40) : rA (undoA A (P.length + 1)) (B, g, P) := by
  have h2 : A 2 = nI (P.length + 1) := h.2.1
  unfold undoA
  refine ⟨fun j hj hj2 => ?_, ?_, fun e he => ?_, fun j k hk e he => ?_⟩
  · rw [lay_out (by omega), upd_n hj2]; exact h.1 j hj hj2
  · rw [lay_out (by omega), upd_s]; rfl
  · rw [lay_in (by omega)]
    have := h.2.2.2 0 g rfl e he
    exact this
  · have hj : j < P.length := by
      rcases Nat.lt_or_ge j P.length with h | h
      · exact h
      · rw [show (B, g, P).2.2 = P from rfl, List.getElem?_eq_none h] at hk; exact nomatch hk
    have := h.2.2.2 (j + 1) k hk e he
    rw [show ((B, f, g :: P).2.2.length - 1 - (j + 1)) = P.length - 1 - j by show P.length + 1 - 1 - (j + 1) = _; omega] at this
    show lay _ _ _ _ (220 + 30 * (P.length - 1 - j) + e) = _
    rw [lay_out (by omega), upd_n (by omega)]
    exact this
theorem rA_lay {A f : Nat → Int32} {s : aS} (h : rA A s) (h40 : s.2.2.length ≤ 40) : rA (lay f 0 1420 A) s := by
  have e : ∀ j, j < 1420 → lay f 0 1420 A j = A j := fun j hj => by
    have := lay_in (f := f) (r := A) (x := 0) (n := 1420) (j := j) hj
    rwa [Nat.zero_add] at this
  refine ⟨fun j hj hj2 => ?_, ?_, fun i hi => ?_, fun j g hg i hi => ?_⟩
  · rw [e j (by omega)]; exact h.1 j hj hj2
  · rw [e 2 (by omega)]; exact h.2.1
  · rw [e _ (by omega)]; exact h.2.2.1 i hi
  · have hj : j < s.2.2.length := by
      rcases Nat.lt_or_ge j s.2.2.length with h | h
      · exact h
      · rw [List.getElem?_eq_none h] at hg; exact nomatch hg
    rw [e _ (by omega)]; exact h.2.2.2 j g hg i hi
theorem rA_keep {A B f : Nat → Int32} {P : List (Nat → Int32)} (h : rA A (B, f, P)) (h40 : P.length ≤ 40) : rA (keepA A P.length) (B, f, (f :: P).take 40) := by
  have h2 : A 2 = nI P.length := h.2.1
  have hn : ∀ e, e < 29 → A (190 + e) = f e := h.2.2.1
  unfold keepA
  by_cases e4 : P.length = 40
  · rw [if_pos e4]
    have hl : ((f :: P).take 40).length = 40 := by rw [List.length_take, List.length_cons]; omega
    refine ⟨fun j hj hj2 => ?_, ?_, fun e he => ?_, fun j k hk e he => ?_⟩
    · rw [upd_n hj2, lay_out (by omega), lay_out (by omega), upd_n hj2]; exact h.1 j hj hj2
    · rw [upd_s]; show _ = nI ((f :: P).take 40).length; rw [hl]
    · rw [upd_n (by omega), lay_out (by omega), lay_out (by omega), upd_n (by omega)]; exact hn e he
    · have hk : ((f :: P).take 40)[j]? = some k := hk
      have hj : j < 40 := by
        rcases Nat.lt_or_ge j 40 with h | h
        · exact h
        · rw [List.getElem?_eq_none (by omega)] at hk; exact nomatch hk
      rw [List.getElem?_take_of_lt hj] at hk
      show upd _ _ _ (220 + 30 * (((f :: P).take 40).length - 1 - j) + e) = _
      rw [hl, upd_n (by omega)]
      cases j with
      | zero =>
        have hk : f = k := Option.some.inj hk
        subst hk
        rw [show 220 + 30 * (40 - 1 - 0) + e = 1390 + e by omega, lay_in (by omega)]
        exact hn e he
      | succ j =>
        have hk : P[j]? = some k := hk
        have := h.2.2.2 j k hk e he
        rw [lay_out (by omega), show 220 + 30 * (40 - 1 - (j + 1)) + e = 220 + (30 * (38 - j) + e) by omega, lay_in (by omega)]
        rw [show (B, f, P).2.2.length = 40 from e4] at this
        rw [show 250 + (30 * (38 - j) + e) = 220 + 30 * (40 - 1 - j) + e by omega]
        exact this
  · rw [if_neg e4]
    have ht : (f :: P).take 40 = f :: P := List.take_of_length_le (by rw [List.length_cons]; omega)
    rw [ht]
    refine ⟨fun j hj hj2 => ?_, ?_, fun e he => ?_, fun j k hk e he => ?_⟩
    · rw [upd_n hj2, lay_out (by omega)]; exact h.1 j hj hj2
    · rw [upd_s]; rfl
    · rw [upd_n (by omega), lay_out (by omega)]; exact hn e he
    · have hk : (f :: P)[j]? = some k := hk
      show upd _ _ _ (220 + 30 * ((f :: P).length - 1 - j) + e) = _
      rw [List.length_cons, upd_n (by omega)]
      cases j with
      | zero =>
        have hk : f = k := Option.some.inj hk
        subst hk
        rw [show 220 + 30 * (P.length + 1 - 1 - 0) + e = 220 + 30 * P.length + e by omega, lay_in (by omega)]
        exact hn e he
      | succ j =>
        have hk : P[j]? = some k := hk
        have hj : j < P.length := by
          rcases Nat.lt_or_ge j P.length with h | h
          · exact h
          · rw [List.getElem?_eq_none h] at hk; exact nomatch hk
        have := h.2.2.2 j k hk e he
        rw [show 220 + 30 * (P.length + 1 - 1 - (j + 1)) + e = 220 + 30 * (P.length - 1 - j) + e by omega, lay_out (by omega)]
        exact this
theorem rA_now {A : Nat → Int32} {s : aS} {r g : Nat → Int32} (h : rA A s) (hr : ∀ e, e < 29 → r e = g e) : rA (lay A 190 30 r) (s.1, g, s.2.2) := by
  refine ⟨fun j hj hj2 => ?_, ?_, fun e he => ?_, fun j k hk e he => ?_⟩
  · rw [lay_out (by omega)]; exact h.1 j hj hj2
  · rw [lay_out (by omega)]; exact h.2.1
  · rw [lay_in (by omega)]; exact hr e he
  · rw [lay_out (by omega)]; exact h.2.2.2 j k hk e he
section OM2
variable {sa : Nat → Nat} {d : Nat} {Q : xQ} {q : Nat} {M0 M : xM} {σ : mS} {R : Nat} {s : fS}
theorem op_M_start (hm : mR R σ s) (h : ∀ σ', mR R σ' (oStart s).2 → Q (some (.int (oStart s).1)) (mM q M0 σ')) : xEv xP (xprim sa) (d + 2) m_M_start [.ref q] (mM q M0 σ) Q := by
  refine c_M_start ?_
  have e := hm.2.1.2.2.1 0 (by omega)
  rw [show σ.2.2.1 1 190 = s.1.2.1 0 from e]
  exact h _ (mR_A hm (rA_start hm.2.1) rfl)
theorem op_M_undo (hm : mR R σ s) (ho : okF R s) (h : ∀ σ', mR R σ' (oUndo s).2 → Q (some (.int (oUndo s).1)) (mM q M0 σ')) : xEv xP (xprim sa) (d + 1) m_M_undo [.ref q] (mM q M0 σ) Q := by
  obtain ⟨⟨B, f, P⟩, rest⟩ := s
  have h40 : P.length ≤ 40 := ho.2.2.1.2.2.2.2.2.2.1
  have hA : rA (σ.2.2.1 1) (B, f, P) := hm.2.1
  refine c_M_undo hA.2.1 h40 (fun e0 => ?_) (fun e0 => ?_)
  · have e0 : P.length = 0 := e0
    have : P = [] := List.eq_nil_of_length_eq_zero e0
    subst this
    exact h _ hm
  · cases P with
    | nil => exact absurd e0 (Nat.lt_irrefl 0)
    | cons g P =>
      have e1 := hA.2.2.2 0 g rfl 0 (by omega)
      have := h _ (mR_A (A := undoA (σ.2.2.1 1) (P.length + 1)) (a := (B, g, P)) hm (rA_undo hA h40) rfl)
      rw [show (oUndo ((B, f, g :: P), rest)).1 = g 0 from rfl, ← e1] at this
      exact this
theorem op_M_told (hm : mR R σ s) (ho : okF R s) {v x y : Int32} (h : ∀ σ', mR R σ' (oTold R v x y s).2 → Q (some (.int (oTold R v x y s).1)) (mM q M0 σ')) : xEv xP (xprim sa) (d + 3) m_M_told [.ref q, .int v, .int x, .int y] (mM q M0 σ) Q := by
  obtain ⟨n, h8, hn, _, _⟩ := ho.2.2.1.2.1
  have h9 := ho.2.1
  have e3 : σ.2.2.1 1 3 = nI n := by rw [hm.2.1.1 3 (by omega) (by omega)]; exact hn
  have e4 : σ.2.2.1 1 4 = s.1.1 4 := hm.2.1.1 4 (by omega) (by omega)
  have tl : ∀ (r m : Nat), r < R → m < 8 → mR R (mA σ 1 (toldA (σ.2.2.1 1) r m x y)) (uB s (tellB s.1.1 r m x y)) := by
    intro r m hr hm8
    unfold toldA tellB
    refine mR_A (a := (_, s.1.2)) hm (rA_u (rA_u (rA_u (rA_u hm.2.1 (by omega) (by omega)) (by omega) (by omega)) (by omega) (by omega)) (by omega) (by omega)) ?_
    dsimp only
    rw [upd_n (by omega), upd_n (by omega), upd_n (by omega), upd_n (by omega)]
  unfold oTold at h
  have hcn : cN (s.1.1 3) = n := by rw [hn]; exact nI_cl (by omega)
  refine c_M_told hm.1 ho.1 ho.2.1 e3 h8 (fun r hr e hx hy e5 e6 => ?_) (fun r hr e hx hy e5 => ?_) (fun hno => ?_)
  · subst e
    have hc : cN (nI r) = r := nI_cl (by omega)
    rw [e4] at e5
    rw [rmB_t ho.1 ho.2.1 hr, ivB_t hx, ivB_t hy, if_pos (show (true && (true && true)) = true from rfl), if_pos e5, hn, if_neg (fun e => by have := (nI_eq (by omega) (by omega)).mp e; omega), ← hn, hcn, hc] at h
    exact h _ (tl r n hr e6)
  · subst e
    have hc : cN (nI r) = r := nI_cl (by omega)
    rw [e4] at e5
    rw [rmB_t ho.1 ho.2.1 hr, ivB_t hx, ivB_t hy, if_pos (show (true && (true && true)) = true from rfl), if_neg e5, hc] at h
    exact h _ (tl r 0 hr (by omega))
  · rw [e4] at hno
    by_cases a : (rmB R v && (ivB x (-1) (nI 99) && ivB y (-1) (nI 99))) = true
    · rw [if_pos a] at h
      simp only [Bool.and_eq_true, rmB_i ho.1 ho.2.1, ivB_i] at a
      by_cases e5 : s.1.1 4 = v
      · rw [if_pos e5] at h
        by_cases e6 : n = 8
        · rw [if_pos (by rw [hn, e6])] at h
          exact h _ hm
        · exact absurd ⟨a.1, a.2.1, a.2.2, fun g => e6 g.2⟩ hno
      · exact absurd ⟨a.1, a.2.1, a.2.2, fun g => e5 g.1⟩ hno
    · rw [if_neg a] at h
      exact h _ hm
theorem op_M_image (hm : mR R σ s) (ho : okF R s) (h : ∀ σ', mR R σ' (oImage s).2 → Q (some (.int (oImage s).1)) (mM q M0 σ')) : xEv xP (xprim sa) (d + 2) m_M_image [.ref q] (mM q M0 σ) Q := by
  refine c_M_image ?_
  have e := hm.2.1.2.2.1 0 (by omega)
  rw [show σ.2.2.1 1 190 = s.1.2.1 0 from e]
  have h40 : s.1.2.2.length ≤ 40 := ho.2.2.1.2.2.2.2.2.2.1
  exact h _ ⟨hm.1, hm.2.1, rA_lay hm.2.1 h40, hm.2.2.2.1, hm.2.2.2.2⟩
theorem op_M_back (hm : mR R σ s) (ho : okF R s) (h : ∀ σ', mR R σ' (oBack s).2 → Q (some (.int (oBack s).1)) (mM q M0 σ')) : xEv xP (xprim sa) (d + 2) m_M_back [.ref q] (mM q M0 σ) Q := by
  refine c_M_back ?_
  have e := hm.2.2.1.2.2.1 0 (by omega)
  rw [show σ.2.2.1 2 190 = s.2.1.2.1 0 from e]
  have h40 : s.2.1.2.2.length ≤ 40 := ho.2.2.2.1.2.2.2.2.2.2.1
  have hle := ho.2.2.2.2.1
  refine h _ ⟨hm.1, rA_lay hm.2.2.1 h40, hm.2.2.1, fun t ht => hm.2.2.2.1 t ?_, hm.2.2.2.2⟩
  have ht : (t : Int) < (s.2.1.1 0).toInt := ht
  omega
end OM2
