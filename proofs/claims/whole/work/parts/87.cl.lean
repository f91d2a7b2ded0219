/-! a new council's cells are the class's cells; they hold the new state -/
def nte (k : Nat) : Bool := decide (k = 111 ∨ k = 112 ∨ k = 123 ∨ k = 124 ∨ k = 301 ∨ k = 302 ∨ k = 56 ∨ k = 57 ∨ k = 60 ∨ k = 61 ∨ k = 102 ∨ k = 103 ∨ k = 106 ∨ k = 107 ∨ k = 130 ∨ k = 131 ∨ k = 308 ∨ k = 309 ∨ (134 ≤ k ∧ k < 294 ∧ 2 ≤ (k - 134) % 4) ∨ (312 ≤ k ∧ k < 472 ∧ 2 ≤ (k - 312) % 4))
def tau0 (R : Nat) : cS := fun k => if k = 0 then (fun j => if j = 0 then nI R else if j = 10 ∨ j = 11 then -1 else 0) else if k = 34 then (fun j => if j = 4 then -1 else 0) else if k = 36 ∨ k = 42 then (fun j => if j = 0 then nI R else 0)
  else if k = 62 then (fun j => if j = 0 then nI 85 else if j = 1 then nI 90 else if j = 11 then nI 2 else 0) else if k = 85 ∨ k = 90 ∨ k = 95 then (fun j => if j = 0 then nI (R + 1) else 0) else if k = 108 ∨ k = 120 ∨ k = 298 then (fun j => if j = 7 then -1 else 0) else if nte k = true then nN R else fun _ => 0
def cel (c R : Nat) (τ : cS) : Nat → List xE → Prop
  | _, [] => True
  | k, e :: L => e = cCell c R k (τ k) ∧ cel c R τ (k + 1) L
theorem cel_at {c R : Nat} {τ : cS} : ∀ (L : List xE) (k j : Nat) (e : xE), cel c R τ k L → L[j]? = some e → e = cCell c R (k + j) (τ (k + j))
  | [], _, _, _, _, h => by rw [List.getElem?_nil] at h; exact nomatch h
  | a :: L, k, 0, e, hc, h => by
    have : a = e := Option.some.inj h
    rw [← this]
    exact hc.1
  | a :: L, k, j + 1, e, hc, h => by
    have := cel_at L (k + 1) j e hc.2 h
    rw [show k + (j + 1) = k + 1 + j by omega]
    exact this
/-- the same of a long list -/
def ceL (c R : Nat) (τ : cS) (k : Nat) (L : List xE) : Prop := ∀ (j : Nat) (e : xE), L[j]? = some e → e = cCell c R (k + j) (τ (k + j))
theorem ceL_of {c R k : Nat} {τ : cS} {L : List xE} (h : cel c R τ k L) : ceL c R τ k L := fun j e he => cel_at L k j e h he
theorem ceL_n {c R k : Nat} {τ : cS} : ceL c R τ k [] := fun j e h => by rw [List.getElem?_nil] at h; exact nomatch h
theorem ceL_c {c R k : Nat} {τ : cS} {e : xE} {L : List xE} (h1 : e = cCell c R k (τ k)) (h2 : ceL c R τ (k + 1) L) : ceL c R τ k (e :: L) := by
  intro j a h
  cases j with
  | zero =>
    have : e = a := Option.some.inj h
    rw [← this]
    exact h1
  | succ j =>
    have := h2 j a h
    rw [show k + (j + 1) = k + 1 + j by omega]
    exact this
theorem ceL_app {c R k n : Nat} {τ : cS} {A B : List xE} (hn : A.length = n) (hA : ceL c R τ k A) (hB : ceL c R τ (k + n) B) : ceL c R τ k (A ++ B) := by
  subst hn
  intro j a h
  by_cases hj : j < A.length
  · rw [List.getElem?_append_left hj] at h
    exact hA j a h
  · rw [List.getElem?_append_right (by omega)] at h
    have := hB _ a h
    rw [show k + A.length + (j - A.length) = k + j by omega] at this
    exact this
theorem lM_cM {c R : Nat} {M0 : xM} {τ : cS} {L : List xE} (hl : L.length = 475) (h : ceL c R τ 0 L) : lM c M0 L = cM c R M0 τ := by
  funext x
  unfold lM cM
  rw [hl]
  by_cases hx : c ≤ x ∧ x < c + 475
  · rw [if_pos hx, if_pos hx]
    have hlt : x - c < L.length := by omega
    rw [List.getElem?_eq_getElem hlt]
    have := h (x - c) _ (List.getElem?_eq_getElem hlt)
    rw [Nat.zero_add] at this
    rw [this]
  · rw [if_neg hx, if_neg hx]
section CL
variable {c R : Nat}
theorem t0_z {k : Nat} (h : 108 < k) (h1 : k ≠ 120) (h2 : k ≠ 298) (hn : nte k = false) : tau0 R k = fun _ => 0 := by
  unfold tau0
  rw [if_neg (by omega), if_neg (by omega), if_neg (by omega), if_neg (by omega), if_neg (by omega), if_neg (by omega), hn, if_neg (by decide)]
theorem t0_n {k : Nat} (h : 108 < k) (h1 : k ≠ 120) (h2 : k ≠ 298) (hn : nte k = true) : tau0 R k = nN R := by
  unfold tau0
  rw [if_neg (by omega), if_neg (by omega), if_neg (by omega), if_neg (by omega), if_neg (by omega), if_neg (by omega), hn, if_pos rfl]
theorem cel_Mo {τ : cS} {k : Nat} (hk : moK R k) (h0 : τ k = fun _ => 0) (h1 : τ (k + 1) = fun _ => 0) (h2 : τ (k + 2) = nN R) (h3 : τ (k + 3) = nN R) : cel c R τ k (lMo (c + k) R) := by
  refine ⟨?_, ?_, ?_, ?_, trivial⟩
  · unfold cCell
    rw [hk.1.2, h0]
    rfl
  · rw [ceI hk.2.1, h1]; rfl
  · rw [show k + 1 + 1 = k + 2 from rfl, ceI hk.2.2.1, h2]
  · rw [show k + 1 + 1 + 1 = k + 3 from rfl, ceI hk.2.2.2, h3]
theorem cel_mos {p : Nat} (hp : p = 132 ∨ p = 310) : ∀ n, n ≤ 40 → ceL c R (tau0 R) (p + 2) (mos (c + p + 2) R n)
  | 0, _ => ceL_n
  | n + 1, hn => by
    refine ceL_app (mos_len n) (cel_mos hp n (by omega)) (ceL_of ?_)
    have e : c + p + 2 + 4 * n = c + (p + 2 + 4 * n) := by omega
    rw [e]
    refine cel_Mo (rk_ring hp (by omega)) (t0_z (by omega) (by omega) (by omega) ?_) (t0_z (by omega) (by omega) (by omega) ?_) (t0_n (by omega) (by omega) (by omega) ?_) (t0_n (by omega) (by omega) (by omega) ?_)
    · exact decide_eq_false (by omega)
    · exact decide_eq_false (by omega)
    · exact decide_eq_true (by omega)
    · exact decide_eq_true (by omega)
theorem cel_El {τ : cS} {k : Nat} (hk : elK R k) (h0 : τ k = fun j => if j = 7 then -1 else 0) (h1 : τ (k + 1) = fun _ => 0) (h2 : τ (k + 2) = fun _ => 0) (h3 : τ (k + 3) = nN R) (h4 : τ (k + 4) = nN R) (h5 : τ (k + 5) = fun _ => 0) (h6 : τ (k + 6) = fun _ => 0) (h7 : τ (k + 7) = fun _ => 0) : cel c R τ k (lEl (c + k) R) := by
  refine ⟨?_, ?_, ?_, ?_, ?_, ?_, ?_, ?_, trivial⟩
  · unfold cCell
    rw [hk.1.2, h0]
    rfl
  · rw [ceI hk.2.1, h1]; rfl
  · rw [show k + 1 + 1 = k + 2 from rfl, ceI hk.2.2.1, h2]; rfl
  · rw [show k + 1 + 1 + 1 = k + 3 from rfl, ceI hk.2.2.2.1, h3]
  · rw [show k + 1 + 1 + 1 + 1 = k + 4 from rfl, ceI hk.2.2.2.2.1, h4]
  · rw [show k + 1 + 1 + 1 + 1 + 1 = k + 5 from rfl, ceZ hk.2.2.2.2.2.1, h5]; rfl
  · rw [show k + 1 + 1 + 1 + 1 + 1 + 1 = k + 6 from rfl, ceZ hk.2.2.2.2.2.2.1, h6]; rfl
  · rw [show k + 1 + 1 + 1 + 1 + 1 + 1 + 1 = k + 7 from rfl, ceZ hk.2.2.2.2.2.2.2, h7]; rfl
theorem cel_He {τ : cS} {k : Nat} (hk : heK R k) (h0 : τ k = fun _ => 0) (h1 : τ (k + 1) = fun _ => 0) (h2 : τ (k + 2) = fun _ => 0) : cel c R τ k (lHe (c + k)) := by
  refine ⟨?_, ?_, ?_, trivial⟩
  · unfold cCell
    rw [hk.1.2, h0]
    rfl
  · rw [ceI hk.2.1, h1]; rfl
  · rw [show k + 1 + 1 = k + 2 from rfl, ceI hk.2.2, h2]; rfl
theorem t0_e {k : Nat} (h : k = 120 ∨ k = 298) : tau0 R k = fun j => if j = 7 then -1 else 0 := by
  unfold tau0
  rw [if_neg (by omega), if_neg (by omega), if_neg (by omega), if_neg (by omega), if_neg (by omega), if_pos (by omega)]
theorem cel_w1 {w : Nat} (hw : w = 119 ∨ w = 297) (he : elK R (w + 1)) : cel c R (tau0 R) (w + 1) (lEl (c + w + 1) R) := by
  rw [show c + w + 1 = c + (w + 1) from rfl]
  exact cel_El he (t0_e (by omega)) (t0_z (by omega) (by omega) (by omega) (decide_eq_false (by omega))) (t0_z (by omega) (by omega) (by omega) (decide_eq_false (by omega))) (t0_n (by omega) (by omega) (by omega) (decide_eq_true (by omega))) (t0_n (by omega) (by omega) (by omega) (decide_eq_true (by omega))) (t0_z (by omega) (by omega) (by omega) (decide_eq_false (by omega))) (t0_z (by omega) (by omega) (by omega) (decide_eq_false (by omega))) (t0_z (by omega) (by omega) (by omega) (decide_eq_false (by omega)))
theorem cel_w9 {w : Nat} (hw : w = 119 ∨ w = 297) (hm : moK R (w + 9)) : cel c R (tau0 R) (w + 9) (lMo (c + w + 9) R) := by
  rw [show c + w + 9 = c + (w + 9) from rfl]
  exact cel_Mo hm (t0_z (by omega) (by omega) (by omega) (decide_eq_false (by omega))) (t0_z (by omega) (by omega) (by omega) (decide_eq_false (by omega))) (t0_n (by omega) (by omega) (by omega) (decide_eq_true (by omega))) (t0_n (by omega) (by omega) (by omega) (decide_eq_true (by omega)))
theorem c_ri {p : Nat} (hp : 1 ≤ p) : (.inl (5, 40, refA (rgF (c + (p - 1) + 2) 4 40)) : xE) = .inl (5, 40, refA (fun i => if i < 40 then some (c + (p + 1 + 4 * i)) else none)) := by
  have : rgF (c + (p - 1) + 2) 4 40 = (fun i => if i < 40 then some (c + (p + 1 + 4 * i)) else none) := by
    funext i
    unfold rgF
    by_cases hi : i < 40
    · rw [if_pos hi, if_pos hi]
      congr 1
      omega
    · rw [if_neg hi, if_neg hi]
  rw [this]
theorem cel_w15 {w : Nat} (hw : w = 119 ∨ w = 297) : ceL c R (tau0 R) (w + 15) (mos (c + w + 13 + 2) R 40) := by
  have hp : w + 13 = 132 ∨ w + 13 = 310 := by omega
  have h := cel_mos (c := c) (R := R) hp 40 (Nat.le_refl 40)
  have e : c + (w + 13) + 2 = c + w + 13 + 2 := by omega
  rw [e] at h
  exact h
theorem cel_w13 {w : Nat} (hw : w = 119 ∨ w = 297) : ceL c R (tau0 R) (w + 13) (lPa (c + w + 13) R) := by
  have hk5 : kdC (w + 13) = 100 + 5 := by rcases hw with rfl | rfl <;> rfl
  have hk6 : kdC (w + 14) = 5 := by rcases hw with rfl | rfl <;> rfl
  unfold lPa
  refine ceL_c ?_ (ceL_c ?_ ?_)
  · unfold cCell
    rw [hk5, t0_z (k := w + 13) (by omega) (by omega) (by omega) (decide_eq_false (by omega))]
    rfl
  · unfold cCell
    rw [show w + 13 + 1 = w + 14 from rfl, hk6]
    have := c_ri (c := c) (p := w + 14) (by omega)
    rw [show c + (w + 14 - 1) + 2 = c + w + 13 + 2 by omega] at this
    exact this
  · exact cel_w15 hw
theorem cel_w175 {w : Nat} (hw : w = 119 ∨ w = 297) (hh : heK R (w + 175)) : cel c R (tau0 R) (w + 175) (lHe (c + w + 175)) := by
  rw [show c + w + 175 = c + (w + 175) by omega]
  exact cel_He hh (t0_z (by omega) (by omega) (by omega) (decide_eq_false (by omega))) (t0_z (by omega) (by omega) (by omega) (decide_eq_false (by omega))) (t0_z (by omega) (by omega) (by omega) (decide_eq_false (by omega)))
theorem cel_w0 {w : Nat} (hw : w = 119 ∨ w = 297) : (.inr (10, [.ref (c + w + 1), .ref (c + w + 9), .ref (c + w + 13), .ref (c + w + 175), .int 0]) : xE) = cCell c R w (tau0 R w) := by
  have hk : kdC w = 100 + 10 := by rcases hw with rfl | rfl <;> rfl
  unfold cCell
  rw [hk, t0_z (k := w) (by omega) (by omega) (by omega) (decide_eq_false (by omega))]
  show _ = (.inr (10, [.ref (c + (w + 1)), .ref (c + (w + 9)), .ref (c + (w + 13)), .ref (c + (w + 175)), .int 0]) : xE)
  rw [show c + w + 1 = c + (w + 1) by omega, show c + w + 9 = c + (w + 9) by omega, show c + w + 13 = c + (w + 13) by omega, show c + w + 175 = c + (w + 175) by omega]
theorem cel_Wh {w : Nat} (hw : w = 119 ∨ w = 297) : ceL c R (tau0 R) w (lWh (c + w) R) := by
  have hm : moK R (w + 9) := by rcases hw with rfl | rfl; exact mk_128; exact mk_306
  have he : elK R (w + 1) := by rcases hw with rfl | rfl; exact ek_120; exact ek_298
  have hh : heK R (w + 175) := by rcases hw with rfl | rfl; exact hk_294; exact hk_472
  unfold lWh
  refine ceL_c (cel_w0 hw) (ceL_app (n := 8) rfl (ceL_of (cel_w1 hw he)) (ceL_app (n := 4) rfl (ceL_of (cel_w9 hw hm)) (ceL_app lPa_len (cel_w13 hw) (ceL_of ?_))))
  have := cel_w175 (c := c) hw hh
  exact this
theorem cel_Te {τ : cS} {k : Nat} (hk : teK R k) (h : ∀ j, j < 8 → τ (k + j) = fun _ => 0) : cel c R τ k (lTe (c + k)) := by
  have h0 : τ k = fun _ => 0 := h 0 (by omega)
  refine ⟨?_, ?_, ?_, ?_, ?_, ?_, ?_, ?_, trivial⟩
  · unfold cCell
    rw [hk.1.2, h0]
    rfl
  · rw [ceI hk.2.1, h 1 (by omega)]; rfl
  · rw [show k + 1 + 1 = k + 2 from rfl, ceI hk.2.2.1, h 2 (by omega)]; rfl
  · rw [show k + 1 + 1 + 1 = k + 3 from rfl, ceI hk.2.2.2.1, h 3 (by omega)]; rfl
  · rw [show k + 1 + 1 + 1 + 1 = k + 4 from rfl, ceI hk.2.2.2.2.1, h 4 (by omega)]; rfl
  · rw [show k + 1 + 1 + 1 + 1 + 1 = k + 5 from rfl, ceI hk.2.2.2.2.2.1, h 5 (by omega)]; rfl
  · rw [show k + 1 + 1 + 1 + 1 + 1 + 1 = k + 6 from rfl, ceI hk.2.2.2.2.2.2.1, h 6 (by omega)]; rfl
  · rw [show k + 1 + 1 + 1 + 1 + 1 + 1 + 1 = k + 7 from rfl, ceI hk.2.2.2.2.2.2.2, h 7 (by omega)]; rfl
theorem cel_Fo {τ : cS} {k : Nat} (hk : foK R k) (h0 : τ k = fun j => if j = 0 then nI (R + 1) else 0) (h1 : τ (k + 1) = fun _ => 0) (h2 : τ (k + 2) = fun _ => 0) (h3 : τ (k + 3) = fun _ => 0) (h4 : τ (k + 4) = fun _ => 0) : cel c R τ k (lFo (c + k) R) := by
  refine ⟨?_, ?_, ?_, ?_, ?_, trivial⟩
  · unfold cCell
    rw [hk.1.2, h0]
    rfl
  · rw [ceI hk.2.1, h1]; rfl
  · rw [show k + 1 + 1 = k + 2 from rfl, ceI hk.2.2.1, h2]; rfl
  · rw [show k + 1 + 1 + 1 = k + 3 from rfl, ceI hk.2.2.2.1, h3]; rfl
  · rw [show k + 1 + 1 + 1 + 1 = k + 4 from rfl, ceI hk.2.2.2.2, h4]; rfl
end CL
