/-! a new council's cells are the class's cells; they hold the new state -/
def nte (k : Nat) : Bool := decide (k = 110 ∨ k = 111 ∨ k = 122 ∨ k = 123 ∨ k = 300 ∨ k = 301 ∨ k = 56 ∨ k = 57 ∨ k = 60 ∨ k = 61 ∨ k = 101 ∨ k = 102 ∨ k = 105 ∨ k = 106 ∨ k = 129 ∨ k = 130 ∨ k = 307 ∨ k = 308 ∨ (133 ≤ k ∧ k < 293 ∧ 2 ≤ (k - 133) % 4) ∨ (311 ≤ k ∧ k < 471 ∧ 2 ≤ (k - 311) % 4))
def tau0 (R : Nat) : cS := fun k => if k = 0 then (fun j => if j = 0 then nI R else if j = 10 ∨ j = 11 then -1 else 0) else if k = 34 then (fun j => if j = 4 then -1 else 0) else if k = 36 ∨ k = 42 then (fun j => if j = 0 then nI R else 0)
  else if k = 62 then (fun j => if j = 0 then nI 84 else if j = 1 then nI 89 else if j = 10 then nI 2 else 0) else if k = 84 ∨ k = 89 ∨ k = 94 then (fun j => if j = 0 then nI (R + 1) else 0) else if k = 107 ∨ k = 119 ∨ k = 297 then (fun j => if j = 7 then -1 else 0) else if nte k = true then nN R else fun _ => 0
def cel (c R : Nat) (τ : cS) : Nat → List xE → Prop
  | _, [] => True
  | k, e :: L => e = cCell c R k (τ k) ∧ cel c R τ (k + 1) L
theorem cel_at {c R : Nat} {τ : cS} : ∀ (L : List xE) (k j : Nat) (e : xE), cel c R τ k L → L[j]? = some e → e = cCell c R (k + j) (τ (k + j))
  | [], _, _, _, _, h => by rw [List.getElem?_nil] at h; exact nomatch h
  | a :: L, k, 0, e, hc, h => by
    have : a = e := Option.some.inj h
    rw [← this]
    exact hc.1
  | a :: L, k, j + 1, e, hc, h => by
    have := cel_at L (k + 1) j e hc.2 h
    rw [show k + (j + 1) = k + 1 + j by omega]
    exact this
theorem cel_app {c R : Nat} {τ : cS} : ∀ (A B : List xE) (k n : Nat), A.length = n → cel c R τ k A → cel c R τ (k + n) B → cel c R τ k (A ++ B)
  | [], B, k, n, hn, _, hB => by
    have hn : 0 = n := hn
    rw [← hn] at hB
    exact hB
  | a :: A, B, k, n, hn, hA, hB => by
    rw [List.length_cons] at hn
    refine ⟨hA.1, cel_app A B (k + 1) A.length rfl hA.2 ?_⟩
    rw [show k + 1 + A.length = k + n by omega]
    exact hB
theorem lM_cM {c R : Nat} {M0 : xM} {τ : cS} {L : List xE} (hl : L.length = 474) (h : cel c R τ 0 L) : lM c M0 L = cM c R M0 τ := by
  funext x
  unfold lM cM
  rw [hl]
  by_cases hx : c ≤ x ∧ x < c + 474
  · rw [if_pos hx, if_pos hx]
    have hlt : x - c < L.length := by omega
    rw [List.getElem?_eq_getElem hlt]
    have := cel_at L 0 (x - c) _ h (List.getElem?_eq_getElem hlt)
    rw [Nat.zero_add] at this
    rw [this]
  · rw [if_neg hx, if_neg hx]
section CL
variable {c R : Nat}
theorem t0_z {k : Nat} (h : 107 < k) (h1 : k ≠ 119) (h2 : k ≠ 297) (hn : nte k = false) : tau0 R k = fun _ => 0 := by
  unfold tau0
  rw [if_neg (by omega), if_neg (by omega), if_neg (by omega), if_neg (by omega), if_neg (by omega), if_neg (by omega), hn, if_neg (by decide)]
theorem t0_n {k : Nat} (h : 107 < k) (h1 : k ≠ 119) (h2 : k ≠ 297) (hn : nte k = true) : tau0 R k = nN R := by
  unfold tau0
  rw [if_neg (by omega), if_neg (by omega), if_neg (by omega), if_neg (by omega), if_neg (by omega), if_neg (by omega), hn, if_pos rfl]
theorem cel_Mo {τ : cS} {k : Nat} (hk : moK R k) (h0 : τ k = fun _ => 0) (h1 : τ (k + 1) = fun _ => 0) (h2 : τ (k + 2) = nN R) (h3 : τ (k + 3) = nN R) : cel c R τ k (lMo (c + k) R) := by
  refine ⟨?_, ?_, ?_, ?_, trivial⟩
  · unfold cCell
    rw [hk.1.2, h0]
    rfl
  · rw [ceI hk.2.1, h1]; rfl
  · rw [show k + 1 + 1 = k + 2 from rfl, ceI hk.2.2.1, h2]
  · rw [show k + 1 + 1 + 1 = k + 3 from rfl, ceI hk.2.2.2, h3]
theorem cel_mos {p : Nat} (hp : p = 131 ∨ p = 309) : ∀ n, n ≤ 40 → cel c R (tau0 R) (p + 2) (mos (c + p + 2) R n)
  | 0, _ => trivial
  | n + 1, hn => by
    refine cel_app _ _ _ _ (mos_len n) (cel_mos hp n (by omega)) ?_
    have e : c + p + 2 + 4 * n = c + (p + 2 + 4 * n) := by omega
    rw [e]
    refine cel_Mo (rk_ring hp (by omega)) (t0_z (by omega) (by omega) (by omega) ?_) (t0_z (by omega) (by omega) (by omega) ?_) (t0_n (by omega) (by omega) (by omega) ?_) (t0_n (by omega) (by omega) (by omega) ?_)
    · exact decide_eq_false (by omega)
    · exact decide_eq_false (by omega)
    · exact decide_eq_true (by omega)
    · exact decide_eq_true (by omega)
theorem cel_El {τ : cS} {k : Nat} (hk : elK R k) (h0 : τ k = fun j => if j = 7 then -1 else 0) (h1 : τ (k + 1) = fun _ => 0) (h2 : τ (k + 2) = fun _ => 0) (h3 : τ (k + 3) = nN R) (h4 : τ (k + 4) = nN R) (h5 : τ (k + 5) = fun _ => 0) (h6 : τ (k + 6) = fun _ => 0) (h7 : τ (k + 7) = fun _ => 0) : cel c R τ k (lEl (c + k) R) := by
  refine ⟨?_, ?_, ?_, ?_, ?_, ?_, ?_, ?_, trivial⟩
  · unfold cCell
    rw [hk.1.2, h0]
    rfl
  · rw [ceI hk.2.1, h1]; rfl
  · rw [show k + 1 + 1 = k + 2 from rfl, ceI hk.2.2.1, h2]; rfl
  · rw [show k + 1 + 1 + 1 = k + 3 from rfl, ceI hk.2.2.2.1, h3]
  · rw [show k + 1 + 1 + 1 + 1 = k + 4 from rfl, ceI hk.2.2.2.2.1, h4]
  · rw [show k + 1 + 1 + 1 + 1 + 1 = k + 5 from rfl, ceZ hk.2.2.2.2.2.1, h5]; rfl
  · rw [show k + 1 + 1 + 1 + 1 + 1 + 1 = k + 6 from rfl, ceZ hk.2.2.2.2.2.2.1, h6]; rfl
  · rw [show k + 1 + 1 + 1 + 1 + 1 + 1 + 1 = k + 7 from rfl, ceZ hk.2.2.2.2.2.2.2, h7]; rfl
theorem cel_He {τ : cS} {k : Nat} (hk : heK R k) (h0 : τ k = fun _ => 0) (h1 : τ (k + 1) = fun _ => 0) (h2 : τ (k + 2) = fun _ => 0) : cel c R τ k (lHe (c + k)) := by
  refine ⟨?_, ?_, ?_, trivial⟩
  · unfold cCell
    rw [hk.1.2, h0]
    rfl
  · rw [ceI hk.2.1, h1]; rfl
  · rw [show k + 1 + 1 = k + 2 from rfl, ceI hk.2.2, h2]; rfl
set_option maxRecDepth 100000 in
theorem cel_Wh {w : Nat} (hw : w = 118 ∨ w = 296) : cel c R (tau0 R) w (lWh (c + w) R) := by
  have hm : moK R (w + 9) := by rcases hw with rfl | rfl; exact mk_127; exact mk_305
  have he : elK R (w + 1) := by rcases hw with rfl | rfl; exact ek_119; exact ek_297
  have hh : heK R (w + 175) := by rcases hw with rfl | rfl; exact hk_293; exact hk_471
  refine ⟨?_, cel_app _ _ _ 8 rfl (?_ : cel c R (tau0 R) (w + 1) (lEl (c + w + 1) R)) (cel_app _ _ _ 4 rfl (?_ : cel c R (tau0 R) (w + 9) (lMo (c + w + 9) R)) (cel_app _ _ _ 162 lPa_len (?_ : cel c R (tau0 R) (w + 13) (lPa (c + w + 13) R)) (?_ : cel c R (tau0 R) (w + 175) (lHe (c + w + 175)))))⟩
  · rcases hw with rfl | rfl <;> rfl
  · rw [show c + w + 1 = c + (w + 1) from rfl]
    rcases hw with rfl | rfl <;> exact cel_El he rfl rfl rfl rfl rfl rfl rfl rfl
  · rw [show c + w + 9 = c + (w + 9) from rfl]
    rcases hw with rfl | rfl <;> exact cel_Mo hm rfl rfl rfl rfl
  · refine ⟨?_, ?_, ?_⟩
    · rcases hw with rfl | rfl <;> rfl
    · have key : ∀ p : Nat, (fun i => if i < 40 then some (c + (p + 1 + 4 * i)) else none) = rgF (c + (p - 1) + 2) 4 40 ∨ p = 0 := by
        intro p
        by_cases e : p = 0
        · exact Or.inr e
        · refine Or.inl ?_
          funext i
          unfold rgF
          by_cases hi : i < 40
          · rw [if_pos hi, if_pos hi]
            congr 1
            omega
          · rw [if_neg hi, if_neg hi]
      rcases hw with rfl | rfl
      · rcases key 132 with e | e
        · show _ = (.inl (5, 40, refA (fun i => if i < 40 then some (c + (132 + 1 + 4 * i)) else none)) : xE)
          rw [e]
        · exact absurd e (by decide)
      · rcases key 310 with e | e
        · show _ = (.inl (5, 40, refA (fun i => if i < 40 then some (c + (310 + 1 + 4 * i)) else none)) : xE)
          rw [e]
        · exact absurd e (by decide)
    · rcases hw with rfl | rfl
      · exact cel_mos (p := 131) (Or.inl rfl) 40 (by omega)
      · exact cel_mos (p := 309) (Or.inr rfl) 40 (by omega)
  · rw [show c + w + 175 = c + (w + 175) by omega]
    rcases hw with rfl | rfl <;> exact cel_He hh rfl rfl rfl
theorem cel_Te {τ : cS} {k : Nat} (hk : teK R k) (h : ∀ j, j < 8 → τ (k + j) = fun _ => 0) : cel c R τ k (lTe (c + k)) := by
  have h0 : τ k = fun _ => 0 := h 0 (by omega)
  refine ⟨?_, ?_, ?_, ?_, ?_, ?_, ?_, ?_, trivial⟩
  · unfold cCell
    rw [hk.1.2, h0]
    rfl
  · rw [ceI hk.2.1, h 1 (by omega)]; rfl
  · rw [show k + 1 + 1 = k + 2 from rfl, ceI hk.2.2.1, h 2 (by omega)]; rfl
  · rw [show k + 1 + 1 + 1 = k + 3 from rfl, ceI hk.2.2.2.1, h 3 (by omega)]; rfl
  · rw [show k + 1 + 1 + 1 + 1 = k + 4 from rfl, ceI hk.2.2.2.2.1, h 4 (by omega)]; rfl
  · rw [show k + 1 + 1 + 1 + 1 + 1 = k + 5 from rfl, ceI hk.2.2.2.2.2.1, h 5 (by omega)]; rfl
  · rw [show k + 1 + 1 + 1 + 1 + 1 + 1 = k + 6 from rfl, ceI hk.2.2.2.2.2.2.1, h 6 (by omega)]; rfl
  · rw [show k + 1 + 1 + 1 + 1 + 1 + 1 + 1 = k + 7 from rfl, ceI hk.2.2.2.2.2.2.2, h 7 (by omega)]; rfl
theorem cel_Fo {τ : cS} {k : Nat} (hk : foK R k) (h0 : τ k = fun j => if j = 0 then nI (R + 1) else 0) (h1 : τ (k + 1) = fun _ => 0) (h2 : τ (k + 2) = fun _ => 0) (h3 : τ (k + 3) = fun _ => 0) (h4 : τ (k + 4) = fun _ => 0) : cel c R τ k (lFo (c + k) R) := by
  refine ⟨?_, ?_, ?_, ?_, ?_, trivial⟩
  · unfold cCell
    rw [hk.1.2, h0]
    rfl
  · rw [ceI hk.2.1, h1]; rfl
  · rw [show k + 1 + 1 = k + 2 from rfl, ceI hk.2.2.1, h2]; rfl
  · rw [show k + 1 + 1 + 1 = k + 3 from rfl, ceI hk.2.2.2.1, h3]; rfl
  · rw [show k + 1 + 1 + 1 + 1 = k + 4 from rfl, ceI hk.2.2.2.2, h4]; rfl
end CL
