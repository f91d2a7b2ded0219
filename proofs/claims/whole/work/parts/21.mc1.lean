/-! the reference's small methods -/
theorem xrI_mk {K : Int32 → xM → Prop} {r : Int32} {M : xM} : xrI K (some (.int r)) M = K r M := rfl
theorem xrL_mk {K : Int64 → xM → Prop} {r : Int64} {M : xM} : xrL K (some (.long r)) M = K r M := rfl
theorem xrR_mk {K : Nat → xM → Prop} {r : Nat} {M : xM} : xrR K (some (.ref r)) M = K r M := rfl
theorem xrV_mk {K : xM → Prop} {M : xM} : xrV K none M = K M := rfl
theorem n0 : nI 0 = 0 := rfl
theorem n1 : nI 1 = 1 := rfl
theorem o01 {x : Int32} (h : x = 0 ∨ x = 1) {P : Prop} (hp : P) : (x = 0 ∨ x = 1) ∧ P := ⟨h, hp⟩
theorem nI_rng {x : Int32} {n : Nat} (h0 : 0 ≤ x) (h1 : x ≤ nI n) (hn : n < 2 ^ 31) : ∃ r, r ≤ n ∧ x = nI r := by
  have h0' : ¬ x < 0 := Int32.not_lt.mpr h0
  exact nI_of2 (M := nI n) (nI_toInt hn) h0' h1
section MC1
variable {sa : Nat → Nat} {d : Nat} {Q : xQ} {q : Nat} {M0 M : xM} {σ : mS}
theorem c_M_isIn {v lo hi : Int32} (h1 : lo ≤ v → v ≤ hi → Q (some (.int 1)) M) (h0 : ¬ (lo ≤ v ∧ v ≤ hi) → Q (some (.int 0)) M) : xEv xP (xprim sa) (d + 1) m_M_isIn [.int v, .int lo, .int hi] M Q := by
  refine t_M_isIn ?_
  by_cases a : v < lo
  · rw [if_pos a]
    exact o01 (Or.inl rfl) (h0 (fun h => absurd h.1 (Int32.not_le.mpr a)))
  · rw [if_neg a]
    by_cases b : hi < v
    · rw [if_pos b]
      exact o01 (Or.inl rfl) (h0 (fun h => absurd h.2 (Int32.not_le.mpr b)))
    · rw [if_neg b]
      exact o01 (Or.inr rfl) (h1 (Int32.not_lt.mp a) (Int32.not_lt.mp b))
theorem c_M_isRoom {R : Nat} (hR : σ.1 2 = nI R) (hR3 : 3 ≤ R) (hR9 : R ≤ 9) {v : Int32} (h1 : ∀ r, r < R → v = nI r → Q (some (.int 1)) (mM q M0 σ)) (h0 : (∀ r, r < R → v ≠ nI r) → Q (some (.int 0)) (mM q M0 σ)) : xEv xP (xprim sa) (d + 2) m_M_isRoom [.ref q, .int v] (mM q M0 σ) Q := by
  refine t_M_isRoom ?_
  simp only [mg_0, mg_1, mp_2, mg_2, mg_3, mg_4, mp_5, mg_5, mp_6, mg_6, mp_7, mg_7, mp_8, mg_8, mp_9, mg_9, mp_10, mg_10, mp_11, mg_11, mp_12, mg_12, mp_13, mg_13, mp_14, mg_14, mp_15, mg_15, mp_16, mg_16, mg_17, mp_18, mg_18, mp_19, mg_19, mp_20, mg_20, mp_21, mg_21, mg_22, mg_23, mg_24, mg_25, mg_26, mg_27, mg_28, mg_29, mg_30, mg_31, mg_32, mg_33, mg_34, mp_35, mg_35, mp_36, mg_36, mg_37, mg_38, mg_39, ma_1, ms_1, ma_2, ms_2, ma_3, ms_3, ma_4, ms_4, ma_5, ms_5, ma_6, ms_6, ma_9, ms_9, ma_10, ms_10, ma_11, ms_11, ma_12, ms_12, ma_13, ms_13, ma_14, ms_14, ma_15, ms_15, ma_16, ms_16, ma_17, ms_17, ma_18, ms_18, ma_19, ms_19, ma_20, ms_20, ma_21, ms_21, mo_q', ma_L, ms_L, ma_Z, ms_Z, hR]
  have e : nI R - nI 1 = nI (R - 1) := pk_sub (by omega)
  rw [e]
  refine c_M_isIn (fun a b => ?_) (fun a => ?_)
  · obtain ⟨r, hr, rfl⟩ := nI_rng a b (by omega)
    exact o01 (Or.inr rfl) (h1 r (by omega) rfl)
  · exact o01 (Or.inl rfl) (h0 (fun r hr e => a (by rw [e]; exact ⟨nI_le (by omega) (by omega), nI_le (by omega) (by omega)⟩)))
theorem c_M_elder {R : Nat} (hR : σ.1 2 = nI R) (hR3 : 3 ≤ R) (hR9 : R ≤ 9) {v k f : Int32}
    (h1 : ∀ r, r < R → v = nI r → 0 ≤ k → k ≤ nI 2 → 0 ≤ f → f ≤ nI 9 → Q (some (.int 1)) (mM q M0 (mA σ 1 (upd (upd (σ.2.2.1 1) (10 + r) k) (20 + r) f))))
    (h0 : ¬ ((∃ r, r < R ∧ v = nI r) ∧ (0 ≤ k ∧ k ≤ nI 2) ∧ 0 ≤ f ∧ f ≤ nI 9) → Q (some (.int 0)) (mM q M0 σ)) : xEv xP (xprim sa) (d + 3) m_M_elder [.ref q, .int v, .int k, .int f] (mM q M0 σ) Q := by
  refine t_M_elder ?_
  refine ⟨mo_q, c_M_isRoom hR hR3 hR9 (fun r hr e => ?_) (fun a => ?_)⟩
  · subst e
    simp only [xrI_mk, xrV_mk, xrL_mk, xrR_mk]
    refine c_M_isIn (fun a b => ?_) (fun a => ?_)
    · simp only [xrI_mk, xrV_mk, xrL_mk, xrR_mk]
      refine c_M_isIn (fun a2 b2 => ?_) (fun a2 => ?_)
      · simp only [xrI_mk, xrV_mk, xrL_mk, xrR_mk, mg_0, mg_1, mp_2, mg_2, mg_3, mg_4, mp_5, mg_5, mp_6, mg_6, mp_7, mg_7, mp_8, mg_8, mp_9, mg_9, mp_10, mg_10, mp_11, mg_11, mp_12, mg_12, mp_13, mg_13, mp_14, mg_14, mp_15, mg_15, mp_16, mg_16, mg_17, mp_18, mg_18, mp_19, mg_19, mp_20, mg_20, mp_21, mg_21, mg_22, mg_23, mg_24, mg_25, mg_26, mg_27, mg_28, mg_29, mg_30, mg_31, mg_32, mg_33, mg_34, mp_35, mg_35, mp_36, mg_36, mg_37, mg_38, mg_39, ma_1, ms_1, ma_2, ms_2, ma_3, ms_3, ma_4, ms_4, ma_5, ms_5, ma_6, ms_6, ma_9, ms_9, ma_10, ms_10, ma_11, ms_11, ma_12, ms_12, ma_13, ms_13, ma_14, ms_14, ma_15, ms_15, ma_16, ms_16, ma_17, ms_17, ma_18, ms_18, ma_19, ms_19, ma_20, ms_20, ma_21, ms_21, mo_q', ma_L, ms_L, ma_Z, ms_Z, nI_add, mA_a]
        sorry
      · simp only [xrI_mk, xrV_mk, xrL_mk, xrR_mk]
        exact o01 (Or.inl rfl) (h0 (fun h => a2 h.2.2))
    · simp only [xrI_mk, xrV_mk, xrL_mk, xrR_mk]
      exact o01 (Or.inl rfl) (h0 (fun h => a h.2.1))
  · simp only [xrI_mk, xrV_mk, xrL_mk, xrR_mk]
    exact o01 (Or.inl rfl) (h0 (fun h => by obtain ⟨⟨r, hr, e⟩, -⟩ := h; exact a r hr e))
end MC1
