/-! the reference's cells: one object and 21 arrays, from q on; its state: whole numbers of fields, the word, the arrays, the values -/
abbrev mS : Type := (Nat → Int32) × Int64 × (Nat → Nat → Int32) × (Nat → Int64)
def mLen (k : Nat) : Nat := match k with
  | 1 => 1420
  | 2 => 1420
  | 3 => 2580
  | 4 => 300
  | 5 => 160
  | 6 => 8
  | 7 => 330
  | 8 => 330
  | 9 => 9
  | 10 => 9
  | 11 => 60
  | 12 => 540000
  | 13 => 9
  | 14 => 18000
  | 15 => 18000
  | 16 => 2000
  | 17 => 4096
  | 18 => 2
  | 19 => 30
  | 20 => 30
  | 21 => 400
  | _ => 0
def mFld (q : Nat) (σ : mS) : List Value := [.ref (q + 1), .ref (q + 2), .int (σ.1 2), .ref (q + 3), .ref (q + 4), .int (σ.1 5), .int (σ.1 6), .int (σ.1 7), .int (σ.1 8), .int (σ.1 9), .int (σ.1 10), .int (σ.1 11), .long σ.2.1, .int (σ.1 13), .int (σ.1 14), .int (σ.1 15), .int (σ.1 16), .ref (q + 5), .int (σ.1 18), .int (σ.1 19), .int (σ.1 20), .int (σ.1 21), .ref (q + 6), .ref (q + 7), .ref (q + 8), .ref (q + 9), .ref (q + 10), .ref (q + 11), .ref (q + 12), .ref (q + 13), .ref (q + 14), .ref (q + 15), .ref (q + 16), .ref (q + 17), .ref (q + 18), .int (σ.1 35), .int (σ.1 36), .ref (q + 19), .ref (q + 20), .ref (q + 21)]
def mCell (q : Nat) (σ : mS) (k : Nat) : xE := match k with
  | 0 => .inr (12, mFld q σ)
  | 7 => .inl (2, 330, .inr (.inl σ.2.2.2))
  | 8 => .inl (1, 330, .inl (σ.2.2.1 8))
  | k => .inl (0, mLen k, .inl (σ.2.2.1 k))
def mM (q : Nat) (M0 : xM) (σ : mS) : xM := fun x => if q ≤ x ∧ x < q + 22 then some (mCell q σ (x - q)) else M0 x
def mF (σ : mS) (j : Nat) (v : Int32) : mS := (fun i => if i = j then v else σ.1 i, σ.2)
def mWd (σ : mS) (v : Int64) : mS := (σ.1, v, σ.2.2)
def mA (σ : mS) (k : Nat) (f : Nat → Int32) : mS := (σ.1, σ.2.1, (fun i => if i = k then f else σ.2.2.1 i), σ.2.2.2)
def mV (σ : mS) (f : Nat → Int64) : mS := (σ.1, σ.2.1, σ.2.2.1, f)
/-- the arrays of ints -/
def mI (k : Nat) : Bool := decide (k < 22) && (decide (k ≠ 0) && (decide (k ≠ 7) && decide (k ≠ 8)))
theorem mM_at {q : Nat} {M0 : xM} {σ : mS} {k : Nat} (h : k < 22) : mM q M0 σ (q + k) = some (mCell q σ k) := by
  unfold mM
  rw [if_pos (by omega), Nat.add_sub_cancel_left]
theorem mM_q {q : Nat} {M0 : xM} {σ : mS} : mM q M0 σ q = some (.inr (12, mFld q σ)) := mM_at (k := 0) (by omega)
theorem mM_out {q : Nat} {M0 : xM} {σ : mS} {x : Nat} (h : ¬ (q ≤ x ∧ x < q + 22)) : mM q M0 σ x = M0 x := if_neg h
theorem mCell_I {q : Nat} {σ : mS} {k : Nat} (h : mI k = true) : mCell q σ k = .inl (0, mLen k, .inl (σ.2.2.1 k)) := by
  simp only [mI, Bool.and_eq_true, decide_eq_true_eq] at h
  unfold mCell
  split
  · exact absurd rfl h.2.1
  · exact absurd rfl h.2.2.1
  · exact absurd rfl h.2.2.2
  · rfl
theorem mI_lt {k : Nat} (h : mI k = true) : k < 22 := by
  simp only [mI, Bool.and_eq_true, decide_eq_true_eq] at h
  exact h.1
theorem mM_set {q : Nat} {M0 : xM} {σ σ' : mS} {k : Nat} {e : xE} (hk : k < 22) (h1 : mCell q σ' k = e) (h2 : ∀ j, j < 22 → j ≠ k → mCell q σ' j = mCell q σ j) : xset (mM q M0 σ) (q + k) e = mM q M0 σ' := by
  funext x
  unfold xset mM
  by_cases hx : x = q + k
  · subst hx
    rw [if_pos rfl, if_pos (by omega), Nat.add_sub_cancel_left, h1]
  · rw [if_neg hx]
    by_cases hr : q ≤ x ∧ x < q + 22
    · rw [if_pos hr, if_pos hr, h2 (x - q) (by omega) (by omega)]
    · rw [if_neg hr, if_neg hr]
theorem mCell_F {q : Nat} {σ : mS} {j i : Nat} {v : Int32} (h : j ≠ 0) : mCell q (mF σ i v) j = mCell q σ j := by
  unfold mCell
  split
  · exact absurd rfl h
  · rfl
  · rfl
  · rfl
theorem mCell_W {q : Nat} {σ : mS} {j : Nat} {v : Int64} (h : j ≠ 0) : mCell q (mWd σ v) j = mCell q σ j := by
  unfold mCell
  split
  · exact absurd rfl h
  · rfl
  · rfl
  · rfl
theorem mCell_A {q : Nat} {σ : mS} {j k : Nat} {f : Nat → Int32} (h : j ≠ k) : mCell q (mA σ k f) j = mCell q σ j := by
  unfold mCell
  split
  · rfl
  · rfl
  · simp [mA, h]
  · simp [mA, h]
theorem mCell_V {q : Nat} {σ : mS} {j : Nat} {f : Nat → Int64} (h : j ≠ 7) : mCell q (mV σ f) j = mCell q σ j := by
  unfold mCell
  split
  · rfl
  · exact absurd rfl h
  · rfl
  · rfl
section MM
variable {q : Nat} {M0 : xM} {σ : mS}
theorem mo_q : xobj (mM q M0 σ) q 12 := ⟨_, mM_q⟩
theorem mo_q' : xobj (mM q M0 σ) q 12 = True := propext ⟨fun _ => trivial, fun _ => mo_q⟩
/-- any array of ints, read and written -/
theorem ma_I {k : Nat} (hk : mI k = true) {i : Int32} {K : Int32 → Prop} : xaI (mM q M0 σ) (q + k) i K = (vp_in i (mLen k) ∧ K (σ.2.2.1 k i.toNatClampNeg)) := by
  unfold xaI
  rw [mM_at (mI_lt hk), mCell_I hk]
  simp
theorem ms_I {k : Nat} (hk : mI k = true) {i x : Int32} {K : xM → Prop} : xsI (mM q M0 σ) (q + k) i x K = (vp_in i (mLen k) ∧ K (mM q M0 (mA σ k (upd (σ.2.2.1 k) i.toNatClampNeg x)))) := by
  unfold xsI
  rw [mM_at (mI_lt hk), mCell_I hk]
  dsimp only
  rw [mM_set (σ' := mA σ k (upd (σ.2.2.1 k) i.toNatClampNeg x)) (mI_lt hk) (by rw [mCell_I hk]; simp [mA]) (fun j _ hj => mCell_A hj)]
  simp
theorem ml_I {k : Nat} (hk : mI k = true) {K : Int32 → Prop} : xlen (mM q M0 σ) (q + k) K = K (nI (mLen k)) := by
  unfold xlen
  rw [mM_at (mI_lt hk), mCell_I hk]
  rfl
theorem ma_L {i : Int32} {K : Int64 → Prop} : xaL (mM q M0 σ) (q + 7) i K = (vp_in i 330 ∧ K (σ.2.2.2 i.toNatClampNeg)) := by
  unfold xaL
  rw [mM_at (by omega)]
  simp [mCell]
theorem ms_L {i : Int32} {x : Int64} {K : xM → Prop} : xsL (mM q M0 σ) (q + 7) i x K = (vp_in i 330 ∧ K (mM q M0 (mV σ (vp_updL σ.2.2.2 i.toNatClampNeg x)))) := by
  unfold xsL
  rw [mM_at (by omega), show mCell q σ 7 = .inl (2, 330, .inr (.inl σ.2.2.2)) from rfl]
  dsimp only
  rw [mM_set (k := 7) (σ' := mV σ (vp_updL σ.2.2.2 i.toNatClampNeg x)) (by omega) (by rfl) (fun j _ hj => mCell_V hj)]
  simp
theorem ma_Z {i : Int32} {K : Int32 → Prop} : xaZ (mM q M0 σ) (q + 8) i K = (vp_in i 330 ∧ K (σ.2.2.1 8 i.toNatClampNeg)) := by
  unfold xaZ
  rw [mM_at (by omega)]
  simp [mCell]
theorem ms_Z {i x : Int32} {K : xM → Prop} : xsZ (mM q M0 σ) (q + 8) i x K = (vp_in i 330 ∧ K (mM q M0 (mA σ 8 (upd (σ.2.2.1 8) i.toNatClampNeg (vp_nar .boolean x))))) := by
  unfold xsZ
  rw [mM_at (by omega), show mCell q σ 8 = .inl (1, 330, .inl (σ.2.2.1 8)) from rfl]
  dsimp only
  rw [mM_set (k := 8) (σ' := mA σ 8 (upd (σ.2.2.1 8) i.toNatClampNeg (vp_nar .boolean x))) (by omega) (by simp [mCell, mA]) (fun j _ hj => mCell_A hj)]
  simp
theorem mg_0 {K : Nat → Prop} : xgfR (mM q M0 σ) q 12 0 K = K (q + 1) := by
  unfold xgfR
  rw [mM_q]
  simp [mFld]
theorem mg_1 {K : Nat → Prop} : xgfR (mM q M0 σ) q 12 1 K = K (q + 2) := by
  unfold xgfR
  rw [mM_q]
  simp [mFld]
theorem mg_2 {K : Int32 → Prop} : xgfI (mM q M0 σ) q 12 2 K = K (σ.1 2) := by
  unfold xgfI
  rw [mM_q]
  simp [mFld]
theorem mp_2 {v : Int32} {K : xM → Prop} : xpf (mM q M0 σ) q 12 2 (.int v) K = K (mM q M0 (mF σ 2 v)) := by
  unfold xpf
  rw [mM_q]
  dsimp only
  rw [show xset (mM q M0 σ) q (.inr (12, (mFld q σ).set 2 (.int v))) = mM q M0 (mF σ 2 v) from mM_set (k := 0) (by omega) (by rfl) (fun j _ hj => mCell_F hj)]
  simp
theorem mg_3 {K : Nat → Prop} : xgfR (mM q M0 σ) q 12 3 K = K (q + 3) := by
  unfold xgfR
  rw [mM_q]
  simp [mFld]
theorem mg_4 {K : Nat → Prop} : xgfR (mM q M0 σ) q 12 4 K = K (q + 4) := by
  unfold xgfR
  rw [mM_q]
  simp [mFld]
theorem mg_5 {K : Int32 → Prop} : xgfI (mM q M0 σ) q 12 5 K = K (σ.1 5) := by
  unfold xgfI
  rw [mM_q]
  simp [mFld]
theorem mp_5 {v : Int32} {K : xM → Prop} : xpf (mM q M0 σ) q 12 5 (.int v) K = K (mM q M0 (mF σ 5 v)) := by
  unfold xpf
  rw [mM_q]
  dsimp only
  rw [show xset (mM q M0 σ) q (.inr (12, (mFld q σ).set 5 (.int v))) = mM q M0 (mF σ 5 v) from mM_set (k := 0) (by omega) (by rfl) (fun j _ hj => mCell_F hj)]
  simp
theorem mg_6 {K : Int32 → Prop} : xgfI (mM q M0 σ) q 12 6 K = K (σ.1 6) := by
  unfold xgfI
  rw [mM_q]
  simp [mFld]
theorem mp_6 {v : Int32} {K : xM → Prop} : xpf (mM q M0 σ) q 12 6 (.int v) K = K (mM q M0 (mF σ 6 v)) := by
  unfold xpf
  rw [mM_q]
  dsimp only
  rw [show xset (mM q M0 σ) q (.inr (12, (mFld q σ).set 6 (.int v))) = mM q M0 (mF σ 6 v) from mM_set (k := 0) (by omega) (by rfl) (fun j _ hj => mCell_F hj)]
  simp
theorem mg_7 {K : Int32 → Prop} : xgfI (mM q M0 σ) q 12 7 K = K (σ.1 7) := by
  unfold xgfI
  rw [mM_q]
  simp [mFld]
theorem mp_7 {v : Int32} {K : xM → Prop} : xpf (mM q M0 σ) q 12 7 (.int v) K = K (mM q M0 (mF σ 7 v)) := by
  unfold xpf
  rw [mM_q]
  dsimp only
  rw [show xset (mM q M0 σ) q (.inr (12, (mFld q σ).set 7 (.int v))) = mM q M0 (mF σ 7 v) from mM_set (k := 0) (by omega) (by rfl) (fun j _ hj => mCell_F hj)]
  simp
theorem mg_8 {K : Int32 → Prop} : xgfI (mM q M0 σ) q 12 8 K = K (σ.1 8) := by
  unfold xgfI
  rw [mM_q]
  simp [mFld]
theorem mp_8 {v : Int32} {K : xM → Prop} : xpf (mM q M0 σ) q 12 8 (.int v) K = K (mM q M0 (mF σ 8 v)) := by
  unfold xpf
  rw [mM_q]
  dsimp only
  rw [show xset (mM q M0 σ) q (.inr (12, (mFld q σ).set 8 (.int v))) = mM q M0 (mF σ 8 v) from mM_set (k := 0) (by omega) (by rfl) (fun j _ hj => mCell_F hj)]
  simp
theorem mg_9 {K : Int32 → Prop} : xgfI (mM q M0 σ) q 12 9 K = K (σ.1 9) := by
  unfold xgfI
  rw [mM_q]
  simp [mFld]
theorem mp_9 {v : Int32} {K : xM → Prop} : xpf (mM q M0 σ) q 12 9 (.int v) K = K (mM q M0 (mF σ 9 v)) := by
  unfold xpf
  rw [mM_q]
  dsimp only
  rw [show xset (mM q M0 σ) q (.inr (12, (mFld q σ).set 9 (.int v))) = mM q M0 (mF σ 9 v) from mM_set (k := 0) (by omega) (by rfl) (fun j _ hj => mCell_F hj)]
  simp
theorem mg_10 {K : Int32 → Prop} : xgfI (mM q M0 σ) q 12 10 K = K (σ.1 10) := by
  unfold xgfI
  rw [mM_q]
  simp [mFld]
theorem mp_10 {v : Int32} {K : xM → Prop} : xpf (mM q M0 σ) q 12 10 (.int v) K = K (mM q M0 (mF σ 10 v)) := by
  unfold xpf
  rw [mM_q]
  dsimp only
  rw [show xset (mM q M0 σ) q (.inr (12, (mFld q σ).set 10 (.int v))) = mM q M0 (mF σ 10 v) from mM_set (k := 0) (by omega) (by rfl) (fun j _ hj => mCell_F hj)]
  simp
theorem mg_11 {K : Int32 → Prop} : xgfI (mM q M0 σ) q 12 11 K = K (σ.1 11) := by
  unfold xgfI
  rw [mM_q]
  simp [mFld]
theorem mp_11 {v : Int32} {K : xM → Prop} : xpf (mM q M0 σ) q 12 11 (.int v) K = K (mM q M0 (mF σ 11 v)) := by
  unfold xpf
  rw [mM_q]
  dsimp only
  rw [show xset (mM q M0 σ) q (.inr (12, (mFld q σ).set 11 (.int v))) = mM q M0 (mF σ 11 v) from mM_set (k := 0) (by omega) (by rfl) (fun j _ hj => mCell_F hj)]
  simp
theorem mg_12 {K : Int64 → Prop} : xgfL (mM q M0 σ) q 12 12 K = K σ.2.1 := by
  unfold xgfL
  rw [mM_q]
  simp [mFld]
theorem mp_12 {v : Int64} {K : xM → Prop} : xpf (mM q M0 σ) q 12 12 (.long v) K = K (mM q M0 (mWd σ v)) := by
  unfold xpf
  rw [mM_q]
  dsimp only
  rw [show xset (mM q M0 σ) q (.inr (12, (mFld q σ).set 12 (.long v))) = mM q M0 (mWd σ v) from mM_set (k := 0) (by omega) (by rfl) (fun j _ hj => mCell_W hj)]
  simp
theorem mg_13 {K : Int32 → Prop} : xgfI (mM q M0 σ) q 12 13 K = K (σ.1 13) := by
  unfold xgfI
  rw [mM_q]
  simp [mFld]
theorem mp_13 {v : Int32} {K : xM → Prop} : xpf (mM q M0 σ) q 12 13 (.int v) K = K (mM q M0 (mF σ 13 v)) := by
  unfold xpf
  rw [mM_q]
  dsimp only
  rw [show xset (mM q M0 σ) q (.inr (12, (mFld q σ).set 13 (.int v))) = mM q M0 (mF σ 13 v) from mM_set (k := 0) (by omega) (by rfl) (fun j _ hj => mCell_F hj)]
  simp
theorem mg_14 {K : Int32 → Prop} : xgfI (mM q M0 σ) q 12 14 K = K (σ.1 14) := by
  unfold xgfI
  rw [mM_q]
  simp [mFld]
theorem mp_14 {v : Int32} {K : xM → Prop} : xpf (mM q M0 σ) q 12 14 (.int v) K = K (mM q M0 (mF σ 14 v)) := by
  unfold xpf
  rw [mM_q]
  dsimp only
  rw [show xset (mM q M0 σ) q (.inr (12, (mFld q σ).set 14 (.int v))) = mM q M0 (mF σ 14 v) from mM_set (k := 0) (by omega) (by rfl) (fun j _ hj => mCell_F hj)]
  simp
theorem mg_15 {K : Int32 → Prop} : xgfI (mM q M0 σ) q 12 15 K = K (σ.1 15) := by
  unfold xgfI
  rw [mM_q]
  simp [mFld]
theorem mp_15 {v : Int32} {K : xM → Prop} : xpf (mM q M0 σ) q 12 15 (.int v) K = K (mM q M0 (mF σ 15 v)) := by
  unfold xpf
  rw [mM_q]
  dsimp only
  rw [show xset (mM q M0 σ) q (.inr (12, (mFld q σ).set 15 (.int v))) = mM q M0 (mF σ 15 v) from mM_set (k := 0) (by omega) (by rfl) (fun j _ hj => mCell_F hj)]
  simp
theorem mg_16 {K : Int32 → Prop} : xgfI (mM q M0 σ) q 12 16 K = K (σ.1 16) := by
  unfold xgfI
  rw [mM_q]
  simp [mFld]
theorem mp_16 {v : Int32} {K : xM → Prop} : xpf (mM q M0 σ) q 12 16 (.int v) K = K (mM q M0 (mF σ 16 v)) := by
  unfold xpf
  rw [mM_q]
  dsimp only
  rw [show xset (mM q M0 σ) q (.inr (12, (mFld q σ).set 16 (.int v))) = mM q M0 (mF σ 16 v) from mM_set (k := 0) (by omega) (by rfl) (fun j _ hj => mCell_F hj)]
  simp
theorem mg_17 {K : Nat → Prop} : xgfR (mM q M0 σ) q 12 17 K = K (q + 5) := by
  unfold xgfR
  rw [mM_q]
  simp [mFld]
theorem mg_18 {K : Int32 → Prop} : xgfI (mM q M0 σ) q 12 18 K = K (σ.1 18) := by
  unfold xgfI
  rw [mM_q]
  simp [mFld]
theorem mp_18 {v : Int32} {K : xM → Prop} : xpf (mM q M0 σ) q 12 18 (.int v) K = K (mM q M0 (mF σ 18 v)) := by
  unfold xpf
  rw [mM_q]
  dsimp only
  rw [show xset (mM q M0 σ) q (.inr (12, (mFld q σ).set 18 (.int v))) = mM q M0 (mF σ 18 v) from mM_set (k := 0) (by omega) (by rfl) (fun j _ hj => mCell_F hj)]
  simp
theorem mg_19 {K : Int32 → Prop} : xgfI (mM q M0 σ) q 12 19 K = K (σ.1 19) := by
  unfold xgfI
  rw [mM_q]
  simp [mFld]
theorem mp_19 {v : Int32} {K : xM → Prop} : xpf (mM q M0 σ) q 12 19 (.int v) K = K (mM q M0 (mF σ 19 v)) := by
  unfold xpf
  rw [mM_q]
  dsimp only
  rw [show xset (mM q M0 σ) q (.inr (12, (mFld q σ).set 19 (.int v))) = mM q M0 (mF σ 19 v) from mM_set (k := 0) (by omega) (by rfl) (fun j _ hj => mCell_F hj)]
  simp
theorem mg_20 {K : Int32 → Prop} : xgfI (mM q M0 σ) q 12 20 K = K (σ.1 20) := by
  unfold xgfI
  rw [mM_q]
  simp [mFld]
theorem mp_20 {v : Int32} {K : xM → Prop} : xpf (mM q M0 σ) q 12 20 (.int v) K = K (mM q M0 (mF σ 20 v)) := by
  unfold xpf
  rw [mM_q]
  dsimp only
  rw [show xset (mM q M0 σ) q (.inr (12, (mFld q σ).set 20 (.int v))) = mM q M0 (mF σ 20 v) from mM_set (k := 0) (by omega) (by rfl) (fun j _ hj => mCell_F hj)]
  simp
theorem mg_21 {K : Int32 → Prop} : xgfI (mM q M0 σ) q 12 21 K = K (σ.1 21) := by
  unfold xgfI
  rw [mM_q]
  simp [mFld]
theorem mp_21 {v : Int32} {K : xM → Prop} : xpf (mM q M0 σ) q 12 21 (.int v) K = K (mM q M0 (mF σ 21 v)) := by
  unfold xpf
  rw [mM_q]
  dsimp only
  rw [show xset (mM q M0 σ) q (.inr (12, (mFld q σ).set 21 (.int v))) = mM q M0 (mF σ 21 v) from mM_set (k := 0) (by omega) (by rfl) (fun j _ hj => mCell_F hj)]
  simp
theorem mg_22 {K : Nat → Prop} : xgfR (mM q M0 σ) q 12 22 K = K (q + 6) := by
  unfold xgfR
  rw [mM_q]
  simp [mFld]
theorem mg_23 {K : Nat → Prop} : xgfR (mM q M0 σ) q 12 23 K = K (q + 7) := by
  unfold xgfR
  rw [mM_q]
  simp [mFld]
theorem mg_24 {K : Nat → Prop} : xgfR (mM q M0 σ) q 12 24 K = K (q + 8) := by
  unfold xgfR
  rw [mM_q]
  simp [mFld]
theorem mg_25 {K : Nat → Prop} : xgfR (mM q M0 σ) q 12 25 K = K (q + 9) := by
  unfold xgfR
  rw [mM_q]
  simp [mFld]
theorem mg_26 {K : Nat → Prop} : xgfR (mM q M0 σ) q 12 26 K = K (q + 10) := by
  unfold xgfR
  rw [mM_q]
  simp [mFld]
theorem mg_27 {K : Nat → Prop} : xgfR (mM q M0 σ) q 12 27 K = K (q + 11) := by
  unfold xgfR
  rw [mM_q]
  simp [mFld]
theorem mg_28 {K : Nat → Prop} : xgfR (mM q M0 σ) q 12 28 K = K (q + 12) := by
  unfold xgfR
  rw [mM_q]
  simp [mFld]
theorem mg_29 {K : Nat → Prop} : xgfR (mM q M0 σ) q 12 29 K = K (q + 13) := by
  unfold xgfR
  rw [mM_q]
  simp [mFld]
theorem mg_30 {K : Nat → Prop} : xgfR (mM q M0 σ) q 12 30 K = K (q + 14) := by
  unfold xgfR
  rw [mM_q]
  simp [mFld]
theorem mg_31 {K : Nat → Prop} : xgfR (mM q M0 σ) q 12 31 K = K (q + 15) := by
  unfold xgfR
  rw [mM_q]
  simp [mFld]
theorem mg_32 {K : Nat → Prop} : xgfR (mM q M0 σ) q 12 32 K = K (q + 16) := by
  unfold xgfR
  rw [mM_q]
  simp [mFld]
theorem mg_33 {K : Nat → Prop} : xgfR (mM q M0 σ) q 12 33 K = K (q + 17) := by
  unfold xgfR
  rw [mM_q]
  simp [mFld]
theorem mg_34 {K : Nat → Prop} : xgfR (mM q M0 σ) q 12 34 K = K (q + 18) := by
  unfold xgfR
  rw [mM_q]
  simp [mFld]
theorem mg_35 {K : Int32 → Prop} : xgfI (mM q M0 σ) q 12 35 K = K (σ.1 35) := by
  unfold xgfI
  rw [mM_q]
  simp [mFld]
theorem mp_35 {v : Int32} {K : xM → Prop} : xpf (mM q M0 σ) q 12 35 (.int v) K = K (mM q M0 (mF σ 35 v)) := by
  unfold xpf
  rw [mM_q]
  dsimp only
  rw [show xset (mM q M0 σ) q (.inr (12, (mFld q σ).set 35 (.int v))) = mM q M0 (mF σ 35 v) from mM_set (k := 0) (by omega) (by rfl) (fun j _ hj => mCell_F hj)]
  simp
theorem mg_36 {K : Int32 → Prop} : xgfI (mM q M0 σ) q 12 36 K = K (σ.1 36) := by
  unfold xgfI
  rw [mM_q]
  simp [mFld]
theorem mp_36 {v : Int32} {K : xM → Prop} : xpf (mM q M0 σ) q 12 36 (.int v) K = K (mM q M0 (mF σ 36 v)) := by
  unfold xpf
  rw [mM_q]
  dsimp only
  rw [show xset (mM q M0 σ) q (.inr (12, (mFld q σ).set 36 (.int v))) = mM q M0 (mF σ 36 v) from mM_set (k := 0) (by omega) (by rfl) (fun j _ hj => mCell_F hj)]
  simp
theorem mg_37 {K : Nat → Prop} : xgfR (mM q M0 σ) q 12 37 K = K (q + 19) := by
  unfold xgfR
  rw [mM_q]
  simp [mFld]
theorem mg_38 {K : Nat → Prop} : xgfR (mM q M0 σ) q 12 38 K = K (q + 20) := by
  unfold xgfR
  rw [mM_q]
  simp [mFld]
theorem mg_39 {K : Nat → Prop} : xgfR (mM q M0 σ) q 12 39 K = K (q + 21) := by
  unfold xgfR
  rw [mM_q]
  simp [mFld]
theorem ma_1 {i : Int32} {K : Int32 → Prop} : xaI (mM q M0 σ) (q + 1) i K = (vp_in i 1420 ∧ K (σ.2.2.1 1 i.toNatClampNeg)) := ma_I rfl
theorem ms_1 {i x : Int32} {K : xM → Prop} : xsI (mM q M0 σ) (q + 1) i x K = (vp_in i 1420 ∧ K (mM q M0 (mA σ 1 (upd (σ.2.2.1 1) i.toNatClampNeg x)))) := ms_I rfl
theorem ma_2 {i : Int32} {K : Int32 → Prop} : xaI (mM q M0 σ) (q + 2) i K = (vp_in i 1420 ∧ K (σ.2.2.1 2 i.toNatClampNeg)) := ma_I rfl
theorem ms_2 {i x : Int32} {K : xM → Prop} : xsI (mM q M0 σ) (q + 2) i x K = (vp_in i 1420 ∧ K (mM q M0 (mA σ 2 (upd (σ.2.2.1 2) i.toNatClampNeg x)))) := ms_I rfl
theorem ma_3 {i : Int32} {K : Int32 → Prop} : xaI (mM q M0 σ) (q + 3) i K = (vp_in i 2580 ∧ K (σ.2.2.1 3 i.toNatClampNeg)) := ma_I rfl
theorem ms_3 {i x : Int32} {K : xM → Prop} : xsI (mM q M0 σ) (q + 3) i x K = (vp_in i 2580 ∧ K (mM q M0 (mA σ 3 (upd (σ.2.2.1 3) i.toNatClampNeg x)))) := ms_I rfl
theorem ma_4 {i : Int32} {K : Int32 → Prop} : xaI (mM q M0 σ) (q + 4) i K = (vp_in i 300 ∧ K (σ.2.2.1 4 i.toNatClampNeg)) := ma_I rfl
theorem ms_4 {i x : Int32} {K : xM → Prop} : xsI (mM q M0 σ) (q + 4) i x K = (vp_in i 300 ∧ K (mM q M0 (mA σ 4 (upd (σ.2.2.1 4) i.toNatClampNeg x)))) := ms_I rfl
theorem ma_5 {i : Int32} {K : Int32 → Prop} : xaI (mM q M0 σ) (q + 5) i K = (vp_in i 160 ∧ K (σ.2.2.1 5 i.toNatClampNeg)) := ma_I rfl
theorem ms_5 {i x : Int32} {K : xM → Prop} : xsI (mM q M0 σ) (q + 5) i x K = (vp_in i 160 ∧ K (mM q M0 (mA σ 5 (upd (σ.2.2.1 5) i.toNatClampNeg x)))) := ms_I rfl
theorem ma_6 {i : Int32} {K : Int32 → Prop} : xaI (mM q M0 σ) (q + 6) i K = (vp_in i 8 ∧ K (σ.2.2.1 6 i.toNatClampNeg)) := ma_I rfl
theorem ms_6 {i x : Int32} {K : xM → Prop} : xsI (mM q M0 σ) (q + 6) i x K = (vp_in i 8 ∧ K (mM q M0 (mA σ 6 (upd (σ.2.2.1 6) i.toNatClampNeg x)))) := ms_I rfl
theorem ma_9 {i : Int32} {K : Int32 → Prop} : xaI (mM q M0 σ) (q + 9) i K = (vp_in i 9 ∧ K (σ.2.2.1 9 i.toNatClampNeg)) := ma_I rfl
theorem ms_9 {i x : Int32} {K : xM → Prop} : xsI (mM q M0 σ) (q + 9) i x K = (vp_in i 9 ∧ K (mM q M0 (mA σ 9 (upd (σ.2.2.1 9) i.toNatClampNeg x)))) := ms_I rfl
theorem ma_10 {i : Int32} {K : Int32 → Prop} : xaI (mM q M0 σ) (q + 10) i K = (vp_in i 9 ∧ K (σ.2.2.1 10 i.toNatClampNeg)) := ma_I rfl
theorem ms_10 {i x : Int32} {K : xM → Prop} : xsI (mM q M0 σ) (q + 10) i x K = (vp_in i 9 ∧ K (mM q M0 (mA σ 10 (upd (σ.2.2.1 10) i.toNatClampNeg x)))) := ms_I rfl
theorem ma_11 {i : Int32} {K : Int32 → Prop} : xaI (mM q M0 σ) (q + 11) i K = (vp_in i 60 ∧ K (σ.2.2.1 11 i.toNatClampNeg)) := ma_I rfl
theorem ms_11 {i x : Int32} {K : xM → Prop} : xsI (mM q M0 σ) (q + 11) i x K = (vp_in i 60 ∧ K (mM q M0 (mA σ 11 (upd (σ.2.2.1 11) i.toNatClampNeg x)))) := ms_I rfl
theorem ma_12 {i : Int32} {K : Int32 → Prop} : xaI (mM q M0 σ) (q + 12) i K = (vp_in i 540000 ∧ K (σ.2.2.1 12 i.toNatClampNeg)) := ma_I rfl
theorem ms_12 {i x : Int32} {K : xM → Prop} : xsI (mM q M0 σ) (q + 12) i x K = (vp_in i 540000 ∧ K (mM q M0 (mA σ 12 (upd (σ.2.2.1 12) i.toNatClampNeg x)))) := ms_I rfl
theorem ma_13 {i : Int32} {K : Int32 → Prop} : xaI (mM q M0 σ) (q + 13) i K = (vp_in i 9 ∧ K (σ.2.2.1 13 i.toNatClampNeg)) := ma_I rfl
theorem ms_13 {i x : Int32} {K : xM → Prop} : xsI (mM q M0 σ) (q + 13) i x K = (vp_in i 9 ∧ K (mM q M0 (mA σ 13 (upd (σ.2.2.1 13) i.toNatClampNeg x)))) := ms_I rfl
theorem ma_14 {i : Int32} {K : Int32 → Prop} : xaI (mM q M0 σ) (q + 14) i K = (vp_in i 18000 ∧ K (σ.2.2.1 14 i.toNatClampNeg)) := ma_I rfl
theorem ms_14 {i x : Int32} {K : xM → Prop} : xsI (mM q M0 σ) (q + 14) i x K = (vp_in i 18000 ∧ K (mM q M0 (mA σ 14 (upd (σ.2.2.1 14) i.toNatClampNeg x)))) := ms_I rfl
theorem ma_15 {i : Int32} {K : Int32 → Prop} : xaI (mM q M0 σ) (q + 15) i K = (vp_in i 18000 ∧ K (σ.2.2.1 15 i.toNatClampNeg)) := ma_I rfl
theorem ms_15 {i x : Int32} {K : xM → Prop} : xsI (mM q M0 σ) (q + 15) i x K = (vp_in i 18000 ∧ K (mM q M0 (mA σ 15 (upd (σ.2.2.1 15) i.toNatClampNeg x)))) := ms_I rfl
theorem ma_16 {i : Int32} {K : Int32 → Prop} : xaI (mM q M0 σ) (q + 16) i K = (vp_in i 2000 ∧ K (σ.2.2.1 16 i.toNatClampNeg)) := ma_I rfl
theorem ms_16 {i x : Int32} {K : xM → Prop} : xsI (mM q M0 σ) (q + 16) i x K = (vp_in i 2000 ∧ K (mM q M0 (mA σ 16 (upd (σ.2.2.1 16) i.toNatClampNeg x)))) := ms_I rfl
theorem ma_17 {i : Int32} {K : Int32 → Prop} : xaI (mM q M0 σ) (q + 17) i K = (vp_in i 4096 ∧ K (σ.2.2.1 17 i.toNatClampNeg)) := ma_I rfl
theorem ms_17 {i x : Int32} {K : xM → Prop} : xsI (mM q M0 σ) (q + 17) i x K = (vp_in i 4096 ∧ K (mM q M0 (mA σ 17 (upd (σ.2.2.1 17) i.toNatClampNeg x)))) := ms_I rfl
theorem ma_18 {i : Int32} {K : Int32 → Prop} : xaI (mM q M0 σ) (q + 18) i K = (vp_in i 2 ∧ K (σ.2.2.1 18 i.toNatClampNeg)) := ma_I rfl
theorem ms_18 {i x : Int32} {K : xM → Prop} : xsI (mM q M0 σ) (q + 18) i x K = (vp_in i 2 ∧ K (mM q M0 (mA σ 18 (upd (σ.2.2.1 18) i.toNatClampNeg x)))) := ms_I rfl
theorem ma_19 {i : Int32} {K : Int32 → Prop} : xaI (mM q M0 σ) (q + 19) i K = (vp_in i 30 ∧ K (σ.2.2.1 19 i.toNatClampNeg)) := ma_I rfl
theorem ms_19 {i x : Int32} {K : xM → Prop} : xsI (mM q M0 σ) (q + 19) i x K = (vp_in i 30 ∧ K (mM q M0 (mA σ 19 (upd (σ.2.2.1 19) i.toNatClampNeg x)))) := ms_I rfl
theorem ma_20 {i : Int32} {K : Int32 → Prop} : xaI (mM q M0 σ) (q + 20) i K = (vp_in i 30 ∧ K (σ.2.2.1 20 i.toNatClampNeg)) := ma_I rfl
theorem ms_20 {i x : Int32} {K : xM → Prop} : xsI (mM q M0 σ) (q + 20) i x K = (vp_in i 30 ∧ K (mM q M0 (mA σ 20 (upd (σ.2.2.1 20) i.toNatClampNeg x)))) := ms_I rfl
theorem ma_21 {i : Int32} {K : Int32 → Prop} : xaI (mM q M0 σ) (q + 21) i K = (vp_in i 400 ∧ K (σ.2.2.1 21 i.toNatClampNeg)) := ma_I rfl
theorem ms_21 {i x : Int32} {K : xM → Prop} : xsI (mM q M0 σ) (q + 21) i x K = (vp_in i 400 ∧ K (mM q M0 (mA σ 21 (upd (σ.2.2.1 21) i.toNatClampNeg x)))) := ms_I rfl
theorem mF_1 {j : Nat} {v : Int32} {i : Nat} : (mF σ j v).1 i = if i = j then v else σ.1 i := rfl
theorem mF_2 {j : Nat} {v : Int32} : (mF σ j v).2 = σ.2 := rfl
theorem mWd_1 {v : Int64} : (mWd σ v).1 = σ.1 := rfl
theorem mWd_w {v : Int64} : (mWd σ v).2.1 = v := rfl
theorem mWd_2 {v : Int64} : (mWd σ v).2.2 = σ.2.2 := rfl
theorem mA_1 {k : Nat} {f : Nat → Int32} : (mA σ k f).1 = σ.1 := rfl
theorem mA_w {k : Nat} {f : Nat → Int32} : (mA σ k f).2.1 = σ.2.1 := rfl
theorem mA_a {k j : Nat} {f : Nat → Int32} : (mA σ k f).2.2.1 j = if j = k then f else σ.2.2.1 j := rfl
theorem mA_v {k : Nat} {f : Nat → Int32} : (mA σ k f).2.2.2 = σ.2.2.2 := rfl
theorem mV_1 {f : Nat → Int64} : (mV σ f).1 = σ.1 := rfl
theorem mV_w {f : Nat → Int64} : (mV σ f).2.1 = σ.2.1 := rfl
theorem mV_a {f : Nat → Int64} : (mV σ f).2.2.1 = σ.2.2.1 := rfl
theorem mV_v {f : Nat → Int64} : (mV σ f).2.2.2 = f := rfl
end MM
