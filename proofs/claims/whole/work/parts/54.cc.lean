/-! the class's cells: 475 from c on; the state: what stands in each cell, place by place -/
abbrev cS : Type := Nat → Nat → Int32
def kdW (j : Nat) : Nat := if j = 0 then 110 else if j = 1 then 100 else if j = 6 ∨ j = 7 ∨ j = 8 then 1 else if j = 9 then 104 else if j = 13 then 105 else if j = 14 then 5 else if j = 175 then 103 else if 15 ≤ j ∧ j < 175 ∧ (j - 15) % 4 = 0 then 104 else 0
/-- the kind of a cell: 0 ints, 1 booleans, 4 5 6 references, 100 + n an object of class n -/
def kdC (k : Nat) : Nat := if k = 0 then 111 else if k = 1 then 4 else if k < 34 then (if (k - 2) % 8 = 0 then 108 else 0) else if k = 34 then 107 else if k = 36 then 102 else if k = 41 then 1 else if k = 42 then 109 else if k = 43 ∨ k = 63 ∨ k = 73 then 6 else if k = 54 ∨ k = 58 ∨ k = 100 ∨ k = 104 then 104 else if k = 62 then 106 else if k = 85 ∨ k = 90 ∨ k = 95 then 101 else if k = 108 then 100 else if k = 113 ∨ k = 114 ∨ k = 115 then 1 else if k = 116 then 103 else if k < 119 then 0 else kdW ((k - 119) % 178)
def lenW (R j : Nat) : Nat := if j = 8 then 100 else if j = 14 then 40 else if 175 < j then 8 else R
def lenF (R j : Nat) : Nat := if j = 1 then 4096 else if j = 2 then 2000 else if j = 3 then 2000 * (R + 1) else R + 1
def lenC (R k : Nat) : Nat := if k = 1 then 4 else if k < 34 then (if (k - 2) % 8 ≤ 4 then 300 else 12) else if k = 35 ∨ k = 37 then 300 else if k < 42 then R else if k = 43 then 10 else if k < 54 then 40 else if k < 62 then R else if k = 63 ∨ k = 73 then 9 else if k < 83 then 2000 else if k = 83 then 2 else if k = 84 then 1024 else if k < 100 then lenF R ((k - 85) % 5) else if k < 108 then R else if k = 115 then 100 else if k < 116 then R else if k < 119 then 8 else lenW R ((k - 119) % 178)
abbrev rfT : Type := (Nat → Int32) ⊕ (Nat → Int64) ⊕ (Nat → UInt32) ⊕ (Nat → UInt64) ⊕ (Nat → Option Nat)
def refA (f : Nat → Option Nat) : rfT := .inr (.inr (.inr (.inr f)))
def flCo (c k : Nat) (g : Nat → Int32) : List Value := [.int (g 0), .ref (c + 1), .ref (c + 34), .ref (c + 36), .ref (c + 42), .ref (c + 62), .ref (c + 108), .ref (c + 116), .ref (c + 119), .ref (c + 297), .int (g 10), .int (g 11)]
def flTe (c k : Nat) (g : Nat → Int32) : List Value := [.ref (c + (k + 1)), .ref (c + (k + 2)), .ref (c + (k + 3)), .ref (c + (k + 4)), .ref (c + (k + 5)), .ref (c + (k + 6)), .ref (c + (k + 7)), .int (g 7), .int (g 8)]
def flTa (c k : Nat) (g : Nat → Int32) : List Value := [.ref (c + 35), .int (g 1), .int (g 2), .int (g 3), (if g 4 = -1 then .null else .ref (c + cN (g 4))), .int (g 5), .int (g 6), .int (g 7), .int (g 8)]
def flHa (c k : Nat) (g : Nat → Int32) : List Value := [.int (g 0), .ref (c + 38), .ref (c + 39), .ref (c + 40), .ref (c + 41), .ref (c + 1), .ref (c + 37)]
def flTr (c k : Nat) (g : Nat → Int32) : List Value := [.int (g 0), .ref (c + 36), .ref (c + 54), .ref (c + 58), .ref (c + 43)]
def flRu (c k : Nat) (g : Nat → Int32) : List Value := [.ref (c + cN (g 0)), .ref (c + cN (g 1)), .ref (c + 95), .ref (c + 63), .ref (c + 73), .ref (c + 36), .ref (c + 100), .ref (c + 104), .ref (c + 83), .ref (c + 84), .int (g 10), .int (g 11), .int (g 12)]
def flFo (c k : Nat) (g : Nat → Int32) : List Value := [.int (g 0), .ref (c + (k + 3)), .ref (c + (k + 4)), .ref (c + (k + 1)), .ref (c + (k + 2)), .int (g 5)]
def flMo (c k : Nat) (g : Nat → Int32) : List Value := [.ref (c + (k + 1)), .ref (c + (k + 2)), .ref (c + (k + 3)), .int (g 3), .int (g 4)]
def flEl (c k : Nat) (g : Nat → Int32) : List Value := [.ref (c + (k + 1)), .ref (c + (k + 2)), .ref (c + (k + 3)), .ref (c + (k + 4)), .ref (c + (k + 5)), .ref (c + (k + 6)), .ref (c + (k + 7)), .int (g 7)]
def flHe (c k : Nat) (g : Nat → Int32) : List Value := [.ref (c + (k + 1)), .ref (c + (k + 2)), .int (g 2), .int (g 3)]
def flWh (c k : Nat) (g : Nat → Int32) : List Value := [.ref (c + (k + 1)), .ref (c + (k + 9)), .ref (c + (k + 13)), .ref (c + (k + 175)), .int (g 4)]
def flPa (c k : Nat) (g : Nat → Int32) : List Value := [.ref (c + (k + 1)), .int (g 1), .int (g 2)]
def cCell (c R k : Nat) (g : Nat → Int32) : xE := match kdC k with
  | 0 => .inl (0, lenC R k, .inl g)
  | 1 => .inl (1, lenC R k, .inl g)
  | 4 => .inl (4, 4, refA (fun i => if i < 4 then some (c + (2 + 8 * i)) else none))
  | 5 => .inl (5, 40, refA (fun i => if i < 40 then some (c + (k + 1 + 4 * i)) else none))
  | 6 => .inl (6, lenC R k, refA (fun i => if i < lenC R k then some (c + (k + 1 + i)) else none))
  | 111 => .inr (11, flCo c k g)
  | 108 => .inr (8, flTe c k g)
  | 107 => .inr (7, flTa c k g)
  | 102 => .inr (2, flHa c k g)
  | 109 => .inr (9, flTr c k g)
  | 106 => .inr (6, flRu c k g)
  | 101 => .inr (1, flFo c k g)
  | 104 => .inr (4, flMo c k g)
  | 100 => .inr (0, flEl c k g)
  | 103 => .inr (3, flHe c k g)
  | 110 => .inr (10, flWh c k g)
  | 105 => .inr (5, flPa c k g)
  | _ => .inl (0, 0, .inl g)
def cM (c R : Nat) (M0 : xM) (τ : cS) : xM := fun x => if c ≤ x ∧ x < c + 475 then some (cCell c R (x - c) (τ (x - c))) else M0 x
def cU (τ : cS) (k : Nat) (f : Nat → Int32) : cS := fun i => if i = k then f else τ i
theorem cU_s {τ : cS} {k : Nat} {f : Nat → Int32} : cU τ k f k = f := if_pos rfl
theorem cU_n {τ : cS} {k j : Nat} {f : Nat → Int32} (h : j ≠ k) : cU τ k f j = τ j := if_neg h
theorem cU_U {τ : cS} {k : Nat} {f g : Nat → Int32} : cU (cU τ k f) k g = cU τ k g := by
  funext i
  unfold cU
  split <;> rfl
theorem cU_self {τ : cS} (k : Nat) : cU τ k (τ k) = τ := by
  funext i
  unfold cU
  split
  · rename_i h; rw [h]
  · rfl
theorem cU_C {τ : cS} {k j : Nat} {f g : Nat → Int32} (h : j ≠ k) : cU (cU τ k f) j g = cU (cU τ j g) k f := by
  funext i
  unfold cU
  by_cases e1 : i = j
  · rw [if_pos e1, if_neg (by omega), if_pos e1]
  · rw [if_neg e1]
    by_cases e2 : i = k
    · rw [if_pos e2, if_pos e2]
    · rw [if_neg e2, if_neg e2, if_neg e1]
section CC
variable {c R : Nat} {M0 : xM} {τ : cS}
theorem cM_at {k : Nat} (h : k < 475) : cM c R M0 τ (c + k) = some (cCell c R k (τ k)) := by
  unfold cM
  rw [if_pos (by omega), Nat.add_sub_cancel_left]
theorem cM_0 : cM c R M0 τ c = some (cCell c R 0 (τ 0)) := cM_at (k := 0) (by omega)
theorem cM_set {k : Nat} {e : xE} {f : Nat → Int32} (h : k < 475) (he : cCell c R k f = e) : xset (cM c R M0 τ) (c + k) e = cM c R M0 (cU τ k f) := by
  funext x
  unfold xset cM
  by_cases hx : x = c + k
  · subst hx
    rw [if_pos rfl, if_pos (by omega), Nat.add_sub_cancel_left, cU_s, he]
  · rw [if_neg hx]
    by_cases hr : c ≤ x ∧ x < c + 475
    · rw [if_pos hr, if_pos hr, cU_n (by omega)]
    · rw [if_neg hr, if_neg hr]
/-- arrays: of ints, of booleans; objects -/
def arI (R k n : Nat) : Prop := k < 475 ∧ kdC k = 0 ∧ lenC R k = n
def arZ (R k n : Nat) : Prop := k < 475 ∧ kdC k = 1 ∧ lenC R k = n
def obK (k ci : Nat) : Prop := k < 475 ∧ kdC k = 100 + ci
theorem ceI {k n : Nat} (h : arI R k n) {g : Nat → Int32} : cCell c R k g = .inl (0, n, .inl g) := by
  unfold cCell
  rw [h.2.1, h.2.2]
  rfl
theorem ceZ {k n : Nat} (h : arZ R k n) {g : Nat → Int32} : cCell c R k g = .inl (1, n, .inl g) := by
  unfold cCell
  rw [h.2.1, h.2.2]
  rfl
theorem ca_I {k n : Nat} (h : arI R k n) {i : Int32} {K : Int32 → Prop} : xaI (cM c R M0 τ) (c + k) i K = (vp_in i n ∧ K (τ k i.toNatClampNeg)) := by
  unfold xaI
  rw [cM_at h.1, ceI h]
  simp
theorem cs_I {k n : Nat} (h : arI R k n) {i x : Int32} {K : xM → Prop} : xsI (cM c R M0 τ) (c + k) i x K = (vp_in i n ∧ K (cM c R M0 (cU τ k (upd (τ k) i.toNatClampNeg x)))) := by
  unfold xsI
  rw [cM_at h.1, ceI h]
  dsimp only
  rw [cM_set (f := upd (τ k) i.toNatClampNeg x) h.1 (ceI h)]
  simp
theorem cl_I {k n : Nat} (h : arI R k n) {K : Int32 → Prop} : xlen (cM c R M0 τ) (c + k) K = K (nI n) := by
  unfold xlen
  rw [cM_at h.1, ceI h]
  rfl
theorem ca_Z {k n : Nat} (h : arZ R k n) {i : Int32} {K : Int32 → Prop} : xaZ (cM c R M0 τ) (c + k) i K = (vp_in i n ∧ K (τ k i.toNatClampNeg)) := by
  unfold xaZ
  rw [cM_at h.1, ceZ h]
  simp
theorem cs_Z {k n : Nat} (h : arZ R k n) {i x : Int32} {K : xM → Prop} : xsZ (cM c R M0 τ) (c + k) i x K = (vp_in i n ∧ K (cM c R M0 (cU τ k (upd (τ k) i.toNatClampNeg (vp_nar .boolean x))))) := by
  unfold xsZ
  rw [cM_at h.1, ceZ h]
  dsimp only
  rw [cM_set (f := upd (τ k) i.toNatClampNeg (vp_nar .boolean x)) h.1 (ceZ h)]
  simp
theorem cl_Z {k n : Nat} (h : arZ R k n) {K : Int32 → Prop} : xlen (cM c R M0 τ) (c + k) K = K (nI n) := by
  unfold xlen
  rw [cM_at h.1, ceZ h]
  rfl
/-- a copy of the whole of an array -/
def cpA (f g : Nat → Int32) (n : Nat) : Nat → Int32 := va_cpy f g 0 0 n
theorem cpA_i {f g : Nat → Int32} {n j : Nat} (h : j < n) : cpA f g n j = f j := by
  unfold cpA
  rw [pk_cpy_in (Nat.zero_le _) (by omega), Nat.zero_add, Nat.sub_zero]
theorem cc_I {k k' n : Nat} (h : arI R k n) (h' : arI R k' n) (hn : n < 2 ^ 31) {K : xM → Prop} : xcopy (cM c R M0 τ) (c + k) (nI 0) (c + k') (nI 0) (nI n) K = K (cM c R M0 (cU τ k' (cpA (τ k) (τ k') n))) := by
  unfold xcopy
  rw [cM_at h.1, cM_at h'.1, ceI h, ceI h']
  dsimp only
  rw [show (nI 0).toNatClampNeg = 0 from rfl, nI_cl hn]
  rw [cM_set (f := va_cpy (τ k) (τ k') 0 0 n) h'.1 (ceI h')]
  have : ¬ nI n < 0 := nI_pos hn
  simp [this, cpA]
  exact fun _ => by decide
theorem cc_Z {k k' n : Nat} (h : arZ R k n) (h' : arZ R k' n) (hn : n < 2 ^ 31) {K : xM → Prop} : xcopy (cM c R M0 τ) (c + k) (nI 0) (c + k') (nI 0) (nI n) K = K (cM c R M0 (cU τ k' (cpA (τ k) (τ k') n))) := by
  unfold xcopy
  rw [cM_at h.1, cM_at h'.1, ceZ h, ceZ h']
  dsimp only
  rw [show (nI 0).toNatClampNeg = 0 from rfl, nI_cl hn]
  rw [cM_set (f := va_cpy (τ k) (τ k') 0 0 n) h'.1 (ceZ h')]
  have : ¬ nI n < 0 := nI_pos hn
  simp [this, cpA]
  exact fun _ => by decide
theorem ca_T {i : Nat} (hi : i < 4) {K : Nat → Prop} : xaR (cM c R M0 τ) (c + 1) (nI i) K = K (c + (2 + 8 * i)) := by
  unfold xaR
  rw [cM_at (by omega), show cCell c R 1 (τ 1) = .inl (4, 4, refA (fun i => if i < 4 then some (c + (2 + 8 * i)) else none)) from rfl]
  have h1 : vp_in (nI i) 4 := vp_in_nI hi (by omega)
  simp [refA, nI_cl (show i < 2 ^ 31 by omega), hi, h1]
theorem ca_P {k i : Nat} (hk : k < 475) (h5 : kdC k = 5) (hi : i < 40) {K : Nat → Prop} : xaR (cM c R M0 τ) (c + k) (nI i) K = K (c + (k + 1 + 4 * i)) := by
  unfold xaR
  rw [cM_at hk, show cCell c R k (τ k) = .inl (5, 40, refA (fun i => if i < 40 then some (c + (k + 1 + 4 * i)) else none)) by unfold cCell; rw [h5]; rfl]
  have h1 : vp_in (nI i) 40 := vp_in_nI hi (by omega)
  simp [refA, nI_cl (show i < 2 ^ 31 by omega), hi, h1]
theorem ca_6 {k i : Nat} (hk : k < 475) (h6 : kdC k = 6) (hi : i < lenC R k) (hl : lenC R k < 2 ^ 31) {K : Nat → Prop} : xaR (cM c R M0 τ) (c + k) (nI i) K = K (c + (k + 1 + i)) := by
  unfold xaR
  rw [cM_at hk, show cCell c R k (τ k) = .inl (6, lenC R k, refA (fun i => if i < lenC R k then some (c + (k + 1 + i)) else none)) by unfold cCell; rw [h6]; rfl]
  have h1 : vp_in (nI i) (lenC R k) := vp_in_nI hi hl
  simp [refA, nI_cl (show i < 2 ^ 31 by omega), hi, h1]
theorem co_K {k ci : Nat} (h : obK k ci) (hci : ci ≤ 11) : xobj (cM c R M0 τ) (c + k) ci := by
  unfold xobj
  rw [cM_at h.1]
  unfold cCell
  rw [h.2]
  rcases (show ci = 0 ∨ ci = 1 ∨ ci = 2 ∨ ci = 3 ∨ ci = 4 ∨ ci = 5 ∨ ci = 6 ∨ ci = 7 ∨ ci = 8 ∨ ci = 9 ∨ ci = 10 ∨ ci = 11 by omega) with rfl | rfl | rfl | rfl | rfl | rfl | rfl | rfl | rfl | rfl | rfl | rfl <;> exact ⟨_, rfl⟩
theorem co_T {k ci : Nat} (h : obK k ci) (hci : ci ≤ 11) : xobj (cM c R M0 τ) (c + k) ci = True := propext ⟨fun _ => trivial, fun _ => co_K h hci⟩
theorem ceCo {k : Nat} (h : obK k 11) {g : Nat → Int32} : cCell c R k g = .inr (11, flCo c k g) := by
  unfold cCell
  rw [h.2]
  rfl
theorem gCo_0 {k : Nat} (h : obK k 11) {K : Int32 → Prop} : xgfI (cM c R M0 τ) (c + k) 11 0 K = K (τ k 0) := by
  unfold xgfI
  rw [cM_at h.1, ceCo h]
  simp [flCo]
theorem pCo_0 {k : Nat} (h : obK k 11) {v : Int32} {K : xM → Prop} : xpf (cM c R M0 τ) (c + k) 11 0 (.int v) K = K (cM c R M0 (cU τ k (upd (τ k) 0 v))) := by
  unfold xpf
  rw [cM_at h.1, ceCo h]
  dsimp only
  rw [cM_set (f := upd (τ k) 0 v) h.1 ((ceCo h).trans (show _ = Sum.inr (11, (flCo c k (τ k)).set 0 (.int v)) from rfl))]
  simp
theorem gCo_1 {k : Nat} (h : obK k 11) {K : Nat → Prop} : xgfR (cM c R M0 τ) (c + k) 11 1 K = K (c + (1)) := by
  unfold xgfR
  rw [cM_at h.1, ceCo h]
  simp [flCo]
theorem gCo_2 {k : Nat} (h : obK k 11) {K : Nat → Prop} : xgfR (cM c R M0 τ) (c + k) 11 2 K = K (c + (34)) := by
  unfold xgfR
  rw [cM_at h.1, ceCo h]
  simp [flCo]
theorem gCo_3 {k : Nat} (h : obK k 11) {K : Nat → Prop} : xgfR (cM c R M0 τ) (c + k) 11 3 K = K (c + (36)) := by
  unfold xgfR
  rw [cM_at h.1, ceCo h]
  simp [flCo]
theorem gCo_4 {k : Nat} (h : obK k 11) {K : Nat → Prop} : xgfR (cM c R M0 τ) (c + k) 11 4 K = K (c + (42)) := by
  unfold xgfR
  rw [cM_at h.1, ceCo h]
  simp [flCo]
theorem gCo_5 {k : Nat} (h : obK k 11) {K : Nat → Prop} : xgfR (cM c R M0 τ) (c + k) 11 5 K = K (c + (62)) := by
  unfold xgfR
  rw [cM_at h.1, ceCo h]
  simp [flCo]
theorem gCo_6 {k : Nat} (h : obK k 11) {K : Nat → Prop} : xgfR (cM c R M0 τ) (c + k) 11 6 K = K (c + (108)) := by
  unfold xgfR
  rw [cM_at h.1, ceCo h]
  simp [flCo]
theorem gCo_7 {k : Nat} (h : obK k 11) {K : Nat → Prop} : xgfR (cM c R M0 τ) (c + k) 11 7 K = K (c + (116)) := by
  unfold xgfR
  rw [cM_at h.1, ceCo h]
  simp [flCo]
theorem gCo_8 {k : Nat} (h : obK k 11) {K : Nat → Prop} : xgfR (cM c R M0 τ) (c + k) 11 8 K = K (c + (119)) := by
  unfold xgfR
  rw [cM_at h.1, ceCo h]
  simp [flCo]
theorem gCo_9 {k : Nat} (h : obK k 11) {K : Nat → Prop} : xgfR (cM c R M0 τ) (c + k) 11 9 K = K (c + (297)) := by
  unfold xgfR
  rw [cM_at h.1, ceCo h]
  simp [flCo]
theorem gCo_10 {k : Nat} (h : obK k 11) {K : Int32 → Prop} : xgfI (cM c R M0 τ) (c + k) 11 10 K = K (τ k 10) := by
  unfold xgfI
  rw [cM_at h.1, ceCo h]
  simp [flCo]
theorem pCo_10 {k : Nat} (h : obK k 11) {v : Int32} {K : xM → Prop} : xpf (cM c R M0 τ) (c + k) 11 10 (.int v) K = K (cM c R M0 (cU τ k (upd (τ k) 10 v))) := by
  unfold xpf
  rw [cM_at h.1, ceCo h]
  dsimp only
  rw [cM_set (f := upd (τ k) 10 v) h.1 ((ceCo h).trans (show _ = Sum.inr (11, (flCo c k (τ k)).set 10 (.int v)) from rfl))]
  simp
theorem gCo_11 {k : Nat} (h : obK k 11) {K : Int32 → Prop} : xgfI (cM c R M0 τ) (c + k) 11 11 K = K (τ k 11) := by
  unfold xgfI
  rw [cM_at h.1, ceCo h]
  simp [flCo]
theorem pCo_11 {k : Nat} (h : obK k 11) {v : Int32} {K : xM → Prop} : xpf (cM c R M0 τ) (c + k) 11 11 (.int v) K = K (cM c R M0 (cU τ k (upd (τ k) 11 v))) := by
  unfold xpf
  rw [cM_at h.1, ceCo h]
  dsimp only
  rw [cM_set (f := upd (τ k) 11 v) h.1 ((ceCo h).trans (show _ = Sum.inr (11, (flCo c k (τ k)).set 11 (.int v)) from rfl))]
  simp
theorem ceTe {k : Nat} (h : obK k 8) {g : Nat → Int32} : cCell c R k g = .inr (8, flTe c k g) := by
  unfold cCell
  rw [h.2]
  rfl
theorem gTe_0 {k : Nat} (h : obK k 8) {K : Nat → Prop} : xgfR (cM c R M0 τ) (c + k) 8 0 K = K (c + (k + 1)) := by
  unfold xgfR
  rw [cM_at h.1, ceTe h]
  simp [flTe]
theorem gTe_1 {k : Nat} (h : obK k 8) {K : Nat → Prop} : xgfR (cM c R M0 τ) (c + k) 8 1 K = K (c + (k + 2)) := by
  unfold xgfR
  rw [cM_at h.1, ceTe h]
  simp [flTe]
theorem gTe_2 {k : Nat} (h : obK k 8) {K : Nat → Prop} : xgfR (cM c R M0 τ) (c + k) 8 2 K = K (c + (k + 3)) := by
  unfold xgfR
  rw [cM_at h.1, ceTe h]
  simp [flTe]
theorem gTe_3 {k : Nat} (h : obK k 8) {K : Nat → Prop} : xgfR (cM c R M0 τ) (c + k) 8 3 K = K (c + (k + 4)) := by
  unfold xgfR
  rw [cM_at h.1, ceTe h]
  simp [flTe]
theorem gTe_4 {k : Nat} (h : obK k 8) {K : Nat → Prop} : xgfR (cM c R M0 τ) (c + k) 8 4 K = K (c + (k + 5)) := by
  unfold xgfR
  rw [cM_at h.1, ceTe h]
  simp [flTe]
theorem gTe_5 {k : Nat} (h : obK k 8) {K : Nat → Prop} : xgfR (cM c R M0 τ) (c + k) 8 5 K = K (c + (k + 6)) := by
  unfold xgfR
  rw [cM_at h.1, ceTe h]
  simp [flTe]
theorem gTe_6 {k : Nat} (h : obK k 8) {K : Nat → Prop} : xgfR (cM c R M0 τ) (c + k) 8 6 K = K (c + (k + 7)) := by
  unfold xgfR
  rw [cM_at h.1, ceTe h]
  simp [flTe]
theorem gTe_7 {k : Nat} (h : obK k 8) {K : Int32 → Prop} : xgfI (cM c R M0 τ) (c + k) 8 7 K = K (τ k 7) := by
  unfold xgfI
  rw [cM_at h.1, ceTe h]
  simp [flTe]
theorem pTe_7 {k : Nat} (h : obK k 8) {v : Int32} {K : xM → Prop} : xpf (cM c R M0 τ) (c + k) 8 7 (.int v) K = K (cM c R M0 (cU τ k (upd (τ k) 7 v))) := by
  unfold xpf
  rw [cM_at h.1, ceTe h]
  dsimp only
  rw [cM_set (f := upd (τ k) 7 v) h.1 ((ceTe h).trans (show _ = Sum.inr (8, (flTe c k (τ k)).set 7 (.int v)) from rfl))]
  simp
theorem gTe_8 {k : Nat} (h : obK k 8) {K : Int32 → Prop} : xgfI (cM c R M0 τ) (c + k) 8 8 K = K (τ k 8) := by
  unfold xgfI
  rw [cM_at h.1, ceTe h]
  simp [flTe]
theorem pTe_8 {k : Nat} (h : obK k 8) {v : Int32} {K : xM → Prop} : xpf (cM c R M0 τ) (c + k) 8 8 (.int v) K = K (cM c R M0 (cU τ k (upd (τ k) 8 v))) := by
  unfold xpf
  rw [cM_at h.1, ceTe h]
  dsimp only
  rw [cM_set (f := upd (τ k) 8 v) h.1 ((ceTe h).trans (show _ = Sum.inr (8, (flTe c k (τ k)).set 8 (.int v)) from rfl))]
  simp
theorem ceTa {k : Nat} (h : obK k 7) {g : Nat → Int32} : cCell c R k g = .inr (7, flTa c k g) := by
  unfold cCell
  rw [h.2]
  rfl
theorem gTa_0 {k : Nat} (h : obK k 7) {K : Nat → Prop} : xgfR (cM c R M0 τ) (c + k) 7 0 K = K (c + (35)) := by
  unfold xgfR
  rw [cM_at h.1, ceTa h]
  simp [flTa]
theorem gTa_1 {k : Nat} (h : obK k 7) {K : Int32 → Prop} : xgfI (cM c R M0 τ) (c + k) 7 1 K = K (τ k 1) := by
  unfold xgfI
  rw [cM_at h.1, ceTa h]
  simp [flTa]
theorem pTa_1 {k : Nat} (h : obK k 7) {v : Int32} {K : xM → Prop} : xpf (cM c R M0 τ) (c + k) 7 1 (.int v) K = K (cM c R M0 (cU τ k (upd (τ k) 1 v))) := by
  unfold xpf
  rw [cM_at h.1, ceTa h]
  dsimp only
  rw [cM_set (f := upd (τ k) 1 v) h.1 ((ceTa h).trans (show _ = Sum.inr (7, (flTa c k (τ k)).set 1 (.int v)) from rfl))]
  simp
theorem gTa_2 {k : Nat} (h : obK k 7) {K : Int32 → Prop} : xgfI (cM c R M0 τ) (c + k) 7 2 K = K (τ k 2) := by
  unfold xgfI
  rw [cM_at h.1, ceTa h]
  simp [flTa]
theorem pTa_2 {k : Nat} (h : obK k 7) {v : Int32} {K : xM → Prop} : xpf (cM c R M0 τ) (c + k) 7 2 (.int v) K = K (cM c R M0 (cU τ k (upd (τ k) 2 v))) := by
  unfold xpf
  rw [cM_at h.1, ceTa h]
  dsimp only
  rw [cM_set (f := upd (τ k) 2 v) h.1 ((ceTa h).trans (show _ = Sum.inr (7, (flTa c k (τ k)).set 2 (.int v)) from rfl))]
  simp
theorem gTa_3 {k : Nat} (h : obK k 7) {K : Int32 → Prop} : xgfI (cM c R M0 τ) (c + k) 7 3 K = K (τ k 3) := by
  unfold xgfI
  rw [cM_at h.1, ceTa h]
  simp [flTa]
theorem pTa_3 {k : Nat} (h : obK k 7) {v : Int32} {K : xM → Prop} : xpf (cM c R M0 τ) (c + k) 7 3 (.int v) K = K (cM c R M0 (cU τ k (upd (τ k) 3 v))) := by
  unfold xpf
  rw [cM_at h.1, ceTa h]
  dsimp only
  rw [cM_set (f := upd (τ k) 3 v) h.1 ((ceTa h).trans (show _ = Sum.inr (7, (flTa c k (τ k)).set 3 (.int v)) from rfl))]
  simp
theorem gTa_4 {k : Nat} (h : obK k 7) {t : Nat} (hv : τ k 4 = nI t) (ht : t < 2 ^ 31) {K : Nat → Prop} : xgfR (cM c R M0 τ) (c + k) 7 4 K = K (c + t) := by
  unfold xgfR
  have e : ¬ nI t = -1 := nI_m1 ht
  rw [cM_at h.1, ceTa h]
  simp [flTa, hv, e, show cN (nI t) = t from nI_cl ht]
theorem pTa_4 {k : Nat} (h : obK k 7) {t : Nat} (ht : t < 2 ^ 31) {K : xM → Prop} : xpf (cM c R M0 τ) (c + k) 7 4 (.ref (c + t)) K = K (cM c R M0 (cU τ k (upd (τ k) 4 (nI t)))) := by
  unfold xpf
  rw [cM_at h.1, ceTa h]
  dsimp only
  rw [cM_set (f := upd (τ k) 4 (nI t)) h.1 ((ceTa h).trans (show _ = Sum.inr (7, (flTa c k (τ k)).set 4 (.ref (c + t))) from by
    unfold flTa
    rw [upd_s, if_neg (nI_m1 ht), show cN (nI t) = t from nI_cl ht]
    rfl))]
  simp
theorem gTa_5 {k : Nat} (h : obK k 7) {K : Int32 → Prop} : xgfI (cM c R M0 τ) (c + k) 7 5 K = K (τ k 5) := by
  unfold xgfI
  rw [cM_at h.1, ceTa h]
  simp [flTa]
theorem pTa_5 {k : Nat} (h : obK k 7) {v : Int32} {K : xM → Prop} : xpf (cM c R M0 τ) (c + k) 7 5 (.int v) K = K (cM c R M0 (cU τ k (upd (τ k) 5 v))) := by
  unfold xpf
  rw [cM_at h.1, ceTa h]
  dsimp only
  rw [cM_set (f := upd (τ k) 5 v) h.1 ((ceTa h).trans (show _ = Sum.inr (7, (flTa c k (τ k)).set 5 (.int v)) from rfl))]
  simp
theorem gTa_6 {k : Nat} (h : obK k 7) {K : Int32 → Prop} : xgfI (cM c R M0 τ) (c + k) 7 6 K = K (τ k 6) := by
  unfold xgfI
  rw [cM_at h.1, ceTa h]
  simp [flTa]
theorem pTa_6 {k : Nat} (h : obK k 7) {v : Int32} {K : xM → Prop} : xpf (cM c R M0 τ) (c + k) 7 6 (.int v) K = K (cM c R M0 (cU τ k (upd (τ k) 6 v))) := by
  unfold xpf
  rw [cM_at h.1, ceTa h]
  dsimp only
  rw [cM_set (f := upd (τ k) 6 v) h.1 ((ceTa h).trans (show _ = Sum.inr (7, (flTa c k (τ k)).set 6 (.int v)) from rfl))]
  simp
theorem gTa_7 {k : Nat} (h : obK k 7) {K : Int32 → Prop} : xgfI (cM c R M0 τ) (c + k) 7 7 K = K (τ k 7) := by
  unfold xgfI
  rw [cM_at h.1, ceTa h]
  simp [flTa]
theorem pTa_7 {k : Nat} (h : obK k 7) {v : Int32} {K : xM → Prop} : xpf (cM c R M0 τ) (c + k) 7 7 (.int v) K = K (cM c R M0 (cU τ k (upd (τ k) 7 v))) := by
  unfold xpf
  rw [cM_at h.1, ceTa h]
  dsimp only
  rw [cM_set (f := upd (τ k) 7 v) h.1 ((ceTa h).trans (show _ = Sum.inr (7, (flTa c k (τ k)).set 7 (.int v)) from rfl))]
  simp
theorem gTa_8 {k : Nat} (h : obK k 7) {K : Int32 → Prop} : xgfI (cM c R M0 τ) (c + k) 7 8 K = K (τ k 8) := by
  unfold xgfI
  rw [cM_at h.1, ceTa h]
  simp [flTa]
theorem pTa_8 {k : Nat} (h : obK k 7) {v : Int32} {K : xM → Prop} : xpf (cM c R M0 τ) (c + k) 7 8 (.int v) K = K (cM c R M0 (cU τ k (upd (τ k) 8 v))) := by
  unfold xpf
  rw [cM_at h.1, ceTa h]
  dsimp only
  rw [cM_set (f := upd (τ k) 8 v) h.1 ((ceTa h).trans (show _ = Sum.inr (7, (flTa c k (τ k)).set 8 (.int v)) from rfl))]
  simp
theorem ceHa {k : Nat} (h : obK k 2) {g : Nat → Int32} : cCell c R k g = .inr (2, flHa c k g) := by
  unfold cCell
  rw [h.2]
  rfl
theorem gHa_0 {k : Nat} (h : obK k 2) {K : Int32 → Prop} : xgfI (cM c R M0 τ) (c + k) 2 0 K = K (τ k 0) := by
  unfold xgfI
  rw [cM_at h.1, ceHa h]
  simp [flHa]
theorem pHa_0 {k : Nat} (h : obK k 2) {v : Int32} {K : xM → Prop} : xpf (cM c R M0 τ) (c + k) 2 0 (.int v) K = K (cM c R M0 (cU τ k (upd (τ k) 0 v))) := by
  unfold xpf
  rw [cM_at h.1, ceHa h]
  dsimp only
  rw [cM_set (f := upd (τ k) 0 v) h.1 ((ceHa h).trans (show _ = Sum.inr (2, (flHa c k (τ k)).set 0 (.int v)) from rfl))]
  simp
theorem gHa_1 {k : Nat} (h : obK k 2) {K : Nat → Prop} : xgfR (cM c R M0 τ) (c + k) 2 1 K = K (c + (38)) := by
  unfold xgfR
  rw [cM_at h.1, ceHa h]
  simp [flHa]
theorem gHa_2 {k : Nat} (h : obK k 2) {K : Nat → Prop} : xgfR (cM c R M0 τ) (c + k) 2 2 K = K (c + (39)) := by
  unfold xgfR
  rw [cM_at h.1, ceHa h]
  simp [flHa]
theorem gHa_3 {k : Nat} (h : obK k 2) {K : Nat → Prop} : xgfR (cM c R M0 τ) (c + k) 2 3 K = K (c + (40)) := by
  unfold xgfR
  rw [cM_at h.1, ceHa h]
  simp [flHa]
theorem gHa_4 {k : Nat} (h : obK k 2) {K : Nat → Prop} : xgfR (cM c R M0 τ) (c + k) 2 4 K = K (c + (41)) := by
  unfold xgfR
  rw [cM_at h.1, ceHa h]
  simp [flHa]
theorem gHa_5 {k : Nat} (h : obK k 2) {K : Nat → Prop} : xgfR (cM c R M0 τ) (c + k) 2 5 K = K (c + (1)) := by
  unfold xgfR
  rw [cM_at h.1, ceHa h]
  simp [flHa]
theorem gHa_6 {k : Nat} (h : obK k 2) {K : Nat → Prop} : xgfR (cM c R M0 τ) (c + k) 2 6 K = K (c + (37)) := by
  unfold xgfR
  rw [cM_at h.1, ceHa h]
  simp [flHa]
theorem ceTr {k : Nat} (h : obK k 9) {g : Nat → Int32} : cCell c R k g = .inr (9, flTr c k g) := by
  unfold cCell
  rw [h.2]
  rfl
theorem gTr_0 {k : Nat} (h : obK k 9) {K : Int32 → Prop} : xgfI (cM c R M0 τ) (c + k) 9 0 K = K (τ k 0) := by
  unfold xgfI
  rw [cM_at h.1, ceTr h]
  simp [flTr]
theorem pTr_0 {k : Nat} (h : obK k 9) {v : Int32} {K : xM → Prop} : xpf (cM c R M0 τ) (c + k) 9 0 (.int v) K = K (cM c R M0 (cU τ k (upd (τ k) 0 v))) := by
  unfold xpf
  rw [cM_at h.1, ceTr h]
  dsimp only
  rw [cM_set (f := upd (τ k) 0 v) h.1 ((ceTr h).trans (show _ = Sum.inr (9, (flTr c k (τ k)).set 0 (.int v)) from rfl))]
  simp
theorem gTr_1 {k : Nat} (h : obK k 9) {K : Nat → Prop} : xgfR (cM c R M0 τ) (c + k) 9 1 K = K (c + (36)) := by
  unfold xgfR
  rw [cM_at h.1, ceTr h]
  simp [flTr]
theorem gTr_2 {k : Nat} (h : obK k 9) {K : Nat → Prop} : xgfR (cM c R M0 τ) (c + k) 9 2 K = K (c + (54)) := by
  unfold xgfR
  rw [cM_at h.1, ceTr h]
  simp [flTr]
theorem gTr_3 {k : Nat} (h : obK k 9) {K : Nat → Prop} : xgfR (cM c R M0 τ) (c + k) 9 3 K = K (c + (58)) := by
  unfold xgfR
  rw [cM_at h.1, ceTr h]
  simp [flTr]
theorem gTr_4 {k : Nat} (h : obK k 9) {K : Nat → Prop} : xgfR (cM c R M0 τ) (c + k) 9 4 K = K (c + (43)) := by
  unfold xgfR
  rw [cM_at h.1, ceTr h]
  simp [flTr]
theorem ceRu {k : Nat} (h : obK k 6) {g : Nat → Int32} : cCell c R k g = .inr (6, flRu c k g) := by
  unfold cCell
  rw [h.2]
  rfl
theorem gRu_0 {k : Nat} (h : obK k 6) {K : Nat → Prop} : xgfR (cM c R M0 τ) (c + k) 6 0 K = K (c + cN (τ k 0)) := by
  unfold xgfR
  rw [cM_at h.1, ceRu h]
  simp [flRu]
theorem pRu_0 {k : Nat} (h : obK k 6) {t : Nat} (ht : t < 2 ^ 31) {K : xM → Prop} : xpf (cM c R M0 τ) (c + k) 6 0 (.ref (c + t)) K = K (cM c R M0 (cU τ k (upd (τ k) 0 (nI t)))) := by
  unfold xpf
  rw [cM_at h.1, ceRu h]
  dsimp only
  rw [cM_set (f := upd (τ k) 0 (nI t)) h.1 ((ceRu h).trans (show _ = Sum.inr (6, (flRu c k (τ k)).set 0 (.ref (c + t))) from by
    unfold flRu
    rw [upd_s, show cN (nI t) = t from nI_cl ht]
    rfl))]
  simp
theorem gRu_1 {k : Nat} (h : obK k 6) {K : Nat → Prop} : xgfR (cM c R M0 τ) (c + k) 6 1 K = K (c + cN (τ k 1)) := by
  unfold xgfR
  rw [cM_at h.1, ceRu h]
  simp [flRu]
theorem pRu_1 {k : Nat} (h : obK k 6) {t : Nat} (ht : t < 2 ^ 31) {K : xM → Prop} : xpf (cM c R M0 τ) (c + k) 6 1 (.ref (c + t)) K = K (cM c R M0 (cU τ k (upd (τ k) 1 (nI t)))) := by
  unfold xpf
  rw [cM_at h.1, ceRu h]
  dsimp only
  rw [cM_set (f := upd (τ k) 1 (nI t)) h.1 ((ceRu h).trans (show _ = Sum.inr (6, (flRu c k (τ k)).set 1 (.ref (c + t))) from by
    unfold flRu
    rw [upd_s, show cN (nI t) = t from nI_cl ht]
    rfl))]
  simp
theorem gRu_2 {k : Nat} (h : obK k 6) {K : Nat → Prop} : xgfR (cM c R M0 τ) (c + k) 6 2 K = K (c + (95)) := by
  unfold xgfR
  rw [cM_at h.1, ceRu h]
  simp [flRu]
theorem gRu_3 {k : Nat} (h : obK k 6) {K : Nat → Prop} : xgfR (cM c R M0 τ) (c + k) 6 3 K = K (c + (63)) := by
  unfold xgfR
  rw [cM_at h.1, ceRu h]
  simp [flRu]
theorem gRu_4 {k : Nat} (h : obK k 6) {K : Nat → Prop} : xgfR (cM c R M0 τ) (c + k) 6 4 K = K (c + (73)) := by
  unfold xgfR
  rw [cM_at h.1, ceRu h]
  simp [flRu]
theorem gRu_5 {k : Nat} (h : obK k 6) {K : Nat → Prop} : xgfR (cM c R M0 τ) (c + k) 6 5 K = K (c + (36)) := by
  unfold xgfR
  rw [cM_at h.1, ceRu h]
  simp [flRu]
theorem gRu_6 {k : Nat} (h : obK k 6) {K : Nat → Prop} : xgfR (cM c R M0 τ) (c + k) 6 6 K = K (c + (100)) := by
  unfold xgfR
  rw [cM_at h.1, ceRu h]
  simp [flRu]
theorem gRu_7 {k : Nat} (h : obK k 6) {K : Nat → Prop} : xgfR (cM c R M0 τ) (c + k) 6 7 K = K (c + (104)) := by
  unfold xgfR
  rw [cM_at h.1, ceRu h]
  simp [flRu]
theorem gRu_8 {k : Nat} (h : obK k 6) {K : Nat → Prop} : xgfR (cM c R M0 τ) (c + k) 6 8 K = K (c + (83)) := by
  unfold xgfR
  rw [cM_at h.1, ceRu h]
  simp [flRu]
theorem gRu_9 {k : Nat} (h : obK k 6) {K : Nat → Prop} : xgfR (cM c R M0 τ) (c + k) 6 9 K = K (c + (84)) := by
  unfold xgfR
  rw [cM_at h.1, ceRu h]
  simp [flRu]
theorem gRu_10 {k : Nat} (h : obK k 6) {K : Int32 → Prop} : xgfI (cM c R M0 τ) (c + k) 6 10 K = K (τ k 10) := by
  unfold xgfI
  rw [cM_at h.1, ceRu h]
  simp [flRu]
theorem pRu_10 {k : Nat} (h : obK k 6) {v : Int32} {K : xM → Prop} : xpf (cM c R M0 τ) (c + k) 6 10 (.int v) K = K (cM c R M0 (cU τ k (upd (τ k) 10 v))) := by
  unfold xpf
  rw [cM_at h.1, ceRu h]
  dsimp only
  rw [cM_set (f := upd (τ k) 10 v) h.1 ((ceRu h).trans (show _ = Sum.inr (6, (flRu c k (τ k)).set 10 (.int v)) from rfl))]
  simp
theorem gRu_11 {k : Nat} (h : obK k 6) {K : Int32 → Prop} : xgfI (cM c R M0 τ) (c + k) 6 11 K = K (τ k 11) := by
  unfold xgfI
  rw [cM_at h.1, ceRu h]
  simp [flRu]
theorem pRu_11 {k : Nat} (h : obK k 6) {v : Int32} {K : xM → Prop} : xpf (cM c R M0 τ) (c + k) 6 11 (.int v) K = K (cM c R M0 (cU τ k (upd (τ k) 11 v))) := by
  unfold xpf
  rw [cM_at h.1, ceRu h]
  dsimp only
  rw [cM_set (f := upd (τ k) 11 v) h.1 ((ceRu h).trans (show _ = Sum.inr (6, (flRu c k (τ k)).set 11 (.int v)) from rfl))]
  simp
theorem gRu_12 {k : Nat} (h : obK k 6) {K : Int32 → Prop} : xgfI (cM c R M0 τ) (c + k) 6 12 K = K (τ k 12) := by
  unfold xgfI
  rw [cM_at h.1, ceRu h]
  simp [flRu]
theorem pRu_12 {k : Nat} (h : obK k 6) {v : Int32} {K : xM → Prop} : xpf (cM c R M0 τ) (c + k) 6 12 (.int v) K = K (cM c R M0 (cU τ k (upd (τ k) 12 v))) := by
  unfold xpf
  rw [cM_at h.1, ceRu h]
  dsimp only
  rw [cM_set (f := upd (τ k) 12 v) h.1 ((ceRu h).trans (show _ = Sum.inr (6, (flRu c k (τ k)).set 12 (.int v)) from rfl))]
  simp
theorem ceFo {k : Nat} (h : obK k 1) {g : Nat → Int32} : cCell c R k g = .inr (1, flFo c k g) := by
  unfold cCell
  rw [h.2]
  rfl
theorem gFo_0 {k : Nat} (h : obK k 1) {K : Int32 → Prop} : xgfI (cM c R M0 τ) (c + k) 1 0 K = K (τ k 0) := by
  unfold xgfI
  rw [cM_at h.1, ceFo h]
  simp [flFo]
theorem pFo_0 {k : Nat} (h : obK k 1) {v : Int32} {K : xM → Prop} : xpf (cM c R M0 τ) (c + k) 1 0 (.int v) K = K (cM c R M0 (cU τ k (upd (τ k) 0 v))) := by
  unfold xpf
  rw [cM_at h.1, ceFo h]
  dsimp only
  rw [cM_set (f := upd (τ k) 0 v) h.1 ((ceFo h).trans (show _ = Sum.inr (1, (flFo c k (τ k)).set 0 (.int v)) from rfl))]
  simp
theorem gFo_1 {k : Nat} (h : obK k 1) {K : Nat → Prop} : xgfR (cM c R M0 τ) (c + k) 1 1 K = K (c + (k + 3)) := by
  unfold xgfR
  rw [cM_at h.1, ceFo h]
  simp [flFo]
theorem gFo_2 {k : Nat} (h : obK k 1) {K : Nat → Prop} : xgfR (cM c R M0 τ) (c + k) 1 2 K = K (c + (k + 4)) := by
  unfold xgfR
  rw [cM_at h.1, ceFo h]
  simp [flFo]
theorem gFo_3 {k : Nat} (h : obK k 1) {K : Nat → Prop} : xgfR (cM c R M0 τ) (c + k) 1 3 K = K (c + (k + 1)) := by
  unfold xgfR
  rw [cM_at h.1, ceFo h]
  simp [flFo]
theorem gFo_4 {k : Nat} (h : obK k 1) {K : Nat → Prop} : xgfR (cM c R M0 τ) (c + k) 1 4 K = K (c + (k + 2)) := by
  unfold xgfR
  rw [cM_at h.1, ceFo h]
  simp [flFo]
theorem gFo_5 {k : Nat} (h : obK k 1) {K : Int32 → Prop} : xgfI (cM c R M0 τ) (c + k) 1 5 K = K (τ k 5) := by
  unfold xgfI
  rw [cM_at h.1, ceFo h]
  simp [flFo]
theorem pFo_5 {k : Nat} (h : obK k 1) {v : Int32} {K : xM → Prop} : xpf (cM c R M0 τ) (c + k) 1 5 (.int v) K = K (cM c R M0 (cU τ k (upd (τ k) 5 v))) := by
  unfold xpf
  rw [cM_at h.1, ceFo h]
  dsimp only
  rw [cM_set (f := upd (τ k) 5 v) h.1 ((ceFo h).trans (show _ = Sum.inr (1, (flFo c k (τ k)).set 5 (.int v)) from rfl))]
  simp
theorem ceMo {k : Nat} (h : obK k 4) {g : Nat → Int32} : cCell c R k g = .inr (4, flMo c k g) := by
  unfold cCell
  rw [h.2]
  rfl
theorem gMo_0 {k : Nat} (h : obK k 4) {K : Nat → Prop} : xgfR (cM c R M0 τ) (c + k) 4 0 K = K (c + (k + 1)) := by
  unfold xgfR
  rw [cM_at h.1, ceMo h]
  simp [flMo]
theorem gMo_1 {k : Nat} (h : obK k 4) {K : Nat → Prop} : xgfR (cM c R M0 τ) (c + k) 4 1 K = K (c + (k + 2)) := by
  unfold xgfR
  rw [cM_at h.1, ceMo h]
  simp [flMo]
theorem gMo_2 {k : Nat} (h : obK k 4) {K : Nat → Prop} : xgfR (cM c R M0 τ) (c + k) 4 2 K = K (c + (k + 3)) := by
  unfold xgfR
  rw [cM_at h.1, ceMo h]
  simp [flMo]
theorem gMo_3 {k : Nat} (h : obK k 4) {K : Int32 → Prop} : xgfI (cM c R M0 τ) (c + k) 4 3 K = K (τ k 3) := by
  unfold xgfI
  rw [cM_at h.1, ceMo h]
  simp [flMo]
theorem pMo_3 {k : Nat} (h : obK k 4) {v : Int32} {K : xM → Prop} : xpf (cM c R M0 τ) (c + k) 4 3 (.int v) K = K (cM c R M0 (cU τ k (upd (τ k) 3 v))) := by
  unfold xpf
  rw [cM_at h.1, ceMo h]
  dsimp only
  rw [cM_set (f := upd (τ k) 3 v) h.1 ((ceMo h).trans (show _ = Sum.inr (4, (flMo c k (τ k)).set 3 (.int v)) from rfl))]
  simp
theorem gMo_4 {k : Nat} (h : obK k 4) {K : Int32 → Prop} : xgfI (cM c R M0 τ) (c + k) 4 4 K = K (τ k 4) := by
  unfold xgfI
  rw [cM_at h.1, ceMo h]
  simp [flMo]
theorem pMo_4 {k : Nat} (h : obK k 4) {v : Int32} {K : xM → Prop} : xpf (cM c R M0 τ) (c + k) 4 4 (.int v) K = K (cM c R M0 (cU τ k (upd (τ k) 4 v))) := by
  unfold xpf
  rw [cM_at h.1, ceMo h]
  dsimp only
  rw [cM_set (f := upd (τ k) 4 v) h.1 ((ceMo h).trans (show _ = Sum.inr (4, (flMo c k (τ k)).set 4 (.int v)) from rfl))]
  simp
theorem ceEl {k : Nat} (h : obK k 0) {g : Nat → Int32} : cCell c R k g = .inr (0, flEl c k g) := by
  unfold cCell
  rw [h.2]
  rfl
theorem gEl_0 {k : Nat} (h : obK k 0) {K : Nat → Prop} : xgfR (cM c R M0 τ) (c + k) 0 0 K = K (c + (k + 1)) := by
  unfold xgfR
  rw [cM_at h.1, ceEl h]
  simp [flEl]
theorem gEl_1 {k : Nat} (h : obK k 0) {K : Nat → Prop} : xgfR (cM c R M0 τ) (c + k) 0 1 K = K (c + (k + 2)) := by
  unfold xgfR
  rw [cM_at h.1, ceEl h]
  simp [flEl]
theorem gEl_2 {k : Nat} (h : obK k 0) {K : Nat → Prop} : xgfR (cM c R M0 τ) (c + k) 0 2 K = K (c + (k + 3)) := by
  unfold xgfR
  rw [cM_at h.1, ceEl h]
  simp [flEl]
theorem gEl_3 {k : Nat} (h : obK k 0) {K : Nat → Prop} : xgfR (cM c R M0 τ) (c + k) 0 3 K = K (c + (k + 4)) := by
  unfold xgfR
  rw [cM_at h.1, ceEl h]
  simp [flEl]
theorem gEl_4 {k : Nat} (h : obK k 0) {K : Nat → Prop} : xgfR (cM c R M0 τ) (c + k) 0 4 K = K (c + (k + 5)) := by
  unfold xgfR
  rw [cM_at h.1, ceEl h]
  simp [flEl]
theorem gEl_5 {k : Nat} (h : obK k 0) {K : Nat → Prop} : xgfR (cM c R M0 τ) (c + k) 0 5 K = K (c + (k + 6)) := by
  unfold xgfR
  rw [cM_at h.1, ceEl h]
  simp [flEl]
theorem gEl_6 {k : Nat} (h : obK k 0) {K : Nat → Prop} : xgfR (cM c R M0 τ) (c + k) 0 6 K = K (c + (k + 7)) := by
  unfold xgfR
  rw [cM_at h.1, ceEl h]
  simp [flEl]
theorem gEl_7 {k : Nat} (h : obK k 0) {K : Int32 → Prop} : xgfI (cM c R M0 τ) (c + k) 0 7 K = K (τ k 7) := by
  unfold xgfI
  rw [cM_at h.1, ceEl h]
  simp [flEl]
theorem pEl_7 {k : Nat} (h : obK k 0) {v : Int32} {K : xM → Prop} : xpf (cM c R M0 τ) (c + k) 0 7 (.int v) K = K (cM c R M0 (cU τ k (upd (τ k) 7 v))) := by
  unfold xpf
  rw [cM_at h.1, ceEl h]
  dsimp only
  rw [cM_set (f := upd (τ k) 7 v) h.1 ((ceEl h).trans (show _ = Sum.inr (0, (flEl c k (τ k)).set 7 (.int v)) from rfl))]
  simp
theorem ceHe {k : Nat} (h : obK k 3) {g : Nat → Int32} : cCell c R k g = .inr (3, flHe c k g) := by
  unfold cCell
  rw [h.2]
  rfl
theorem gHe_0 {k : Nat} (h : obK k 3) {K : Nat → Prop} : xgfR (cM c R M0 τ) (c + k) 3 0 K = K (c + (k + 1)) := by
  unfold xgfR
  rw [cM_at h.1, ceHe h]
  simp [flHe]
theorem gHe_1 {k : Nat} (h : obK k 3) {K : Nat → Prop} : xgfR (cM c R M0 τ) (c + k) 3 1 K = K (c + (k + 2)) := by
  unfold xgfR
  rw [cM_at h.1, ceHe h]
  simp [flHe]
theorem gHe_2 {k : Nat} (h : obK k 3) {K : Int32 → Prop} : xgfI (cM c R M0 τ) (c + k) 3 2 K = K (τ k 2) := by
  unfold xgfI
  rw [cM_at h.1, ceHe h]
  simp [flHe]
theorem pHe_2 {k : Nat} (h : obK k 3) {v : Int32} {K : xM → Prop} : xpf (cM c R M0 τ) (c + k) 3 2 (.int v) K = K (cM c R M0 (cU τ k (upd (τ k) 2 v))) := by
  unfold xpf
  rw [cM_at h.1, ceHe h]
  dsimp only
  rw [cM_set (f := upd (τ k) 2 v) h.1 ((ceHe h).trans (show _ = Sum.inr (3, (flHe c k (τ k)).set 2 (.int v)) from rfl))]
  simp
theorem gHe_3 {k : Nat} (h : obK k 3) {K : Int32 → Prop} : xgfI (cM c R M0 τ) (c + k) 3 3 K = K (τ k 3) := by
  unfold xgfI
  rw [cM_at h.1, ceHe h]
  simp [flHe]
theorem pHe_3 {k : Nat} (h : obK k 3) {v : Int32} {K : xM → Prop} : xpf (cM c R M0 τ) (c + k) 3 3 (.int v) K = K (cM c R M0 (cU τ k (upd (τ k) 3 v))) := by
  unfold xpf
  rw [cM_at h.1, ceHe h]
  dsimp only
  rw [cM_set (f := upd (τ k) 3 v) h.1 ((ceHe h).trans (show _ = Sum.inr (3, (flHe c k (τ k)).set 3 (.int v)) from rfl))]
  simp
theorem ceWh {k : Nat} (h : obK k 10) {g : Nat → Int32} : cCell c R k g = .inr (10, flWh c k g) := by
  unfold cCell
  rw [h.2]
  rfl
theorem gWh_0 {k : Nat} (h : obK k 10) {K : Nat → Prop} : xgfR (cM c R M0 τ) (c + k) 10 0 K = K (c + (k + 1)) := by
  unfold xgfR
  rw [cM_at h.1, ceWh h]
  simp [flWh]
theorem gWh_1 {k : Nat} (h : obK k 10) {K : Nat → Prop} : xgfR (cM c R M0 τ) (c + k) 10 1 K = K (c + (k + 9)) := by
  unfold xgfR
  rw [cM_at h.1, ceWh h]
  simp [flWh]
theorem gWh_2 {k : Nat} (h : obK k 10) {K : Nat → Prop} : xgfR (cM c R M0 τ) (c + k) 10 2 K = K (c + (k + 13)) := by
  unfold xgfR
  rw [cM_at h.1, ceWh h]
  simp [flWh]
theorem gWh_3 {k : Nat} (h : obK k 10) {K : Nat → Prop} : xgfR (cM c R M0 τ) (c + k) 10 3 K = K (c + (k + 175)) := by
  unfold xgfR
  rw [cM_at h.1, ceWh h]
  simp [flWh]
theorem gWh_4 {k : Nat} (h : obK k 10) {K : Int32 → Prop} : xgfI (cM c R M0 τ) (c + k) 10 4 K = K (τ k 4) := by
  unfold xgfI
  rw [cM_at h.1, ceWh h]
  simp [flWh]
theorem pWh_4 {k : Nat} (h : obK k 10) {v : Int32} {K : xM → Prop} : xpf (cM c R M0 τ) (c + k) 10 4 (.int v) K = K (cM c R M0 (cU τ k (upd (τ k) 4 v))) := by
  unfold xpf
  rw [cM_at h.1, ceWh h]
  dsimp only
  rw [cM_set (f := upd (τ k) 4 v) h.1 ((ceWh h).trans (show _ = Sum.inr (10, (flWh c k (τ k)).set 4 (.int v)) from rfl))]
  simp
theorem cePa {k : Nat} (h : obK k 5) {g : Nat → Int32} : cCell c R k g = .inr (5, flPa c k g) := by
  unfold cCell
  rw [h.2]
  rfl
theorem gPa_0 {k : Nat} (h : obK k 5) {K : Nat → Prop} : xgfR (cM c R M0 τ) (c + k) 5 0 K = K (c + (k + 1)) := by
  unfold xgfR
  rw [cM_at h.1, cePa h]
  simp [flPa]
theorem gPa_1 {k : Nat} (h : obK k 5) {K : Int32 → Prop} : xgfI (cM c R M0 τ) (c + k) 5 1 K = K (τ k 1) := by
  unfold xgfI
  rw [cM_at h.1, cePa h]
  simp [flPa]
theorem pPa_1 {k : Nat} (h : obK k 5) {v : Int32} {K : xM → Prop} : xpf (cM c R M0 τ) (c + k) 5 1 (.int v) K = K (cM c R M0 (cU τ k (upd (τ k) 1 v))) := by
  unfold xpf
  rw [cM_at h.1, cePa h]
  dsimp only
  rw [cM_set (f := upd (τ k) 1 v) h.1 ((cePa h).trans (show _ = Sum.inr (5, (flPa c k (τ k)).set 1 (.int v)) from rfl))]
  simp
theorem gPa_2 {k : Nat} (h : obK k 5) {K : Int32 → Prop} : xgfI (cM c R M0 τ) (c + k) 5 2 K = K (τ k 2) := by
  unfold xgfI
  rw [cM_at h.1, cePa h]
  simp [flPa]
theorem pPa_2 {k : Nat} (h : obK k 5) {v : Int32} {K : xM → Prop} : xpf (cM c R M0 τ) (c + k) 5 2 (.int v) K = K (cM c R M0 (cU τ k (upd (τ k) 2 v))) := by
  unfold xpf
  rw [cM_at h.1, cePa h]
  dsimp only
  rw [cM_set (f := upd (τ k) 2 v) h.1 ((cePa h).trans (show _ = Sum.inr (5, (flPa c k (τ k)).set 2 (.int v)) from rfl))]
  simp
theorem o_0 : obK 0 11 := ⟨by decide, rfl⟩
theorem o_34 : obK 34 7 := ⟨by decide, rfl⟩
theorem o_36 : obK 36 2 := ⟨by decide, rfl⟩
theorem o_42 : obK 42 9 := ⟨by decide, rfl⟩
theorem o_62 : obK 62 6 := ⟨by decide, rfl⟩
theorem o_85 : obK 85 1 := ⟨by decide, rfl⟩
theorem o_90 : obK 90 1 := ⟨by decide, rfl⟩
theorem o_95 : obK 95 1 := ⟨by decide, rfl⟩
theorem o_54 : obK 54 4 := ⟨by decide, rfl⟩
theorem o_58 : obK 58 4 := ⟨by decide, rfl⟩
theorem o_100 : obK 100 4 := ⟨by decide, rfl⟩
theorem o_104 : obK 104 4 := ⟨by decide, rfl⟩
theorem o_128 : obK 128 4 := ⟨by decide, rfl⟩
theorem o_306 : obK 306 4 := ⟨by decide, rfl⟩
theorem o_108 : obK 108 0 := ⟨by decide, rfl⟩
theorem o_120 : obK 120 0 := ⟨by decide, rfl⟩
theorem o_298 : obK 298 0 := ⟨by decide, rfl⟩
theorem o_116 : obK 116 3 := ⟨by decide, rfl⟩
theorem o_294 : obK 294 3 := ⟨by decide, rfl⟩
theorem o_472 : obK 472 3 := ⟨by decide, rfl⟩
theorem o_119 : obK 119 10 := ⟨by decide, rfl⟩
theorem o_297 : obK 297 10 := ⟨by decide, rfl⟩
theorem o_132 : obK 132 5 := ⟨by decide, rfl⟩
theorem o_310 : obK 310 5 := ⟨by decide, rfl⟩
theorem ai_35 : arI R 35 (300) := ⟨by decide, rfl, rfl⟩
theorem ai_37 : arI R 37 (300) := ⟨by decide, rfl, rfl⟩
theorem ai_38 : arI R 38 (R) := ⟨by decide, rfl, rfl⟩
theorem ai_39 : arI R 39 (R) := ⟨by decide, rfl, rfl⟩
theorem ai_40 : arI R 40 (R) := ⟨by decide, rfl, rfl⟩
theorem ai_83 : arI R 83 (2) := ⟨by decide, rfl, rfl⟩
theorem ai_84 : arI R 84 (1024) := ⟨by decide, rfl, rfl⟩
theorem ai_55 : arI R 55 (R) := ⟨by decide, rfl, rfl⟩
theorem ai_56 : arI R 56 (R) := ⟨by decide, rfl, rfl⟩
theorem ai_57 : arI R 57 (R) := ⟨by decide, rfl, rfl⟩
theorem ai_59 : arI R 59 (R) := ⟨by decide, rfl, rfl⟩
theorem ai_60 : arI R 60 (R) := ⟨by decide, rfl, rfl⟩
theorem ai_61 : arI R 61 (R) := ⟨by decide, rfl, rfl⟩
theorem ai_101 : arI R 101 (R) := ⟨by decide, rfl, rfl⟩
theorem ai_102 : arI R 102 (R) := ⟨by decide, rfl, rfl⟩
theorem ai_103 : arI R 103 (R) := ⟨by decide, rfl, rfl⟩
theorem ai_105 : arI R 105 (R) := ⟨by decide, rfl, rfl⟩
theorem ai_106 : arI R 106 (R) := ⟨by decide, rfl, rfl⟩
theorem ai_107 : arI R 107 (R) := ⟨by decide, rfl, rfl⟩
theorem ai_129 : arI R 129 (R) := ⟨by decide, rfl, rfl⟩
theorem ai_130 : arI R 130 (R) := ⟨by decide, rfl, rfl⟩
theorem ai_131 : arI R 131 (R) := ⟨by decide, rfl, rfl⟩
theorem ai_307 : arI R 307 (R) := ⟨by decide, rfl, rfl⟩
theorem ai_308 : arI R 308 (R) := ⟨by decide, rfl, rfl⟩
theorem ai_309 : arI R 309 (R) := ⟨by decide, rfl, rfl⟩
theorem ai_109 : arI R 109 (R) := ⟨by decide, rfl, rfl⟩
theorem ai_110 : arI R 110 (R) := ⟨by decide, rfl, rfl⟩
theorem ai_111 : arI R 111 (R) := ⟨by decide, rfl, rfl⟩
theorem ai_112 : arI R 112 (R) := ⟨by decide, rfl, rfl⟩
theorem ai_121 : arI R 121 (R) := ⟨by decide, rfl, rfl⟩
theorem ai_122 : arI R 122 (R) := ⟨by decide, rfl, rfl⟩
theorem ai_123 : arI R 123 (R) := ⟨by decide, rfl, rfl⟩
theorem ai_124 : arI R 124 (R) := ⟨by decide, rfl, rfl⟩
theorem ai_299 : arI R 299 (R) := ⟨by decide, rfl, rfl⟩
theorem ai_300 : arI R 300 (R) := ⟨by decide, rfl, rfl⟩
theorem ai_301 : arI R 301 (R) := ⟨by decide, rfl, rfl⟩
theorem ai_302 : arI R 302 (R) := ⟨by decide, rfl, rfl⟩
theorem ai_117 : arI R 117 (8) := ⟨by decide, rfl, rfl⟩
theorem ai_118 : arI R 118 (8) := ⟨by decide, rfl, rfl⟩
theorem ai_295 : arI R 295 (8) := ⟨by decide, rfl, rfl⟩
theorem ai_296 : arI R 296 (8) := ⟨by decide, rfl, rfl⟩
theorem ai_473 : arI R 473 (8) := ⟨by decide, rfl, rfl⟩
theorem ai_474 : arI R 474 (8) := ⟨by decide, rfl, rfl⟩
theorem ai_86 : arI R 86 (4096) := ⟨by decide, rfl, rfl⟩
theorem ai_87 : arI R 87 (2000) := ⟨by decide, rfl, rfl⟩
theorem ai_88 : arI R 88 (2000 * (R + 1)) := ⟨by decide, rfl, rfl⟩
theorem ai_89 : arI R 89 (R + 1) := ⟨by decide, rfl, rfl⟩
theorem ai_91 : arI R 91 (4096) := ⟨by decide, rfl, rfl⟩
theorem ai_92 : arI R 92 (2000) := ⟨by decide, rfl, rfl⟩
theorem ai_93 : arI R 93 (2000 * (R + 1)) := ⟨by decide, rfl, rfl⟩
theorem ai_94 : arI R 94 (R + 1) := ⟨by decide, rfl, rfl⟩
theorem ai_96 : arI R 96 (4096) := ⟨by decide, rfl, rfl⟩
theorem ai_97 : arI R 97 (2000) := ⟨by decide, rfl, rfl⟩
theorem ai_98 : arI R 98 (2000 * (R + 1)) := ⟨by decide, rfl, rfl⟩
theorem ai_99 : arI R 99 (R + 1) := ⟨by decide, rfl, rfl⟩
theorem az_41 : arZ R 41 (R) := ⟨by decide, rfl, rfl⟩
theorem az_113 : arZ R 113 (R) := ⟨by decide, rfl, rfl⟩
theorem az_114 : arZ R 114 (R) := ⟨by decide, rfl, rfl⟩
theorem az_115 : arZ R 115 (100) := ⟨by decide, rfl, rfl⟩
theorem az_125 : arZ R 125 (R) := ⟨by decide, rfl, rfl⟩
theorem az_126 : arZ R 126 (R) := ⟨by decide, rfl, rfl⟩
theorem az_127 : arZ R 127 (100) := ⟨by decide, rfl, rfl⟩
theorem az_303 : arZ R 303 (R) := ⟨by decide, rfl, rfl⟩
theorem az_304 : arZ R 304 (R) := ⟨by decide, rfl, rfl⟩
theorem az_305 : arZ R 305 (100) := ⟨by decide, rfl, rfl⟩
end CC
section CD
variable {c R : Nat} {M0 : xM} {τ : cS}
theorem gCo_0_0 {K : Int32 → Prop} : xgfI (cM c R M0 τ) c 11 0 K = K (τ 0 0) := gCo_0 o_0
theorem pCo_0_0 {v : Int32} {K : xM → Prop} : xpf (cM c R M0 τ) c 11 0 (.int v) K = K (cM c R M0 (cU τ 0 (upd (τ 0) 0 v))) := pCo_0 o_0
theorem gCo_1_0 {K : Nat → Prop} : xgfR (cM c R M0 τ) c 11 1 K = K (c + 1) := gCo_1 o_0
theorem gCo_2_0 {K : Nat → Prop} : xgfR (cM c R M0 τ) c 11 2 K = K (c + 34) := gCo_2 o_0
theorem gCo_3_0 {K : Nat → Prop} : xgfR (cM c R M0 τ) c 11 3 K = K (c + 36) := gCo_3 o_0
theorem gCo_4_0 {K : Nat → Prop} : xgfR (cM c R M0 τ) c 11 4 K = K (c + 42) := gCo_4 o_0
theorem gCo_5_0 {K : Nat → Prop} : xgfR (cM c R M0 τ) c 11 5 K = K (c + 62) := gCo_5 o_0
theorem gCo_6_0 {K : Nat → Prop} : xgfR (cM c R M0 τ) c 11 6 K = K (c + 108) := gCo_6 o_0
theorem gCo_7_0 {K : Nat → Prop} : xgfR (cM c R M0 τ) c 11 7 K = K (c + 116) := gCo_7 o_0
theorem gCo_8_0 {K : Nat → Prop} : xgfR (cM c R M0 τ) c 11 8 K = K (c + 119) := gCo_8 o_0
theorem gCo_9_0 {K : Nat → Prop} : xgfR (cM c R M0 τ) c 11 9 K = K (c + 297) := gCo_9 o_0
theorem gCo_10_0 {K : Int32 → Prop} : xgfI (cM c R M0 τ) c 11 10 K = K (τ 0 10) := gCo_10 o_0
theorem pCo_10_0 {v : Int32} {K : xM → Prop} : xpf (cM c R M0 τ) c 11 10 (.int v) K = K (cM c R M0 (cU τ 0 (upd (τ 0) 10 v))) := pCo_10 o_0
theorem gCo_11_0 {K : Int32 → Prop} : xgfI (cM c R M0 τ) c 11 11 K = K (τ 0 11) := gCo_11 o_0
theorem pCo_11_0 {v : Int32} {K : xM → Prop} : xpf (cM c R M0 τ) c 11 11 (.int v) K = K (cM c R M0 (cU τ 0 (upd (τ 0) 11 v))) := pCo_11 o_0
theorem co_0 : xobj (cM c R M0 τ) c 11 := co_K o_0 (by omega)
theorem co_0' : xobj (cM c R M0 τ) c 11 = True := co_T o_0 (by omega)
theorem gTa_0_34 {K : Nat → Prop} : xgfR (cM c R M0 τ) (c + 34) 7 0 K = K (c + 35) := gTa_0 o_34
theorem gTa_1_34 {K : Int32 → Prop} : xgfI (cM c R M0 τ) (c + 34) 7 1 K = K (τ 34 1) := gTa_1 o_34
theorem pTa_1_34 {v : Int32} {K : xM → Prop} : xpf (cM c R M0 τ) (c + 34) 7 1 (.int v) K = K (cM c R M0 (cU τ 34 (upd (τ 34) 1 v))) := pTa_1 o_34
theorem gTa_2_34 {K : Int32 → Prop} : xgfI (cM c R M0 τ) (c + 34) 7 2 K = K (τ 34 2) := gTa_2 o_34
theorem pTa_2_34 {v : Int32} {K : xM → Prop} : xpf (cM c R M0 τ) (c + 34) 7 2 (.int v) K = K (cM c R M0 (cU τ 34 (upd (τ 34) 2 v))) := pTa_2 o_34
theorem gTa_3_34 {K : Int32 → Prop} : xgfI (cM c R M0 τ) (c + 34) 7 3 K = K (τ 34 3) := gTa_3 o_34
theorem pTa_3_34 {v : Int32} {K : xM → Prop} : xpf (cM c R M0 τ) (c + 34) 7 3 (.int v) K = K (cM c R M0 (cU τ 34 (upd (τ 34) 3 v))) := pTa_3 o_34
theorem gTa_5_34 {K : Int32 → Prop} : xgfI (cM c R M0 τ) (c + 34) 7 5 K = K (τ 34 5) := gTa_5 o_34
theorem pTa_5_34 {v : Int32} {K : xM → Prop} : xpf (cM c R M0 τ) (c + 34) 7 5 (.int v) K = K (cM c R M0 (cU τ 34 (upd (τ 34) 5 v))) := pTa_5 o_34
theorem gTa_6_34 {K : Int32 → Prop} : xgfI (cM c R M0 τ) (c + 34) 7 6 K = K (τ 34 6) := gTa_6 o_34
theorem pTa_6_34 {v : Int32} {K : xM → Prop} : xpf (cM c R M0 τ) (c + 34) 7 6 (.int v) K = K (cM c R M0 (cU τ 34 (upd (τ 34) 6 v))) := pTa_6 o_34
theorem gTa_7_34 {K : Int32 → Prop} : xgfI (cM c R M0 τ) (c + 34) 7 7 K = K (τ 34 7) := gTa_7 o_34
theorem pTa_7_34 {v : Int32} {K : xM → Prop} : xpf (cM c R M0 τ) (c + 34) 7 7 (.int v) K = K (cM c R M0 (cU τ 34 (upd (τ 34) 7 v))) := pTa_7 o_34
theorem gTa_8_34 {K : Int32 → Prop} : xgfI (cM c R M0 τ) (c + 34) 7 8 K = K (τ 34 8) := gTa_8 o_34
theorem pTa_8_34 {v : Int32} {K : xM → Prop} : xpf (cM c R M0 τ) (c + 34) 7 8 (.int v) K = K (cM c R M0 (cU τ 34 (upd (τ 34) 8 v))) := pTa_8 o_34
theorem co_34 : xobj (cM c R M0 τ) (c + 34) 7 := co_K o_34 (by omega)
theorem co_34' : xobj (cM c R M0 τ) (c + 34) 7 = True := co_T o_34 (by omega)
theorem gHa_0_36 {K : Int32 → Prop} : xgfI (cM c R M0 τ) (c + 36) 2 0 K = K (τ 36 0) := gHa_0 o_36
theorem pHa_0_36 {v : Int32} {K : xM → Prop} : xpf (cM c R M0 τ) (c + 36) 2 0 (.int v) K = K (cM c R M0 (cU τ 36 (upd (τ 36) 0 v))) := pHa_0 o_36
theorem gHa_1_36 {K : Nat → Prop} : xgfR (cM c R M0 τ) (c + 36) 2 1 K = K (c + 38) := gHa_1 o_36
theorem gHa_2_36 {K : Nat → Prop} : xgfR (cM c R M0 τ) (c + 36) 2 2 K = K (c + 39) := gHa_2 o_36
theorem gHa_3_36 {K : Nat → Prop} : xgfR (cM c R M0 τ) (c + 36) 2 3 K = K (c + 40) := gHa_3 o_36
theorem gHa_4_36 {K : Nat → Prop} : xgfR (cM c R M0 τ) (c + 36) 2 4 K = K (c + 41) := gHa_4 o_36
theorem gHa_5_36 {K : Nat → Prop} : xgfR (cM c R M0 τ) (c + 36) 2 5 K = K (c + 1) := gHa_5 o_36
theorem gHa_6_36 {K : Nat → Prop} : xgfR (cM c R M0 τ) (c + 36) 2 6 K = K (c + 37) := gHa_6 o_36
theorem co_36 : xobj (cM c R M0 τ) (c + 36) 2 := co_K o_36 (by omega)
theorem co_36' : xobj (cM c R M0 τ) (c + 36) 2 = True := co_T o_36 (by omega)
theorem gTr_0_42 {K : Int32 → Prop} : xgfI (cM c R M0 τ) (c + 42) 9 0 K = K (τ 42 0) := gTr_0 o_42
theorem pTr_0_42 {v : Int32} {K : xM → Prop} : xpf (cM c R M0 τ) (c + 42) 9 0 (.int v) K = K (cM c R M0 (cU τ 42 (upd (τ 42) 0 v))) := pTr_0 o_42
theorem gTr_1_42 {K : Nat → Prop} : xgfR (cM c R M0 τ) (c + 42) 9 1 K = K (c + 36) := gTr_1 o_42
theorem gTr_2_42 {K : Nat → Prop} : xgfR (cM c R M0 τ) (c + 42) 9 2 K = K (c + 54) := gTr_2 o_42
theorem gTr_3_42 {K : Nat → Prop} : xgfR (cM c R M0 τ) (c + 42) 9 3 K = K (c + 58) := gTr_3 o_42
theorem gTr_4_42 {K : Nat → Prop} : xgfR (cM c R M0 τ) (c + 42) 9 4 K = K (c + 43) := gTr_4 o_42
theorem co_42 : xobj (cM c R M0 τ) (c + 42) 9 := co_K o_42 (by omega)
theorem co_42' : xobj (cM c R M0 τ) (c + 42) 9 = True := co_T o_42 (by omega)
theorem gRu_0_62 {K : Nat → Prop} : xgfR (cM c R M0 τ) (c + 62) 6 0 K = K (c + cN (τ 62 0)) := gRu_0 o_62
theorem gRu_1_62 {K : Nat → Prop} : xgfR (cM c R M0 τ) (c + 62) 6 1 K = K (c + cN (τ 62 1)) := gRu_1 o_62
theorem gRu_2_62 {K : Nat → Prop} : xgfR (cM c R M0 τ) (c + 62) 6 2 K = K (c + 95) := gRu_2 o_62
theorem gRu_3_62 {K : Nat → Prop} : xgfR (cM c R M0 τ) (c + 62) 6 3 K = K (c + 63) := gRu_3 o_62
theorem gRu_4_62 {K : Nat → Prop} : xgfR (cM c R M0 τ) (c + 62) 6 4 K = K (c + 73) := gRu_4 o_62
theorem gRu_5_62 {K : Nat → Prop} : xgfR (cM c R M0 τ) (c + 62) 6 5 K = K (c + 36) := gRu_5 o_62
theorem gRu_6_62 {K : Nat → Prop} : xgfR (cM c R M0 τ) (c + 62) 6 6 K = K (c + 100) := gRu_6 o_62
theorem gRu_7_62 {K : Nat → Prop} : xgfR (cM c R M0 τ) (c + 62) 6 7 K = K (c + 104) := gRu_7 o_62
theorem gRu_8_62 {K : Nat → Prop} : xgfR (cM c R M0 τ) (c + 62) 6 8 K = K (c + 83) := gRu_8 o_62
theorem gRu_9_62 {K : Nat → Prop} : xgfR (cM c R M0 τ) (c + 62) 6 9 K = K (c + 84) := gRu_9 o_62
theorem gRu_10_62 {K : Int32 → Prop} : xgfI (cM c R M0 τ) (c + 62) 6 10 K = K (τ 62 10) := gRu_10 o_62
theorem pRu_10_62 {v : Int32} {K : xM → Prop} : xpf (cM c R M0 τ) (c + 62) 6 10 (.int v) K = K (cM c R M0 (cU τ 62 (upd (τ 62) 10 v))) := pRu_10 o_62
theorem gRu_11_62 {K : Int32 → Prop} : xgfI (cM c R M0 τ) (c + 62) 6 11 K = K (τ 62 11) := gRu_11 o_62
theorem pRu_11_62 {v : Int32} {K : xM → Prop} : xpf (cM c R M0 τ) (c + 62) 6 11 (.int v) K = K (cM c R M0 (cU τ 62 (upd (τ 62) 11 v))) := pRu_11 o_62
theorem gRu_12_62 {K : Int32 → Prop} : xgfI (cM c R M0 τ) (c + 62) 6 12 K = K (τ 62 12) := gRu_12 o_62
theorem pRu_12_62 {v : Int32} {K : xM → Prop} : xpf (cM c R M0 τ) (c + 62) 6 12 (.int v) K = K (cM c R M0 (cU τ 62 (upd (τ 62) 12 v))) := pRu_12 o_62
theorem co_62 : xobj (cM c R M0 τ) (c + 62) 6 := co_K o_62 (by omega)
theorem co_62' : xobj (cM c R M0 τ) (c + 62) 6 = True := co_T o_62 (by omega)
theorem gFo_0_85 {K : Int32 → Prop} : xgfI (cM c R M0 τ) (c + 85) 1 0 K = K (τ 85 0) := gFo_0 o_85
theorem pFo_0_85 {v : Int32} {K : xM → Prop} : xpf (cM c R M0 τ) (c + 85) 1 0 (.int v) K = K (cM c R M0 (cU τ 85 (upd (τ 85) 0 v))) := pFo_0 o_85
theorem gFo_1_85 {K : Nat → Prop} : xgfR (cM c R M0 τ) (c + 85) 1 1 K = K (c + 88) := gFo_1 o_85
theorem gFo_2_85 {K : Nat → Prop} : xgfR (cM c R M0 τ) (c + 85) 1 2 K = K (c + 89) := gFo_2 o_85
theorem gFo_3_85 {K : Nat → Prop} : xgfR (cM c R M0 τ) (c + 85) 1 3 K = K (c + 86) := gFo_3 o_85
theorem gFo_4_85 {K : Nat → Prop} : xgfR (cM c R M0 τ) (c + 85) 1 4 K = K (c + 87) := gFo_4 o_85
theorem gFo_5_85 {K : Int32 → Prop} : xgfI (cM c R M0 τ) (c + 85) 1 5 K = K (τ 85 5) := gFo_5 o_85
theorem pFo_5_85 {v : Int32} {K : xM → Prop} : xpf (cM c R M0 τ) (c + 85) 1 5 (.int v) K = K (cM c R M0 (cU τ 85 (upd (τ 85) 5 v))) := pFo_5 o_85
theorem co_85 : xobj (cM c R M0 τ) (c + 85) 1 := co_K o_85 (by omega)
theorem co_85' : xobj (cM c R M0 τ) (c + 85) 1 = True := co_T o_85 (by omega)
theorem gFo_0_90 {K : Int32 → Prop} : xgfI (cM c R M0 τ) (c + 90) 1 0 K = K (τ 90 0) := gFo_0 o_90
theorem pFo_0_90 {v : Int32} {K : xM → Prop} : xpf (cM c R M0 τ) (c + 90) 1 0 (.int v) K = K (cM c R M0 (cU τ 90 (upd (τ 90) 0 v))) := pFo_0 o_90
theorem gFo_1_90 {K : Nat → Prop} : xgfR (cM c R M0 τ) (c + 90) 1 1 K = K (c + 93) := gFo_1 o_90
theorem gFo_2_90 {K : Nat → Prop} : xgfR (cM c R M0 τ) (c + 90) 1 2 K = K (c + 94) := gFo_2 o_90
theorem gFo_3_90 {K : Nat → Prop} : xgfR (cM c R M0 τ) (c + 90) 1 3 K = K (c + 91) := gFo_3 o_90
theorem gFo_4_90 {K : Nat → Prop} : xgfR (cM c R M0 τ) (c + 90) 1 4 K = K (c + 92) := gFo_4 o_90
theorem gFo_5_90 {K : Int32 → Prop} : xgfI (cM c R M0 τ) (c + 90) 1 5 K = K (τ 90 5) := gFo_5 o_90
theorem pFo_5_90 {v : Int32} {K : xM → Prop} : xpf (cM c R M0 τ) (c + 90) 1 5 (.int v) K = K (cM c R M0 (cU τ 90 (upd (τ 90) 5 v))) := pFo_5 o_90
theorem co_90 : xobj (cM c R M0 τ) (c + 90) 1 := co_K o_90 (by omega)
theorem co_90' : xobj (cM c R M0 τ) (c + 90) 1 = True := co_T o_90 (by omega)
theorem gFo_0_95 {K : Int32 → Prop} : xgfI (cM c R M0 τ) (c + 95) 1 0 K = K (τ 95 0) := gFo_0 o_95
theorem pFo_0_95 {v : Int32} {K : xM → Prop} : xpf (cM c R M0 τ) (c + 95) 1 0 (.int v) K = K (cM c R M0 (cU τ 95 (upd (τ 95) 0 v))) := pFo_0 o_95
theorem gFo_1_95 {K : Nat → Prop} : xgfR (cM c R M0 τ) (c + 95) 1 1 K = K (c + 98) := gFo_1 o_95
theorem gFo_2_95 {K : Nat → Prop} : xgfR (cM c R M0 τ) (c + 95) 1 2 K = K (c + 99) := gFo_2 o_95
theorem gFo_3_95 {K : Nat → Prop} : xgfR (cM c R M0 τ) (c + 95) 1 3 K = K (c + 96) := gFo_3 o_95
theorem gFo_4_95 {K : Nat → Prop} : xgfR (cM c R M0 τ) (c + 95) 1 4 K = K (c + 97) := gFo_4 o_95
theorem gFo_5_95 {K : Int32 → Prop} : xgfI (cM c R M0 τ) (c + 95) 1 5 K = K (τ 95 5) := gFo_5 o_95
theorem pFo_5_95 {v : Int32} {K : xM → Prop} : xpf (cM c R M0 τ) (c + 95) 1 5 (.int v) K = K (cM c R M0 (cU τ 95 (upd (τ 95) 5 v))) := pFo_5 o_95
theorem co_95 : xobj (cM c R M0 τ) (c + 95) 1 := co_K o_95 (by omega)
theorem co_95' : xobj (cM c R M0 τ) (c + 95) 1 = True := co_T o_95 (by omega)
theorem gMo_0_54 {K : Nat → Prop} : xgfR (cM c R M0 τ) (c + 54) 4 0 K = K (c + 55) := gMo_0 o_54
theorem gMo_1_54 {K : Nat → Prop} : xgfR (cM c R M0 τ) (c + 54) 4 1 K = K (c + 56) := gMo_1 o_54
theorem gMo_2_54 {K : Nat → Prop} : xgfR (cM c R M0 τ) (c + 54) 4 2 K = K (c + 57) := gMo_2 o_54
theorem gMo_3_54 {K : Int32 → Prop} : xgfI (cM c R M0 τ) (c + 54) 4 3 K = K (τ 54 3) := gMo_3 o_54
theorem pMo_3_54 {v : Int32} {K : xM → Prop} : xpf (cM c R M0 τ) (c + 54) 4 3 (.int v) K = K (cM c R M0 (cU τ 54 (upd (τ 54) 3 v))) := pMo_3 o_54
theorem gMo_4_54 {K : Int32 → Prop} : xgfI (cM c R M0 τ) (c + 54) 4 4 K = K (τ 54 4) := gMo_4 o_54
theorem pMo_4_54 {v : Int32} {K : xM → Prop} : xpf (cM c R M0 τ) (c + 54) 4 4 (.int v) K = K (cM c R M0 (cU τ 54 (upd (τ 54) 4 v))) := pMo_4 o_54
theorem co_54 : xobj (cM c R M0 τ) (c + 54) 4 := co_K o_54 (by omega)
theorem co_54' : xobj (cM c R M0 τ) (c + 54) 4 = True := co_T o_54 (by omega)
theorem gMo_0_58 {K : Nat → Prop} : xgfR (cM c R M0 τ) (c + 58) 4 0 K = K (c + 59) := gMo_0 o_58
theorem gMo_1_58 {K : Nat → Prop} : xgfR (cM c R M0 τ) (c + 58) 4 1 K = K (c + 60) := gMo_1 o_58
theorem gMo_2_58 {K : Nat → Prop} : xgfR (cM c R M0 τ) (c + 58) 4 2 K = K (c + 61) := gMo_2 o_58
theorem gMo_3_58 {K : Int32 → Prop} : xgfI (cM c R M0 τ) (c + 58) 4 3 K = K (τ 58 3) := gMo_3 o_58
theorem pMo_3_58 {v : Int32} {K : xM → Prop} : xpf (cM c R M0 τ) (c + 58) 4 3 (.int v) K = K (cM c R M0 (cU τ 58 (upd (τ 58) 3 v))) := pMo_3 o_58
theorem gMo_4_58 {K : Int32 → Prop} : xgfI (cM c R M0 τ) (c + 58) 4 4 K = K (τ 58 4) := gMo_4 o_58
theorem pMo_4_58 {v : Int32} {K : xM → Prop} : xpf (cM c R M0 τ) (c + 58) 4 4 (.int v) K = K (cM c R M0 (cU τ 58 (upd (τ 58) 4 v))) := pMo_4 o_58
theorem co_58 : xobj (cM c R M0 τ) (c + 58) 4 := co_K o_58 (by omega)
theorem co_58' : xobj (cM c R M0 τ) (c + 58) 4 = True := co_T o_58 (by omega)
theorem gMo_0_100 {K : Nat → Prop} : xgfR (cM c R M0 τ) (c + 100) 4 0 K = K (c + 101) := gMo_0 o_100
theorem gMo_1_100 {K : Nat → Prop} : xgfR (cM c R M0 τ) (c + 100) 4 1 K = K (c + 102) := gMo_1 o_100
theorem gMo_2_100 {K : Nat → Prop} : xgfR (cM c R M0 τ) (c + 100) 4 2 K = K (c + 103) := gMo_2 o_100
theorem gMo_3_100 {K : Int32 → Prop} : xgfI (cM c R M0 τ) (c + 100) 4 3 K = K (τ 100 3) := gMo_3 o_100
theorem pMo_3_100 {v : Int32} {K : xM → Prop} : xpf (cM c R M0 τ) (c + 100) 4 3 (.int v) K = K (cM c R M0 (cU τ 100 (upd (τ 100) 3 v))) := pMo_3 o_100
theorem gMo_4_100 {K : Int32 → Prop} : xgfI (cM c R M0 τ) (c + 100) 4 4 K = K (τ 100 4) := gMo_4 o_100
theorem pMo_4_100 {v : Int32} {K : xM → Prop} : xpf (cM c R M0 τ) (c + 100) 4 4 (.int v) K = K (cM c R M0 (cU τ 100 (upd (τ 100) 4 v))) := pMo_4 o_100
theorem co_100 : xobj (cM c R M0 τ) (c + 100) 4 := co_K o_100 (by omega)
theorem co_100' : xobj (cM c R M0 τ) (c + 100) 4 = True := co_T o_100 (by omega)
theorem gMo_0_104 {K : Nat → Prop} : xgfR (cM c R M0 τ) (c + 104) 4 0 K = K (c + 105) := gMo_0 o_104
theorem gMo_1_104 {K : Nat → Prop} : xgfR (cM c R M0 τ) (c + 104) 4 1 K = K (c + 106) := gMo_1 o_104
theorem gMo_2_104 {K : Nat → Prop} : xgfR (cM c R M0 τ) (c + 104) 4 2 K = K (c + 107) := gMo_2 o_104
theorem gMo_3_104 {K : Int32 → Prop} : xgfI (cM c R M0 τ) (c + 104) 4 3 K = K (τ 104 3) := gMo_3 o_104
theorem pMo_3_104 {v : Int32} {K : xM → Prop} : xpf (cM c R M0 τ) (c + 104) 4 3 (.int v) K = K (cM c R M0 (cU τ 104 (upd (τ 104) 3 v))) := pMo_3 o_104
theorem gMo_4_104 {K : Int32 → Prop} : xgfI (cM c R M0 τ) (c + 104) 4 4 K = K (τ 104 4) := gMo_4 o_104
theorem pMo_4_104 {v : Int32} {K : xM → Prop} : xpf (cM c R M0 τ) (c + 104) 4 4 (.int v) K = K (cM c R M0 (cU τ 104 (upd (τ 104) 4 v))) := pMo_4 o_104
theorem co_104 : xobj (cM c R M0 τ) (c + 104) 4 := co_K o_104 (by omega)
theorem co_104' : xobj (cM c R M0 τ) (c + 104) 4 = True := co_T o_104 (by omega)
theorem gMo_0_128 {K : Nat → Prop} : xgfR (cM c R M0 τ) (c + 128) 4 0 K = K (c + 129) := gMo_0 o_128
theorem gMo_1_128 {K : Nat → Prop} : xgfR (cM c R M0 τ) (c + 128) 4 1 K = K (c + 130) := gMo_1 o_128
theorem gMo_2_128 {K : Nat → Prop} : xgfR (cM c R M0 τ) (c + 128) 4 2 K = K (c + 131) := gMo_2 o_128
theorem gMo_3_128 {K : Int32 → Prop} : xgfI (cM c R M0 τ) (c + 128) 4 3 K = K (τ 128 3) := gMo_3 o_128
theorem pMo_3_128 {v : Int32} {K : xM → Prop} : xpf (cM c R M0 τ) (c + 128) 4 3 (.int v) K = K (cM c R M0 (cU τ 128 (upd (τ 128) 3 v))) := pMo_3 o_128
theorem gMo_4_128 {K : Int32 → Prop} : xgfI (cM c R M0 τ) (c + 128) 4 4 K = K (τ 128 4) := gMo_4 o_128
theorem pMo_4_128 {v : Int32} {K : xM → Prop} : xpf (cM c R M0 τ) (c + 128) 4 4 (.int v) K = K (cM c R M0 (cU τ 128 (upd (τ 128) 4 v))) := pMo_4 o_128
theorem co_128 : xobj (cM c R M0 τ) (c + 128) 4 := co_K o_128 (by omega)
theorem co_128' : xobj (cM c R M0 τ) (c + 128) 4 = True := co_T o_128 (by omega)
theorem gMo_0_306 {K : Nat → Prop} : xgfR (cM c R M0 τ) (c + 306) 4 0 K = K (c + 307) := gMo_0 o_306
theorem gMo_1_306 {K : Nat → Prop} : xgfR (cM c R M0 τ) (c + 306) 4 1 K = K (c + 308) := gMo_1 o_306
theorem gMo_2_306 {K : Nat → Prop} : xgfR (cM c R M0 τ) (c + 306) 4 2 K = K (c + 309) := gMo_2 o_306
theorem gMo_3_306 {K : Int32 → Prop} : xgfI (cM c R M0 τ) (c + 306) 4 3 K = K (τ 306 3) := gMo_3 o_306
theorem pMo_3_306 {v : Int32} {K : xM → Prop} : xpf (cM c R M0 τ) (c + 306) 4 3 (.int v) K = K (cM c R M0 (cU τ 306 (upd (τ 306) 3 v))) := pMo_3 o_306
theorem gMo_4_306 {K : Int32 → Prop} : xgfI (cM c R M0 τ) (c + 306) 4 4 K = K (τ 306 4) := gMo_4 o_306
theorem pMo_4_306 {v : Int32} {K : xM → Prop} : xpf (cM c R M0 τ) (c + 306) 4 4 (.int v) K = K (cM c R M0 (cU τ 306 (upd (τ 306) 4 v))) := pMo_4 o_306
theorem co_306 : xobj (cM c R M0 τ) (c + 306) 4 := co_K o_306 (by omega)
theorem co_306' : xobj (cM c R M0 τ) (c + 306) 4 = True := co_T o_306 (by omega)
theorem gEl_0_108 {K : Nat → Prop} : xgfR (cM c R M0 τ) (c + 108) 0 0 K = K (c + 109) := gEl_0 o_108
theorem gEl_1_108 {K : Nat → Prop} : xgfR (cM c R M0 τ) (c + 108) 0 1 K = K (c + 110) := gEl_1 o_108
theorem gEl_2_108 {K : Nat → Prop} : xgfR (cM c R M0 τ) (c + 108) 0 2 K = K (c + 111) := gEl_2 o_108
theorem gEl_3_108 {K : Nat → Prop} : xgfR (cM c R M0 τ) (c + 108) 0 3 K = K (c + 112) := gEl_3 o_108
theorem gEl_4_108 {K : Nat → Prop} : xgfR (cM c R M0 τ) (c + 108) 0 4 K = K (c + 113) := gEl_4 o_108
theorem gEl_5_108 {K : Nat → Prop} : xgfR (cM c R M0 τ) (c + 108) 0 5 K = K (c + 114) := gEl_5 o_108
theorem gEl_6_108 {K : Nat → Prop} : xgfR (cM c R M0 τ) (c + 108) 0 6 K = K (c + 115) := gEl_6 o_108
theorem gEl_7_108 {K : Int32 → Prop} : xgfI (cM c R M0 τ) (c + 108) 0 7 K = K (τ 108 7) := gEl_7 o_108
theorem pEl_7_108 {v : Int32} {K : xM → Prop} : xpf (cM c R M0 τ) (c + 108) 0 7 (.int v) K = K (cM c R M0 (cU τ 108 (upd (τ 108) 7 v))) := pEl_7 o_108
theorem co_108 : xobj (cM c R M0 τ) (c + 108) 0 := co_K o_108 (by omega)
theorem co_108' : xobj (cM c R M0 τ) (c + 108) 0 = True := co_T o_108 (by omega)
theorem gEl_0_120 {K : Nat → Prop} : xgfR (cM c R M0 τ) (c + 120) 0 0 K = K (c + 121) := gEl_0 o_120
theorem gEl_1_120 {K : Nat → Prop} : xgfR (cM c R M0 τ) (c + 120) 0 1 K = K (c + 122) := gEl_1 o_120
theorem gEl_2_120 {K : Nat → Prop} : xgfR (cM c R M0 τ) (c + 120) 0 2 K = K (c + 123) := gEl_2 o_120
theorem gEl_3_120 {K : Nat → Prop} : xgfR (cM c R M0 τ) (c + 120) 0 3 K = K (c + 124) := gEl_3 o_120
theorem gEl_4_120 {K : Nat → Prop} : xgfR (cM c R M0 τ) (c + 120) 0 4 K = K (c + 125) := gEl_4 o_120
theorem gEl_5_120 {K : Nat → Prop} : xgfR (cM c R M0 τ) (c + 120) 0 5 K = K (c + 126) := gEl_5 o_120
theorem gEl_6_120 {K : Nat → Prop} : xgfR (cM c R M0 τ) (c + 120) 0 6 K = K (c + 127) := gEl_6 o_120
theorem gEl_7_120 {K : Int32 → Prop} : xgfI (cM c R M0 τ) (c + 120) 0 7 K = K (τ 120 7) := gEl_7 o_120
theorem pEl_7_120 {v : Int32} {K : xM → Prop} : xpf (cM c R M0 τ) (c + 120) 0 7 (.int v) K = K (cM c R M0 (cU τ 120 (upd (τ 120) 7 v))) := pEl_7 o_120
theorem co_120 : xobj (cM c R M0 τ) (c + 120) 0 := co_K o_120 (by omega)
theorem co_120' : xobj (cM c R M0 τ) (c + 120) 0 = True := co_T o_120 (by omega)
theorem gEl_0_298 {K : Nat → Prop} : xgfR (cM c R M0 τ) (c + 298) 0 0 K = K (c + 299) := gEl_0 o_298
theorem gEl_1_298 {K : Nat → Prop} : xgfR (cM c R M0 τ) (c + 298) 0 1 K = K (c + 300) := gEl_1 o_298
theorem gEl_2_298 {K : Nat → Prop} : xgfR (cM c R M0 τ) (c + 298) 0 2 K = K (c + 301) := gEl_2 o_298
theorem gEl_3_298 {K : Nat → Prop} : xgfR (cM c R M0 τ) (c + 298) 0 3 K = K (c + 302) := gEl_3 o_298
theorem gEl_4_298 {K : Nat → Prop} : xgfR (cM c R M0 τ) (c + 298) 0 4 K = K (c + 303) := gEl_4 o_298
theorem gEl_5_298 {K : Nat → Prop} : xgfR (cM c R M0 τ) (c + 298) 0 5 K = K (c + 304) := gEl_5 o_298
theorem gEl_6_298 {K : Nat → Prop} : xgfR (cM c R M0 τ) (c + 298) 0 6 K = K (c + 305) := gEl_6 o_298
theorem gEl_7_298 {K : Int32 → Prop} : xgfI (cM c R M0 τ) (c + 298) 0 7 K = K (τ 298 7) := gEl_7 o_298
theorem pEl_7_298 {v : Int32} {K : xM → Prop} : xpf (cM c R M0 τ) (c + 298) 0 7 (.int v) K = K (cM c R M0 (cU τ 298 (upd (τ 298) 7 v))) := pEl_7 o_298
theorem co_298 : xobj (cM c R M0 τ) (c + 298) 0 := co_K o_298 (by omega)
theorem co_298' : xobj (cM c R M0 τ) (c + 298) 0 = True := co_T o_298 (by omega)
theorem gHe_0_116 {K : Nat → Prop} : xgfR (cM c R M0 τ) (c + 116) 3 0 K = K (c + 117) := gHe_0 o_116
theorem gHe_1_116 {K : Nat → Prop} : xgfR (cM c R M0 τ) (c + 116) 3 1 K = K (c + 118) := gHe_1 o_116
theorem gHe_2_116 {K : Int32 → Prop} : xgfI (cM c R M0 τ) (c + 116) 3 2 K = K (τ 116 2) := gHe_2 o_116
theorem pHe_2_116 {v : Int32} {K : xM → Prop} : xpf (cM c R M0 τ) (c + 116) 3 2 (.int v) K = K (cM c R M0 (cU τ 116 (upd (τ 116) 2 v))) := pHe_2 o_116
theorem gHe_3_116 {K : Int32 → Prop} : xgfI (cM c R M0 τ) (c + 116) 3 3 K = K (τ 116 3) := gHe_3 o_116
theorem pHe_3_116 {v : Int32} {K : xM → Prop} : xpf (cM c R M0 τ) (c + 116) 3 3 (.int v) K = K (cM c R M0 (cU τ 116 (upd (τ 116) 3 v))) := pHe_3 o_116
theorem co_116 : xobj (cM c R M0 τ) (c + 116) 3 := co_K o_116 (by omega)
theorem co_116' : xobj (cM c R M0 τ) (c + 116) 3 = True := co_T o_116 (by omega)
theorem gHe_0_294 {K : Nat → Prop} : xgfR (cM c R M0 τ) (c + 294) 3 0 K = K (c + 295) := gHe_0 o_294
theorem gHe_1_294 {K : Nat → Prop} : xgfR (cM c R M0 τ) (c + 294) 3 1 K = K (c + 296) := gHe_1 o_294
theorem gHe_2_294 {K : Int32 → Prop} : xgfI (cM c R M0 τ) (c + 294) 3 2 K = K (τ 294 2) := gHe_2 o_294
theorem pHe_2_294 {v : Int32} {K : xM → Prop} : xpf (cM c R M0 τ) (c + 294) 3 2 (.int v) K = K (cM c R M0 (cU τ 294 (upd (τ 294) 2 v))) := pHe_2 o_294
theorem gHe_3_294 {K : Int32 → Prop} : xgfI (cM c R M0 τ) (c + 294) 3 3 K = K (τ 294 3) := gHe_3 o_294
theorem pHe_3_294 {v : Int32} {K : xM → Prop} : xpf (cM c R M0 τ) (c + 294) 3 3 (.int v) K = K (cM c R M0 (cU τ 294 (upd (τ 294) 3 v))) := pHe_3 o_294
theorem co_294 : xobj (cM c R M0 τ) (c + 294) 3 := co_K o_294 (by omega)
theorem co_294' : xobj (cM c R M0 τ) (c + 294) 3 = True := co_T o_294 (by omega)
theorem gHe_0_472 {K : Nat → Prop} : xgfR (cM c R M0 τ) (c + 472) 3 0 K = K (c + 473) := gHe_0 o_472
theorem gHe_1_472 {K : Nat → Prop} : xgfR (cM c R M0 τ) (c + 472) 3 1 K = K (c + 474) := gHe_1 o_472
theorem gHe_2_472 {K : Int32 → Prop} : xgfI (cM c R M0 τ) (c + 472) 3 2 K = K (τ 472 2) := gHe_2 o_472
theorem pHe_2_472 {v : Int32} {K : xM → Prop} : xpf (cM c R M0 τ) (c + 472) 3 2 (.int v) K = K (cM c R M0 (cU τ 472 (upd (τ 472) 2 v))) := pHe_2 o_472
theorem gHe_3_472 {K : Int32 → Prop} : xgfI (cM c R M0 τ) (c + 472) 3 3 K = K (τ 472 3) := gHe_3 o_472
theorem pHe_3_472 {v : Int32} {K : xM → Prop} : xpf (cM c R M0 τ) (c + 472) 3 3 (.int v) K = K (cM c R M0 (cU τ 472 (upd (τ 472) 3 v))) := pHe_3 o_472
theorem co_472 : xobj (cM c R M0 τ) (c + 472) 3 := co_K o_472 (by omega)
theorem co_472' : xobj (cM c R M0 τ) (c + 472) 3 = True := co_T o_472 (by omega)
theorem gWh_0_119 {K : Nat → Prop} : xgfR (cM c R M0 τ) (c + 119) 10 0 K = K (c + 120) := gWh_0 o_119
theorem gWh_1_119 {K : Nat → Prop} : xgfR (cM c R M0 τ) (c + 119) 10 1 K = K (c + 128) := gWh_1 o_119
theorem gWh_2_119 {K : Nat → Prop} : xgfR (cM c R M0 τ) (c + 119) 10 2 K = K (c + 132) := gWh_2 o_119
theorem gWh_3_119 {K : Nat → Prop} : xgfR (cM c R M0 τ) (c + 119) 10 3 K = K (c + 294) := gWh_3 o_119
theorem gWh_4_119 {K : Int32 → Prop} : xgfI (cM c R M0 τ) (c + 119) 10 4 K = K (τ 119 4) := gWh_4 o_119
theorem pWh_4_119 {v : Int32} {K : xM → Prop} : xpf (cM c R M0 τ) (c + 119) 10 4 (.int v) K = K (cM c R M0 (cU τ 119 (upd (τ 119) 4 v))) := pWh_4 o_119
theorem co_119 : xobj (cM c R M0 τ) (c + 119) 10 := co_K o_119 (by omega)
theorem co_119' : xobj (cM c R M0 τ) (c + 119) 10 = True := co_T o_119 (by omega)
theorem gWh_0_297 {K : Nat → Prop} : xgfR (cM c R M0 τ) (c + 297) 10 0 K = K (c + 298) := gWh_0 o_297
theorem gWh_1_297 {K : Nat → Prop} : xgfR (cM c R M0 τ) (c + 297) 10 1 K = K (c + 306) := gWh_1 o_297
theorem gWh_2_297 {K : Nat → Prop} : xgfR (cM c R M0 τ) (c + 297) 10 2 K = K (c + 310) := gWh_2 o_297
theorem gWh_3_297 {K : Nat → Prop} : xgfR (cM c R M0 τ) (c + 297) 10 3 K = K (c + 472) := gWh_3 o_297
theorem gWh_4_297 {K : Int32 → Prop} : xgfI (cM c R M0 τ) (c + 297) 10 4 K = K (τ 297 4) := gWh_4 o_297
theorem pWh_4_297 {v : Int32} {K : xM → Prop} : xpf (cM c R M0 τ) (c + 297) 10 4 (.int v) K = K (cM c R M0 (cU τ 297 (upd (τ 297) 4 v))) := pWh_4 o_297
theorem co_297 : xobj (cM c R M0 τ) (c + 297) 10 := co_K o_297 (by omega)
theorem co_297' : xobj (cM c R M0 τ) (c + 297) 10 = True := co_T o_297 (by omega)
theorem gPa_0_132 {K : Nat → Prop} : xgfR (cM c R M0 τ) (c + 132) 5 0 K = K (c + 133) := gPa_0 o_132
theorem gPa_1_132 {K : Int32 → Prop} : xgfI (cM c R M0 τ) (c + 132) 5 1 K = K (τ 132 1) := gPa_1 o_132
theorem pPa_1_132 {v : Int32} {K : xM → Prop} : xpf (cM c R M0 τ) (c + 132) 5 1 (.int v) K = K (cM c R M0 (cU τ 132 (upd (τ 132) 1 v))) := pPa_1 o_132
theorem gPa_2_132 {K : Int32 → Prop} : xgfI (cM c R M0 τ) (c + 132) 5 2 K = K (τ 132 2) := gPa_2 o_132
theorem pPa_2_132 {v : Int32} {K : xM → Prop} : xpf (cM c R M0 τ) (c + 132) 5 2 (.int v) K = K (cM c R M0 (cU τ 132 (upd (τ 132) 2 v))) := pPa_2 o_132
theorem co_132 : xobj (cM c R M0 τ) (c + 132) 5 := co_K o_132 (by omega)
theorem co_132' : xobj (cM c R M0 τ) (c + 132) 5 = True := co_T o_132 (by omega)
theorem gPa_0_310 {K : Nat → Prop} : xgfR (cM c R M0 τ) (c + 310) 5 0 K = K (c + 311) := gPa_0 o_310
theorem gPa_1_310 {K : Int32 → Prop} : xgfI (cM c R M0 τ) (c + 310) 5 1 K = K (τ 310 1) := gPa_1 o_310
theorem pPa_1_310 {v : Int32} {K : xM → Prop} : xpf (cM c R M0 τ) (c + 310) 5 1 (.int v) K = K (cM c R M0 (cU τ 310 (upd (τ 310) 1 v))) := pPa_1 o_310
theorem gPa_2_310 {K : Int32 → Prop} : xgfI (cM c R M0 τ) (c + 310) 5 2 K = K (τ 310 2) := gPa_2 o_310
theorem pPa_2_310 {v : Int32} {K : xM → Prop} : xpf (cM c R M0 τ) (c + 310) 5 2 (.int v) K = K (cM c R M0 (cU τ 310 (upd (τ 310) 2 v))) := pPa_2 o_310
theorem co_310 : xobj (cM c R M0 τ) (c + 310) 5 := co_K o_310 (by omega)
theorem co_310' : xobj (cM c R M0 τ) (c + 310) 5 = True := co_T o_310 (by omega)
theorem ca_35 {i : Int32} {K : Int32 → Prop} : xaI (cM c R M0 τ) (c + 35) i K = (vp_in i (300) ∧ K (τ 35 i.toNatClampNeg)) := ca_I ai_35
theorem cs_35 {i x : Int32} {K : xM → Prop} : xsI (cM c R M0 τ) (c + 35) i x K = (vp_in i (300) ∧ K (cM c R M0 (cU τ 35 (upd (τ 35) i.toNatClampNeg x)))) := cs_I ai_35
theorem cl_35 {K : Int32 → Prop} : xlen (cM c R M0 τ) (c + 35) K = K (nI (300)) := cl_I ai_35
theorem ca_37 {i : Int32} {K : Int32 → Prop} : xaI (cM c R M0 τ) (c + 37) i K = (vp_in i (300) ∧ K (τ 37 i.toNatClampNeg)) := ca_I ai_37
theorem cs_37 {i x : Int32} {K : xM → Prop} : xsI (cM c R M0 τ) (c + 37) i x K = (vp_in i (300) ∧ K (cM c R M0 (cU τ 37 (upd (τ 37) i.toNatClampNeg x)))) := cs_I ai_37
theorem cl_37 {K : Int32 → Prop} : xlen (cM c R M0 τ) (c + 37) K = K (nI (300)) := cl_I ai_37
theorem ca_38 {i : Int32} {K : Int32 → Prop} : xaI (cM c R M0 τ) (c + 38) i K = (vp_in i (R) ∧ K (τ 38 i.toNatClampNeg)) := ca_I ai_38
theorem cs_38 {i x : Int32} {K : xM → Prop} : xsI (cM c R M0 τ) (c + 38) i x K = (vp_in i (R) ∧ K (cM c R M0 (cU τ 38 (upd (τ 38) i.toNatClampNeg x)))) := cs_I ai_38
theorem cl_38 {K : Int32 → Prop} : xlen (cM c R M0 τ) (c + 38) K = K (nI (R)) := cl_I ai_38
theorem ca_39 {i : Int32} {K : Int32 → Prop} : xaI (cM c R M0 τ) (c + 39) i K = (vp_in i (R) ∧ K (τ 39 i.toNatClampNeg)) := ca_I ai_39
theorem cs_39 {i x : Int32} {K : xM → Prop} : xsI (cM c R M0 τ) (c + 39) i x K = (vp_in i (R) ∧ K (cM c R M0 (cU τ 39 (upd (τ 39) i.toNatClampNeg x)))) := cs_I ai_39
theorem cl_39 {K : Int32 → Prop} : xlen (cM c R M0 τ) (c + 39) K = K (nI (R)) := cl_I ai_39
theorem ca_40 {i : Int32} {K : Int32 → Prop} : xaI (cM c R M0 τ) (c + 40) i K = (vp_in i (R) ∧ K (τ 40 i.toNatClampNeg)) := ca_I ai_40
theorem cs_40 {i x : Int32} {K : xM → Prop} : xsI (cM c R M0 τ) (c + 40) i x K = (vp_in i (R) ∧ K (cM c R M0 (cU τ 40 (upd (τ 40) i.toNatClampNeg x)))) := cs_I ai_40
theorem cl_40 {K : Int32 → Prop} : xlen (cM c R M0 τ) (c + 40) K = K (nI (R)) := cl_I ai_40
theorem ca_83 {i : Int32} {K : Int32 → Prop} : xaI (cM c R M0 τ) (c + 83) i K = (vp_in i (2) ∧ K (τ 83 i.toNatClampNeg)) := ca_I ai_83
theorem cs_83 {i x : Int32} {K : xM → Prop} : xsI (cM c R M0 τ) (c + 83) i x K = (vp_in i (2) ∧ K (cM c R M0 (cU τ 83 (upd (τ 83) i.toNatClampNeg x)))) := cs_I ai_83
theorem cl_83 {K : Int32 → Prop} : xlen (cM c R M0 τ) (c + 83) K = K (nI (2)) := cl_I ai_83
theorem ca_84 {i : Int32} {K : Int32 → Prop} : xaI (cM c R M0 τ) (c + 84) i K = (vp_in i (1024) ∧ K (τ 84 i.toNatClampNeg)) := ca_I ai_84
theorem cs_84 {i x : Int32} {K : xM → Prop} : xsI (cM c R M0 τ) (c + 84) i x K = (vp_in i (1024) ∧ K (cM c R M0 (cU τ 84 (upd (τ 84) i.toNatClampNeg x)))) := cs_I ai_84
theorem cl_84 {K : Int32 → Prop} : xlen (cM c R M0 τ) (c + 84) K = K (nI (1024)) := cl_I ai_84
theorem ca_55 {i : Int32} {K : Int32 → Prop} : xaI (cM c R M0 τ) (c + 55) i K = (vp_in i (R) ∧ K (τ 55 i.toNatClampNeg)) := ca_I ai_55
theorem cs_55 {i x : Int32} {K : xM → Prop} : xsI (cM c R M0 τ) (c + 55) i x K = (vp_in i (R) ∧ K (cM c R M0 (cU τ 55 (upd (τ 55) i.toNatClampNeg x)))) := cs_I ai_55
theorem cl_55 {K : Int32 → Prop} : xlen (cM c R M0 τ) (c + 55) K = K (nI (R)) := cl_I ai_55
theorem ca_56 {i : Int32} {K : Int32 → Prop} : xaI (cM c R M0 τ) (c + 56) i K = (vp_in i (R) ∧ K (τ 56 i.toNatClampNeg)) := ca_I ai_56
theorem cs_56 {i x : Int32} {K : xM → Prop} : xsI (cM c R M0 τ) (c + 56) i x K = (vp_in i (R) ∧ K (cM c R M0 (cU τ 56 (upd (τ 56) i.toNatClampNeg x)))) := cs_I ai_56
theorem cl_56 {K : Int32 → Prop} : xlen (cM c R M0 τ) (c + 56) K = K (nI (R)) := cl_I ai_56
theorem ca_57 {i : Int32} {K : Int32 → Prop} : xaI (cM c R M0 τ) (c + 57) i K = (vp_in i (R) ∧ K (τ 57 i.toNatClampNeg)) := ca_I ai_57
theorem cs_57 {i x : Int32} {K : xM → Prop} : xsI (cM c R M0 τ) (c + 57) i x K = (vp_in i (R) ∧ K (cM c R M0 (cU τ 57 (upd (τ 57) i.toNatClampNeg x)))) := cs_I ai_57
theorem cl_57 {K : Int32 → Prop} : xlen (cM c R M0 τ) (c + 57) K = K (nI (R)) := cl_I ai_57
theorem ca_59 {i : Int32} {K : Int32 → Prop} : xaI (cM c R M0 τ) (c + 59) i K = (vp_in i (R) ∧ K (τ 59 i.toNatClampNeg)) := ca_I ai_59
theorem cs_59 {i x : Int32} {K : xM → Prop} : xsI (cM c R M0 τ) (c + 59) i x K = (vp_in i (R) ∧ K (cM c R M0 (cU τ 59 (upd (τ 59) i.toNatClampNeg x)))) := cs_I ai_59
theorem cl_59 {K : Int32 → Prop} : xlen (cM c R M0 τ) (c + 59) K = K (nI (R)) := cl_I ai_59
theorem ca_60 {i : Int32} {K : Int32 → Prop} : xaI (cM c R M0 τ) (c + 60) i K = (vp_in i (R) ∧ K (τ 60 i.toNatClampNeg)) := ca_I ai_60
theorem cs_60 {i x : Int32} {K : xM → Prop} : xsI (cM c R M0 τ) (c + 60) i x K = (vp_in i (R) ∧ K (cM c R M0 (cU τ 60 (upd (τ 60) i.toNatClampNeg x)))) := cs_I ai_60
theorem cl_60 {K : Int32 → Prop} : xlen (cM c R M0 τ) (c + 60) K = K (nI (R)) := cl_I ai_60
theorem ca_61 {i : Int32} {K : Int32 → Prop} : xaI (cM c R M0 τ) (c + 61) i K = (vp_in i (R) ∧ K (τ 61 i.toNatClampNeg)) := ca_I ai_61
theorem cs_61 {i x : Int32} {K : xM → Prop} : xsI (cM c R M0 τ) (c + 61) i x K = (vp_in i (R) ∧ K (cM c R M0 (cU τ 61 (upd (τ 61) i.toNatClampNeg x)))) := cs_I ai_61
theorem cl_61 {K : Int32 → Prop} : xlen (cM c R M0 τ) (c + 61) K = K (nI (R)) := cl_I ai_61
theorem ca_101 {i : Int32} {K : Int32 → Prop} : xaI (cM c R M0 τ) (c + 101) i K = (vp_in i (R) ∧ K (τ 101 i.toNatClampNeg)) := ca_I ai_101
theorem cs_101 {i x : Int32} {K : xM → Prop} : xsI (cM c R M0 τ) (c + 101) i x K = (vp_in i (R) ∧ K (cM c R M0 (cU τ 101 (upd (τ 101) i.toNatClampNeg x)))) := cs_I ai_101
theorem cl_101 {K : Int32 → Prop} : xlen (cM c R M0 τ) (c + 101) K = K (nI (R)) := cl_I ai_101
theorem ca_102 {i : Int32} {K : Int32 → Prop} : xaI (cM c R M0 τ) (c + 102) i K = (vp_in i (R) ∧ K (τ 102 i.toNatClampNeg)) := ca_I ai_102
theorem cs_102 {i x : Int32} {K : xM → Prop} : xsI (cM c R M0 τ) (c + 102) i x K = (vp_in i (R) ∧ K (cM c R M0 (cU τ 102 (upd (τ 102) i.toNatClampNeg x)))) := cs_I ai_102
theorem cl_102 {K : Int32 → Prop} : xlen (cM c R M0 τ) (c + 102) K = K (nI (R)) := cl_I ai_102
theorem ca_103 {i : Int32} {K : Int32 → Prop} : xaI (cM c R M0 τ) (c + 103) i K = (vp_in i (R) ∧ K (τ 103 i.toNatClampNeg)) := ca_I ai_103
theorem cs_103 {i x : Int32} {K : xM → Prop} : xsI (cM c R M0 τ) (c + 103) i x K = (vp_in i (R) ∧ K (cM c R M0 (cU τ 103 (upd (τ 103) i.toNatClampNeg x)))) := cs_I ai_103
theorem cl_103 {K : Int32 → Prop} : xlen (cM c R M0 τ) (c + 103) K = K (nI (R)) := cl_I ai_103
theorem ca_105 {i : Int32} {K : Int32 → Prop} : xaI (cM c R M0 τ) (c + 105) i K = (vp_in i (R) ∧ K (τ 105 i.toNatClampNeg)) := ca_I ai_105
theorem cs_105 {i x : Int32} {K : xM → Prop} : xsI (cM c R M0 τ) (c + 105) i x K = (vp_in i (R) ∧ K (cM c R M0 (cU τ 105 (upd (τ 105) i.toNatClampNeg x)))) := cs_I ai_105
theorem cl_105 {K : Int32 → Prop} : xlen (cM c R M0 τ) (c + 105) K = K (nI (R)) := cl_I ai_105
theorem ca_106 {i : Int32} {K : Int32 → Prop} : xaI (cM c R M0 τ) (c + 106) i K = (vp_in i (R) ∧ K (τ 106 i.toNatClampNeg)) := ca_I ai_106
theorem cs_106 {i x : Int32} {K : xM → Prop} : xsI (cM c R M0 τ) (c + 106) i x K = (vp_in i (R) ∧ K (cM c R M0 (cU τ 106 (upd (τ 106) i.toNatClampNeg x)))) := cs_I ai_106
theorem cl_106 {K : Int32 → Prop} : xlen (cM c R M0 τ) (c + 106) K = K (nI (R)) := cl_I ai_106
theorem ca_107 {i : Int32} {K : Int32 → Prop} : xaI (cM c R M0 τ) (c + 107) i K = (vp_in i (R) ∧ K (τ 107 i.toNatClampNeg)) := ca_I ai_107
theorem cs_107 {i x : Int32} {K : xM → Prop} : xsI (cM c R M0 τ) (c + 107) i x K = (vp_in i (R) ∧ K (cM c R M0 (cU τ 107 (upd (τ 107) i.toNatClampNeg x)))) := cs_I ai_107
theorem cl_107 {K : Int32 → Prop} : xlen (cM c R M0 τ) (c + 107) K = K (nI (R)) := cl_I ai_107
theorem ca_129 {i : Int32} {K : Int32 → Prop} : xaI (cM c R M0 τ) (c + 129) i K = (vp_in i (R) ∧ K (τ 129 i.toNatClampNeg)) := ca_I ai_129
theorem cs_129 {i x : Int32} {K : xM → Prop} : xsI (cM c R M0 τ) (c + 129) i x K = (vp_in i (R) ∧ K (cM c R M0 (cU τ 129 (upd (τ 129) i.toNatClampNeg x)))) := cs_I ai_129
theorem cl_129 {K : Int32 → Prop} : xlen (cM c R M0 τ) (c + 129) K = K (nI (R)) := cl_I ai_129
theorem ca_130 {i : Int32} {K : Int32 → Prop} : xaI (cM c R M0 τ) (c + 130) i K = (vp_in i (R) ∧ K (τ 130 i.toNatClampNeg)) := ca_I ai_130
theorem cs_130 {i x : Int32} {K : xM → Prop} : xsI (cM c R M0 τ) (c + 130) i x K = (vp_in i (R) ∧ K (cM c R M0 (cU τ 130 (upd (τ 130) i.toNatClampNeg x)))) := cs_I ai_130
theorem cl_130 {K : Int32 → Prop} : xlen (cM c R M0 τ) (c + 130) K = K (nI (R)) := cl_I ai_130
theorem ca_131 {i : Int32} {K : Int32 → Prop} : xaI (cM c R M0 τ) (c + 131) i K = (vp_in i (R) ∧ K (τ 131 i.toNatClampNeg)) := ca_I ai_131
theorem cs_131 {i x : Int32} {K : xM → Prop} : xsI (cM c R M0 τ) (c + 131) i x K = (vp_in i (R) ∧ K (cM c R M0 (cU τ 131 (upd (τ 131) i.toNatClampNeg x)))) := cs_I ai_131
theorem cl_131 {K : Int32 → Prop} : xlen (cM c R M0 τ) (c + 131) K = K (nI (R)) := cl_I ai_131
theorem ca_307 {i : Int32} {K : Int32 → Prop} : xaI (cM c R M0 τ) (c + 307) i K = (vp_in i (R) ∧ K (τ 307 i.toNatClampNeg)) := ca_I ai_307
theorem cs_307 {i x : Int32} {K : xM → Prop} : xsI (cM c R M0 τ) (c + 307) i x K = (vp_in i (R) ∧ K (cM c R M0 (cU τ 307 (upd (τ 307) i.toNatClampNeg x)))) := cs_I ai_307
theorem cl_307 {K : Int32 → Prop} : xlen (cM c R M0 τ) (c + 307) K = K (nI (R)) := cl_I ai_307
theorem ca_308 {i : Int32} {K : Int32 → Prop} : xaI (cM c R M0 τ) (c + 308) i K = (vp_in i (R) ∧ K (τ 308 i.toNatClampNeg)) := ca_I ai_308
theorem cs_308 {i x : Int32} {K : xM → Prop} : xsI (cM c R M0 τ) (c + 308) i x K = (vp_in i (R) ∧ K (cM c R M0 (cU τ 308 (upd (τ 308) i.toNatClampNeg x)))) := cs_I ai_308
theorem cl_308 {K : Int32 → Prop} : xlen (cM c R M0 τ) (c + 308) K = K (nI (R)) := cl_I ai_308
theorem ca_309 {i : Int32} {K : Int32 → Prop} : xaI (cM c R M0 τ) (c + 309) i K = (vp_in i (R) ∧ K (τ 309 i.toNatClampNeg)) := ca_I ai_309
theorem cs_309 {i x : Int32} {K : xM → Prop} : xsI (cM c R M0 τ) (c + 309) i x K = (vp_in i (R) ∧ K (cM c R M0 (cU τ 309 (upd (τ 309) i.toNatClampNeg x)))) := cs_I ai_309
theorem cl_309 {K : Int32 → Prop} : xlen (cM c R M0 τ) (c + 309) K = K (nI (R)) := cl_I ai_309
theorem ca_109 {i : Int32} {K : Int32 → Prop} : xaI (cM c R M0 τ) (c + 109) i K = (vp_in i (R) ∧ K (τ 109 i.toNatClampNeg)) := ca_I ai_109
theorem cs_109 {i x : Int32} {K : xM → Prop} : xsI (cM c R M0 τ) (c + 109) i x K = (vp_in i (R) ∧ K (cM c R M0 (cU τ 109 (upd (τ 109) i.toNatClampNeg x)))) := cs_I ai_109
theorem cl_109 {K : Int32 → Prop} : xlen (cM c R M0 τ) (c + 109) K = K (nI (R)) := cl_I ai_109
theorem ca_110 {i : Int32} {K : Int32 → Prop} : xaI (cM c R M0 τ) (c + 110) i K = (vp_in i (R) ∧ K (τ 110 i.toNatClampNeg)) := ca_I ai_110
theorem cs_110 {i x : Int32} {K : xM → Prop} : xsI (cM c R M0 τ) (c + 110) i x K = (vp_in i (R) ∧ K (cM c R M0 (cU τ 110 (upd (τ 110) i.toNatClampNeg x)))) := cs_I ai_110
theorem cl_110 {K : Int32 → Prop} : xlen (cM c R M0 τ) (c + 110) K = K (nI (R)) := cl_I ai_110
theorem ca_111 {i : Int32} {K : Int32 → Prop} : xaI (cM c R M0 τ) (c + 111) i K = (vp_in i (R) ∧ K (τ 111 i.toNatClampNeg)) := ca_I ai_111
theorem cs_111 {i x : Int32} {K : xM → Prop} : xsI (cM c R M0 τ) (c + 111) i x K = (vp_in i (R) ∧ K (cM c R M0 (cU τ 111 (upd (τ 111) i.toNatClampNeg x)))) := cs_I ai_111
theorem cl_111 {K : Int32 → Prop} : xlen (cM c R M0 τ) (c + 111) K = K (nI (R)) := cl_I ai_111
theorem ca_112 {i : Int32} {K : Int32 → Prop} : xaI (cM c R M0 τ) (c + 112) i K = (vp_in i (R) ∧ K (τ 112 i.toNatClampNeg)) := ca_I ai_112
theorem cs_112 {i x : Int32} {K : xM → Prop} : xsI (cM c R M0 τ) (c + 112) i x K = (vp_in i (R) ∧ K (cM c R M0 (cU τ 112 (upd (τ 112) i.toNatClampNeg x)))) := cs_I ai_112
theorem cl_112 {K : Int32 → Prop} : xlen (cM c R M0 τ) (c + 112) K = K (nI (R)) := cl_I ai_112
theorem ca_121 {i : Int32} {K : Int32 → Prop} : xaI (cM c R M0 τ) (c + 121) i K = (vp_in i (R) ∧ K (τ 121 i.toNatClampNeg)) := ca_I ai_121
theorem cs_121 {i x : Int32} {K : xM → Prop} : xsI (cM c R M0 τ) (c + 121) i x K = (vp_in i (R) ∧ K (cM c R M0 (cU τ 121 (upd (τ 121) i.toNatClampNeg x)))) := cs_I ai_121
theorem cl_121 {K : Int32 → Prop} : xlen (cM c R M0 τ) (c + 121) K = K (nI (R)) := cl_I ai_121
theorem ca_122 {i : Int32} {K : Int32 → Prop} : xaI (cM c R M0 τ) (c + 122) i K = (vp_in i (R) ∧ K (τ 122 i.toNatClampNeg)) := ca_I ai_122
theorem cs_122 {i x : Int32} {K : xM → Prop} : xsI (cM c R M0 τ) (c + 122) i x K = (vp_in i (R) ∧ K (cM c R M0 (cU τ 122 (upd (τ 122) i.toNatClampNeg x)))) := cs_I ai_122
theorem cl_122 {K : Int32 → Prop} : xlen (cM c R M0 τ) (c + 122) K = K (nI (R)) := cl_I ai_122
theorem ca_123 {i : Int32} {K : Int32 → Prop} : xaI (cM c R M0 τ) (c + 123) i K = (vp_in i (R) ∧ K (τ 123 i.toNatClampNeg)) := ca_I ai_123
theorem cs_123 {i x : Int32} {K : xM → Prop} : xsI (cM c R M0 τ) (c + 123) i x K = (vp_in i (R) ∧ K (cM c R M0 (cU τ 123 (upd (τ 123) i.toNatClampNeg x)))) := cs_I ai_123
theorem cl_123 {K : Int32 → Prop} : xlen (cM c R M0 τ) (c + 123) K = K (nI (R)) := cl_I ai_123
theorem ca_124 {i : Int32} {K : Int32 → Prop} : xaI (cM c R M0 τ) (c + 124) i K = (vp_in i (R) ∧ K (τ 124 i.toNatClampNeg)) := ca_I ai_124
theorem cs_124 {i x : Int32} {K : xM → Prop} : xsI (cM c R M0 τ) (c + 124) i x K = (vp_in i (R) ∧ K (cM c R M0 (cU τ 124 (upd (τ 124) i.toNatClampNeg x)))) := cs_I ai_124
theorem cl_124 {K : Int32 → Prop} : xlen (cM c R M0 τ) (c + 124) K = K (nI (R)) := cl_I ai_124
theorem ca_299 {i : Int32} {K : Int32 → Prop} : xaI (cM c R M0 τ) (c + 299) i K = (vp_in i (R) ∧ K (τ 299 i.toNatClampNeg)) := ca_I ai_299
theorem cs_299 {i x : Int32} {K : xM → Prop} : xsI (cM c R M0 τ) (c + 299) i x K = (vp_in i (R) ∧ K (cM c R M0 (cU τ 299 (upd (τ 299) i.toNatClampNeg x)))) := cs_I ai_299
theorem cl_299 {K : Int32 → Prop} : xlen (cM c R M0 τ) (c + 299) K = K (nI (R)) := cl_I ai_299
theorem ca_300 {i : Int32} {K : Int32 → Prop} : xaI (cM c R M0 τ) (c + 300) i K = (vp_in i (R) ∧ K (τ 300 i.toNatClampNeg)) := ca_I ai_300
theorem cs_300 {i x : Int32} {K : xM → Prop} : xsI (cM c R M0 τ) (c + 300) i x K = (vp_in i (R) ∧ K (cM c R M0 (cU τ 300 (upd (τ 300) i.toNatClampNeg x)))) := cs_I ai_300
theorem cl_300 {K : Int32 → Prop} : xlen (cM c R M0 τ) (c + 300) K = K (nI (R)) := cl_I ai_300
theorem ca_301 {i : Int32} {K : Int32 → Prop} : xaI (cM c R M0 τ) (c + 301) i K = (vp_in i (R) ∧ K (τ 301 i.toNatClampNeg)) := ca_I ai_301
theorem cs_301 {i x : Int32} {K : xM → Prop} : xsI (cM c R M0 τ) (c + 301) i x K = (vp_in i (R) ∧ K (cM c R M0 (cU τ 301 (upd (τ 301) i.toNatClampNeg x)))) := cs_I ai_301
theorem cl_301 {K : Int32 → Prop} : xlen (cM c R M0 τ) (c + 301) K = K (nI (R)) := cl_I ai_301
theorem ca_302 {i : Int32} {K : Int32 → Prop} : xaI (cM c R M0 τ) (c + 302) i K = (vp_in i (R) ∧ K (τ 302 i.toNatClampNeg)) := ca_I ai_302
theorem cs_302 {i x : Int32} {K : xM → Prop} : xsI (cM c R M0 τ) (c + 302) i x K = (vp_in i (R) ∧ K (cM c R M0 (cU τ 302 (upd (τ 302) i.toNatClampNeg x)))) := cs_I ai_302
theorem cl_302 {K : Int32 → Prop} : xlen (cM c R M0 τ) (c + 302) K = K (nI (R)) := cl_I ai_302
theorem ca_117 {i : Int32} {K : Int32 → Prop} : xaI (cM c R M0 τ) (c + 117) i K = (vp_in i (8) ∧ K (τ 117 i.toNatClampNeg)) := ca_I ai_117
theorem cs_117 {i x : Int32} {K : xM → Prop} : xsI (cM c R M0 τ) (c + 117) i x K = (vp_in i (8) ∧ K (cM c R M0 (cU τ 117 (upd (τ 117) i.toNatClampNeg x)))) := cs_I ai_117
theorem cl_117 {K : Int32 → Prop} : xlen (cM c R M0 τ) (c + 117) K = K (nI (8)) := cl_I ai_117
theorem ca_118 {i : Int32} {K : Int32 → Prop} : xaI (cM c R M0 τ) (c + 118) i K = (vp_in i (8) ∧ K (τ 118 i.toNatClampNeg)) := ca_I ai_118
theorem cs_118 {i x : Int32} {K : xM → Prop} : xsI (cM c R M0 τ) (c + 118) i x K = (vp_in i (8) ∧ K (cM c R M0 (cU τ 118 (upd (τ 118) i.toNatClampNeg x)))) := cs_I ai_118
theorem cl_118 {K : Int32 → Prop} : xlen (cM c R M0 τ) (c + 118) K = K (nI (8)) := cl_I ai_118
theorem ca_295 {i : Int32} {K : Int32 → Prop} : xaI (cM c R M0 τ) (c + 295) i K = (vp_in i (8) ∧ K (τ 295 i.toNatClampNeg)) := ca_I ai_295
theorem cs_295 {i x : Int32} {K : xM → Prop} : xsI (cM c R M0 τ) (c + 295) i x K = (vp_in i (8) ∧ K (cM c R M0 (cU τ 295 (upd (τ 295) i.toNatClampNeg x)))) := cs_I ai_295
theorem cl_295 {K : Int32 → Prop} : xlen (cM c R M0 τ) (c + 295) K = K (nI (8)) := cl_I ai_295
theorem ca_296 {i : Int32} {K : Int32 → Prop} : xaI (cM c R M0 τ) (c + 296) i K = (vp_in i (8) ∧ K (τ 296 i.toNatClampNeg)) := ca_I ai_296
theorem cs_296 {i x : Int32} {K : xM → Prop} : xsI (cM c R M0 τ) (c + 296) i x K = (vp_in i (8) ∧ K (cM c R M0 (cU τ 296 (upd (τ 296) i.toNatClampNeg x)))) := cs_I ai_296
theorem cl_296 {K : Int32 → Prop} : xlen (cM c R M0 τ) (c + 296) K = K (nI (8)) := cl_I ai_296
theorem ca_473 {i : Int32} {K : Int32 → Prop} : xaI (cM c R M0 τ) (c + 473) i K = (vp_in i (8) ∧ K (τ 473 i.toNatClampNeg)) := ca_I ai_473
theorem cs_473 {i x : Int32} {K : xM → Prop} : xsI (cM c R M0 τ) (c + 473) i x K = (vp_in i (8) ∧ K (cM c R M0 (cU τ 473 (upd (τ 473) i.toNatClampNeg x)))) := cs_I ai_473
theorem cl_473 {K : Int32 → Prop} : xlen (cM c R M0 τ) (c + 473) K = K (nI (8)) := cl_I ai_473
theorem ca_474 {i : Int32} {K : Int32 → Prop} : xaI (cM c R M0 τ) (c + 474) i K = (vp_in i (8) ∧ K (τ 474 i.toNatClampNeg)) := ca_I ai_474
theorem cs_474 {i x : Int32} {K : xM → Prop} : xsI (cM c R M0 τ) (c + 474) i x K = (vp_in i (8) ∧ K (cM c R M0 (cU τ 474 (upd (τ 474) i.toNatClampNeg x)))) := cs_I ai_474
theorem cl_474 {K : Int32 → Prop} : xlen (cM c R M0 τ) (c + 474) K = K (nI (8)) := cl_I ai_474
theorem ca_86 {i : Int32} {K : Int32 → Prop} : xaI (cM c R M0 τ) (c + 86) i K = (vp_in i (4096) ∧ K (τ 86 i.toNatClampNeg)) := ca_I ai_86
theorem cs_86 {i x : Int32} {K : xM → Prop} : xsI (cM c R M0 τ) (c + 86) i x K = (vp_in i (4096) ∧ K (cM c R M0 (cU τ 86 (upd (τ 86) i.toNatClampNeg x)))) := cs_I ai_86
theorem cl_86 {K : Int32 → Prop} : xlen (cM c R M0 τ) (c + 86) K = K (nI (4096)) := cl_I ai_86
theorem ca_87 {i : Int32} {K : Int32 → Prop} : xaI (cM c R M0 τ) (c + 87) i K = (vp_in i (2000) ∧ K (τ 87 i.toNatClampNeg)) := ca_I ai_87
theorem cs_87 {i x : Int32} {K : xM → Prop} : xsI (cM c R M0 τ) (c + 87) i x K = (vp_in i (2000) ∧ K (cM c R M0 (cU τ 87 (upd (τ 87) i.toNatClampNeg x)))) := cs_I ai_87
theorem cl_87 {K : Int32 → Prop} : xlen (cM c R M0 τ) (c + 87) K = K (nI (2000)) := cl_I ai_87
theorem ca_88 {i : Int32} {K : Int32 → Prop} : xaI (cM c R M0 τ) (c + 88) i K = (vp_in i (2000 * (R + 1)) ∧ K (τ 88 i.toNatClampNeg)) := ca_I ai_88
theorem cs_88 {i x : Int32} {K : xM → Prop} : xsI (cM c R M0 τ) (c + 88) i x K = (vp_in i (2000 * (R + 1)) ∧ K (cM c R M0 (cU τ 88 (upd (τ 88) i.toNatClampNeg x)))) := cs_I ai_88
theorem cl_88 {K : Int32 → Prop} : xlen (cM c R M0 τ) (c + 88) K = K (nI (2000 * (R + 1))) := cl_I ai_88
theorem ca_89 {i : Int32} {K : Int32 → Prop} : xaI (cM c R M0 τ) (c + 89) i K = (vp_in i (R + 1) ∧ K (τ 89 i.toNatClampNeg)) := ca_I ai_89
theorem cs_89 {i x : Int32} {K : xM → Prop} : xsI (cM c R M0 τ) (c + 89) i x K = (vp_in i (R + 1) ∧ K (cM c R M0 (cU τ 89 (upd (τ 89) i.toNatClampNeg x)))) := cs_I ai_89
theorem cl_89 {K : Int32 → Prop} : xlen (cM c R M0 τ) (c + 89) K = K (nI (R + 1)) := cl_I ai_89
theorem ca_91 {i : Int32} {K : Int32 → Prop} : xaI (cM c R M0 τ) (c + 91) i K = (vp_in i (4096) ∧ K (τ 91 i.toNatClampNeg)) := ca_I ai_91
theorem cs_91 {i x : Int32} {K : xM → Prop} : xsI (cM c R M0 τ) (c + 91) i x K = (vp_in i (4096) ∧ K (cM c R M0 (cU τ 91 (upd (τ 91) i.toNatClampNeg x)))) := cs_I ai_91
theorem cl_91 {K : Int32 → Prop} : xlen (cM c R M0 τ) (c + 91) K = K (nI (4096)) := cl_I ai_91
theorem ca_92 {i : Int32} {K : Int32 → Prop} : xaI (cM c R M0 τ) (c + 92) i K = (vp_in i (2000) ∧ K (τ 92 i.toNatClampNeg)) := ca_I ai_92
theorem cs_92 {i x : Int32} {K : xM → Prop} : xsI (cM c R M0 τ) (c + 92) i x K = (vp_in i (2000) ∧ K (cM c R M0 (cU τ 92 (upd (τ 92) i.toNatClampNeg x)))) := cs_I ai_92
theorem cl_92 {K : Int32 → Prop} : xlen (cM c R M0 τ) (c + 92) K = K (nI (2000)) := cl_I ai_92
theorem ca_93 {i : Int32} {K : Int32 → Prop} : xaI (cM c R M0 τ) (c + 93) i K = (vp_in i (2000 * (R + 1)) ∧ K (τ 93 i.toNatClampNeg)) := ca_I ai_93
theorem cs_93 {i x : Int32} {K : xM → Prop} : xsI (cM c R M0 τ) (c + 93) i x K = (vp_in i (2000 * (R + 1)) ∧ K (cM c R M0 (cU τ 93 (upd (τ 93) i.toNatClampNeg x)))) := cs_I ai_93
theorem cl_93 {K : Int32 → Prop} : xlen (cM c R M0 τ) (c + 93) K = K (nI (2000 * (R + 1))) := cl_I ai_93
theorem ca_94 {i : Int32} {K : Int32 → Prop} : xaI (cM c R M0 τ) (c + 94) i K = (vp_in i (R + 1) ∧ K (τ 94 i.toNatClampNeg)) := ca_I ai_94
theorem cs_94 {i x : Int32} {K : xM → Prop} : xsI (cM c R M0 τ) (c + 94) i x K = (vp_in i (R + 1) ∧ K (cM c R M0 (cU τ 94 (upd (τ 94) i.toNatClampNeg x)))) := cs_I ai_94
theorem cl_94 {K : Int32 → Prop} : xlen (cM c R M0 τ) (c + 94) K = K (nI (R + 1)) := cl_I ai_94
theorem ca_96 {i : Int32} {K : Int32 → Prop} : xaI (cM c R M0 τ) (c + 96) i K = (vp_in i (4096) ∧ K (τ 96 i.toNatClampNeg)) := ca_I ai_96
theorem cs_96 {i x : Int32} {K : xM → Prop} : xsI (cM c R M0 τ) (c + 96) i x K = (vp_in i (4096) ∧ K (cM c R M0 (cU τ 96 (upd (τ 96) i.toNatClampNeg x)))) := cs_I ai_96
theorem cl_96 {K : Int32 → Prop} : xlen (cM c R M0 τ) (c + 96) K = K (nI (4096)) := cl_I ai_96
theorem ca_97 {i : Int32} {K : Int32 → Prop} : xaI (cM c R M0 τ) (c + 97) i K = (vp_in i (2000) ∧ K (τ 97 i.toNatClampNeg)) := ca_I ai_97
theorem cs_97 {i x : Int32} {K : xM → Prop} : xsI (cM c R M0 τ) (c + 97) i x K = (vp_in i (2000) ∧ K (cM c R M0 (cU τ 97 (upd (τ 97) i.toNatClampNeg x)))) := cs_I ai_97
theorem cl_97 {K : Int32 → Prop} : xlen (cM c R M0 τ) (c + 97) K = K (nI (2000)) := cl_I ai_97
theorem ca_98 {i : Int32} {K : Int32 → Prop} : xaI (cM c R M0 τ) (c + 98) i K = (vp_in i (2000 * (R + 1)) ∧ K (τ 98 i.toNatClampNeg)) := ca_I ai_98
theorem cs_98 {i x : Int32} {K : xM → Prop} : xsI (cM c R M0 τ) (c + 98) i x K = (vp_in i (2000 * (R + 1)) ∧ K (cM c R M0 (cU τ 98 (upd (τ 98) i.toNatClampNeg x)))) := cs_I ai_98
theorem cl_98 {K : Int32 → Prop} : xlen (cM c R M0 τ) (c + 98) K = K (nI (2000 * (R + 1))) := cl_I ai_98
theorem ca_99 {i : Int32} {K : Int32 → Prop} : xaI (cM c R M0 τ) (c + 99) i K = (vp_in i (R + 1) ∧ K (τ 99 i.toNatClampNeg)) := ca_I ai_99
theorem cs_99 {i x : Int32} {K : xM → Prop} : xsI (cM c R M0 τ) (c + 99) i x K = (vp_in i (R + 1) ∧ K (cM c R M0 (cU τ 99 (upd (τ 99) i.toNatClampNeg x)))) := cs_I ai_99
theorem cl_99 {K : Int32 → Prop} : xlen (cM c R M0 τ) (c + 99) K = K (nI (R + 1)) := cl_I ai_99
theorem ca_41 {i : Int32} {K : Int32 → Prop} : xaZ (cM c R M0 τ) (c + 41) i K = (vp_in i (R) ∧ K (τ 41 i.toNatClampNeg)) := ca_Z az_41
theorem cs_41 {i x : Int32} {K : xM → Prop} : xsZ (cM c R M0 τ) (c + 41) i x K = (vp_in i (R) ∧ K (cM c R M0 (cU τ 41 (upd (τ 41) i.toNatClampNeg (vp_nar .boolean x))))) := cs_Z az_41
theorem cl_41 {K : Int32 → Prop} : xlen (cM c R M0 τ) (c + 41) K = K (nI (R)) := cl_Z az_41
theorem ca_113 {i : Int32} {K : Int32 → Prop} : xaZ (cM c R M0 τ) (c + 113) i K = (vp_in i (R) ∧ K (τ 113 i.toNatClampNeg)) := ca_Z az_113
theorem cs_113 {i x : Int32} {K : xM → Prop} : xsZ (cM c R M0 τ) (c + 113) i x K = (vp_in i (R) ∧ K (cM c R M0 (cU τ 113 (upd (τ 113) i.toNatClampNeg (vp_nar .boolean x))))) := cs_Z az_113
theorem cl_113 {K : Int32 → Prop} : xlen (cM c R M0 τ) (c + 113) K = K (nI (R)) := cl_Z az_113
theorem ca_114 {i : Int32} {K : Int32 → Prop} : xaZ (cM c R M0 τ) (c + 114) i K = (vp_in i (R) ∧ K (τ 114 i.toNatClampNeg)) := ca_Z az_114
theorem cs_114 {i x : Int32} {K : xM → Prop} : xsZ (cM c R M0 τ) (c + 114) i x K = (vp_in i (R) ∧ K (cM c R M0 (cU τ 114 (upd (τ 114) i.toNatClampNeg (vp_nar .boolean x))))) := cs_Z az_114
theorem cl_114 {K : Int32 → Prop} : xlen (cM c R M0 τ) (c + 114) K = K (nI (R)) := cl_Z az_114
theorem ca_115 {i : Int32} {K : Int32 → Prop} : xaZ (cM c R M0 τ) (c + 115) i K = (vp_in i (100) ∧ K (τ 115 i.toNatClampNeg)) := ca_Z az_115
theorem cs_115 {i x : Int32} {K : xM → Prop} : xsZ (cM c R M0 τ) (c + 115) i x K = (vp_in i (100) ∧ K (cM c R M0 (cU τ 115 (upd (τ 115) i.toNatClampNeg (vp_nar .boolean x))))) := cs_Z az_115
theorem cl_115 {K : Int32 → Prop} : xlen (cM c R M0 τ) (c + 115) K = K (nI (100)) := cl_Z az_115
theorem ca_125 {i : Int32} {K : Int32 → Prop} : xaZ (cM c R M0 τ) (c + 125) i K = (vp_in i (R) ∧ K (τ 125 i.toNatClampNeg)) := ca_Z az_125
theorem cs_125 {i x : Int32} {K : xM → Prop} : xsZ (cM c R M0 τ) (c + 125) i x K = (vp_in i (R) ∧ K (cM c R M0 (cU τ 125 (upd (τ 125) i.toNatClampNeg (vp_nar .boolean x))))) := cs_Z az_125
theorem cl_125 {K : Int32 → Prop} : xlen (cM c R M0 τ) (c + 125) K = K (nI (R)) := cl_Z az_125
theorem ca_126 {i : Int32} {K : Int32 → Prop} : xaZ (cM c R M0 τ) (c + 126) i K = (vp_in i (R) ∧ K (τ 126 i.toNatClampNeg)) := ca_Z az_126
theorem cs_126 {i x : Int32} {K : xM → Prop} : xsZ (cM c R M0 τ) (c + 126) i x K = (vp_in i (R) ∧ K (cM c R M0 (cU τ 126 (upd (τ 126) i.toNatClampNeg (vp_nar .boolean x))))) := cs_Z az_126
theorem cl_126 {K : Int32 → Prop} : xlen (cM c R M0 τ) (c + 126) K = K (nI (R)) := cl_Z az_126
theorem ca_127 {i : Int32} {K : Int32 → Prop} : xaZ (cM c R M0 τ) (c + 127) i K = (vp_in i (100) ∧ K (τ 127 i.toNatClampNeg)) := ca_Z az_127
theorem cs_127 {i x : Int32} {K : xM → Prop} : xsZ (cM c R M0 τ) (c + 127) i x K = (vp_in i (100) ∧ K (cM c R M0 (cU τ 127 (upd (τ 127) i.toNatClampNeg (vp_nar .boolean x))))) := cs_Z az_127
theorem cl_127 {K : Int32 → Prop} : xlen (cM c R M0 τ) (c + 127) K = K (nI (100)) := cl_Z az_127
theorem ca_303 {i : Int32} {K : Int32 → Prop} : xaZ (cM c R M0 τ) (c + 303) i K = (vp_in i (R) ∧ K (τ 303 i.toNatClampNeg)) := ca_Z az_303
theorem cs_303 {i x : Int32} {K : xM → Prop} : xsZ (cM c R M0 τ) (c + 303) i x K = (vp_in i (R) ∧ K (cM c R M0 (cU τ 303 (upd (τ 303) i.toNatClampNeg (vp_nar .boolean x))))) := cs_Z az_303
theorem cl_303 {K : Int32 → Prop} : xlen (cM c R M0 τ) (c + 303) K = K (nI (R)) := cl_Z az_303
theorem ca_304 {i : Int32} {K : Int32 → Prop} : xaZ (cM c R M0 τ) (c + 304) i K = (vp_in i (R) ∧ K (τ 304 i.toNatClampNeg)) := ca_Z az_304
theorem cs_304 {i x : Int32} {K : xM → Prop} : xsZ (cM c R M0 τ) (c + 304) i x K = (vp_in i (R) ∧ K (cM c R M0 (cU τ 304 (upd (τ 304) i.toNatClampNeg (vp_nar .boolean x))))) := cs_Z az_304
theorem cl_304 {K : Int32 → Prop} : xlen (cM c R M0 τ) (c + 304) K = K (nI (R)) := cl_Z az_304
theorem ca_305 {i : Int32} {K : Int32 → Prop} : xaZ (cM c R M0 τ) (c + 305) i K = (vp_in i (100) ∧ K (τ 305 i.toNatClampNeg)) := ca_Z az_305
theorem cs_305 {i x : Int32} {K : xM → Prop} : xsZ (cM c R M0 τ) (c + 305) i x K = (vp_in i (100) ∧ K (cM c R M0 (cU τ 305 (upd (τ 305) i.toNatClampNeg (vp_nar .boolean x))))) := cs_Z az_305
theorem cl_305 {K : Int32 → Prop} : xlen (cM c R M0 τ) (c + 305) K = K (nI (100)) := cl_Z az_305
end CD
