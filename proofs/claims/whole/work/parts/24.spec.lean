/-! a text's sums and questions as trees (of the model's own Terms: no new type is allowed); what they are worth; the reference's code of them -/
def bnd (z : Int) : Prop := -1000000 ≤ z ∧ z ≤ 1000000
def clipZ (z : Int) : Int := if 1000000 < z then 1000000 else if z < -1000000 then -1000000 else z
theorem clipZ_bnd (z : Int) : bnd (clipZ z) := by
  unfold clipZ bnd
  split
  · omega
  · split <;> omega
def b2z (b : Prop) [Decidable b] : Int := if b then 1 else 0
/-- 3 + 4 - 5 * 6 /; 10 < 11 <= 12 > 13 >= 14 = 15 #; 21 and, 22 or -/
def opZ (k : Nat) (x y : Int) : Int :=
  if k = 3 then clipZ (x + y) else if k = 4 then clipZ (x - y) else if k = 5 then clipZ (x * y) else if k = 6 then (if y = 0 then 0 else clipZ (x.tdiv y))
  else if k = 10 then b2z (x < y) else if k = 11 then b2z (x ≤ y) else if k = 12 then b2z (y < x) else if k = 13 then b2z (y ≤ x) else if k = 14 then b2z (x = y) else if k = 15 then b2z (¬ x = y)
  else if k = 21 then b2z (¬ x = 0 ∧ ¬ y = 0) else b2z (¬ x = 0 ∨ ¬ y = 0)
def tv (env : Nat → Int) : Term → Int
  | .int v => v.toInt
  | .arg i => env i
  | .sub (.index k) a => if k = 2 then - tv env a else b2z (tv env a = 0)
  | .add (.index k) (.elem a b) => opZ k (tv env a) (tv env b)
  | .mul c (.elem a b) => if tv env c = 0 then tv env b else tv env a
  | _ => 0
/-- a sum (false), a question (true) -/
def wf : Term → Bool → Prop
  | .int v, s => s = false ∧ 0 ≤ v.toInt ∧ v.toInt ≤ 9999
  | .arg i, s => s = false ∧ i < 8
  | .sub (.index k) a, s => if s then k = 20 ∧ wf a true else k = 2 ∧ wf a false
  | .add (.index k) (.elem a b), s => if s then (10 ≤ k ∧ k ≤ 15 ∧ wf a false ∧ wf b false) ∨ ((k = 21 ∨ k = 22) ∧ wf a true ∧ wf b true) else 3 ≤ k ∧ k ≤ 6 ∧ wf a false ∧ wf b false
  | .mul c (.elem a b), s => s = false ∧ wf c true ∧ wf a false ∧ wf b false
  | _, _ => False
def pf : Term → List (Nat × Int32)
  | .int v => [(0, v)]
  | .arg i => [(1, nI i)]
  | .sub (.index k) a => pf a ++ [(k, 0)]
  | .add (.index k) (.elem a b) => pf a ++ (pf b ++ [(k, 0)])
  | .mul c (.elem a b) => pf c ++ (pf a ++ (pf b ++ [(23, 0)]))
  | _ => []
theorem opZ_3 (x y : Int) : opZ 3 x y = clipZ (x + y) := by unfold opZ; exact if_pos rfl
theorem opZ_4 (x y : Int) : opZ 4 x y = clipZ (x - y) := by unfold opZ; rw [if_neg (by decide)]; exact if_pos rfl
theorem opZ_5 (x y : Int) : opZ 5 x y = clipZ (x * y) := by unfold opZ; rw [if_neg (by decide), if_neg (by decide)]; exact if_pos rfl
theorem opZ_6 (x y : Int) : opZ 6 x y = if y = 0 then 0 else clipZ (x.tdiv y) := by unfold opZ; rw [if_neg (by decide), if_neg (by decide), if_neg (by decide)]; exact if_pos rfl
theorem b2z_01 (b : Prop) [Decidable b] : b2z b = 0 ∨ b2z b = 1 := by
  unfold b2z
  split
  · exact Or.inr rfl
  · exact Or.inl rfl
theorem b2z_bnd (b : Prop) [Decidable b] : bnd (b2z b) := by
  rcases b2z_01 b with h | h <;> rw [h] <;> unfold bnd <;> omega
theorem opZ_bnd (k : Nat) (x y : Int) : bnd (opZ k x y) := by
  unfold opZ
  split
  · exact clipZ_bnd _
  split
  · exact clipZ_bnd _
  split
  · exact clipZ_bnd _
  split
  · split
    · unfold bnd; omega
    · exact clipZ_bnd _
  repeat' split
  all_goals exact b2z_bnd _
theorem tv_bnd {env : Nat → Int} (he : ∀ i, i < 8 → bnd (env i)) : ∀ (t : Term) (s : Bool), wf t s → bnd (tv env t)
  | .int v, s, h => by
    have h := h.2
    unfold bnd
    show -1000000 ≤ v.toInt ∧ v.toInt ≤ 1000000
    omega
  | .arg i, s, h => he i h.2
  | .sub (.index k) a, s, h => by
    unfold tv
    split
    · have : wf a false := by
        unfold wf at h
        split at h
        · omega
        · exact h.2
      have := tv_bnd he a false this
      unfold bnd at *
      omega
    · exact b2z_bnd _
  | .add (.index k) (.elem a b), s, h => opZ_bnd _ _ _
  | .mul c (.elem a b), s, h => by
    unfold tv
    split
    · exact tv_bnd he b false h.2.2.2
    · exact tv_bnd he a false h.2.2.1
theorem bm64 {z : Int} (h1 : -9223372036854775808 ≤ z) (h2 : z < 9223372036854775808) : z.bmod (2 ^ 64) = z := Int.bmod_eq_of_le (by omega) (by omega)
theorem bm32 {z : Int} (h1 : -2147483648 ≤ z) (h2 : z < 2147483648) : z.bmod (2 ^ 32) = z := Int.bmod_eq_of_le (by omega) (by omega)
theorem bnd_mul {x y : Int} (hx : bnd x) (hy : bnd y) : -1000000000000 ≤ x * y ∧ x * y ≤ 1000000000000 := by
  have h1 : x.natAbs ≤ 1000000 := by unfold bnd at hx; omega
  have h2 : y.natAbs ≤ 1000000 := by unfold bnd at hy; omega
  have h3 : (x * y).natAbs ≤ 1000000 * 1000000 := by rw [Int.natAbs_mul]; exact Nat.mul_le_mul h1 h2
  omega
theorem bnd_div {x y : Int} (hx : bnd x) : bnd (x.tdiv y) := by
  have h1 : x.natAbs ≤ 1000000 := by unfold bnd at hx; omega
  have h3 : (x.tdiv y).natAbs ≤ 1000000 := by rw [Int.natAbs_tdiv]; exact Nat.le_trans (Nat.div_le_self _ _) h1
  unfold bnd
  omega
theorem l_add {x y : Int64} (hx : bnd x.toInt) (hy : bnd y.toInt) : (x + y).toInt = x.toInt + y.toInt := by
  rw [Int64.toInt_add]
  unfold bnd at *
  exact bm64 (by omega) (by omega)
theorem l_sub {x y : Int64} (hx : bnd x.toInt) (hy : bnd y.toInt) : (x - y).toInt = x.toInt - y.toInt := by
  rw [Int64.toInt_sub]
  unfold bnd at *
  exact bm64 (by omega) (by omega)
theorem l_mul {x y : Int64} (hx : bnd x.toInt) (hy : bnd y.toInt) : (x * y).toInt = x.toInt * y.toInt := by
  rw [Int64.toInt_mul]
  have := bnd_mul hx hy
  exact bm64 (by omega) (by omega)
theorem l_div {x y : Int64} (hx : bnd x.toInt) : (x / y).toInt = x.toInt.tdiv y.toInt := by
  rw [Int64.toInt_div]
  have := bnd_div (y := y.toInt) hx
  unfold bnd at this
  exact bm64 (by omega) (by omega)
theorem l_neg {x : Int64} (hx : bnd x.toInt) : (-x).toInt = - x.toInt := by
  rw [Int64.toInt_neg]
  unfold bnd at *
  exact bm64 (by omega) (by omega)
theorem l_inj {x y : Int64} : x.toInt = y.toInt ↔ x = y := Int64.toInt_inj
section MC4
variable {sa : Nat → Nat} {d : Nat} {Q : xQ} {q : Nat} {M0 M : xM} {σ : mS} {R : Nat}
theorem c_M_clip {v : Int64} (h : ∀ r : Int64, r.toInt = clipZ v.toInt → Q (some (.long r)) M) : xEv xP (xprim sa) (d + 1) m_M_clip [.long v] M Q := by
  refine t_M_clip ?_
  have e1 : (1000000 : Int64).toInt = 1000000 := rfl
  have e2 : (-1000000 : Int64).toInt = -1000000 := rfl
  simp only [lg_cmp_le, lg_cmp_ge, Int64.le_iff_toInt_le, e1, e2]
  unfold clipZ at h
  split
  · split
    · exact h v (by rw [if_neg (by omega), if_neg (by omega)])
    · exact h (-1000000) (by rw [if_neg (by omega), if_pos (by omega)]; rfl)
  · exact h 1000000 (by rw [if_pos (by omega)]; rfl)
theorem c_M_two {k : Nat} (hk3 : 3 ≤ k) (hk6 : k ≤ 6) {x y : Int64} (hx : bnd x.toInt) (hy : bnd y.toInt) (h : ∀ r : Int64, r.toInt = opZ k x.toInt y.toInt → Q (some (.long r)) M) : xEv xP (xprim sa) (d + 2) m_M_two [.int (nI k), .long x, .long y] M Q := by
  refine t_M_two ?_
  rcases (show k = 3 ∨ k = 4 ∨ k = 5 ∨ k = 6 by omega) with rfl | rfl | rfl | rfl
  · rw [if_pos rfl]
    rw [opZ_3, ← l_add hx hy] at h
    exact c_M_clip h
  · rw [if_neg (by decide), if_pos rfl]
    rw [opZ_4, ← l_sub hx hy] at h
    exact c_M_clip h
  · rw [if_neg (by decide), if_neg (by decide), if_pos rfl]
    rw [opZ_5, ← l_mul hx hy] at h
    exact c_M_clip h
  · rw [if_neg (by decide), if_neg (by decide), if_neg (by decide)]
    simp only [lg_cmp_eq]
    rw [opZ_6] at h
    by_cases h0 : y = 0
    · rw [if_neg (not_not_intro h0)]
      refine h 0 ?_
      rw [h0, if_pos Int64.toInt_zero]
      exact Int64.toInt_zero
    · rw [if_pos h0]
      rw [if_neg (fun e => h0 (l_inj.mp (e.trans Int64.toInt_zero.symm))), ← l_div hx] at h
      exact ⟨h0, c_M_clip h⟩
theorem c_M_isAsked {k : Nat} (hk3 : 10 ≤ k) (hk6 : k ≤ 15) {x y : Int64} (h : Q (some (.int (if opZ k x.toInt y.toInt = 0 then 0 else 1))) M) : xEv xP (xprim sa) (d + 1) m_M_isAsked [.int (nI k), .long x, .long y] M Q := by
  refine t_M_isAsked ?_
  simp only [lg_cmp_eq, lg_cmp_lt, lg_cmp_le, lg_cmp_gt, lg_cmp_ge, Int64.le_iff_toInt_le, Int64.lt_iff_toInt_lt, ← l_inj]
  have b0 : ∀ (b : Prop) [Decidable b], (if b2z b = 0 then (0 : Int32) else 1) = if b then 1 else 0 := by
    intro b _
    unfold b2z
    by_cases hb : b
    · rw [if_pos hb, if_pos hb]; rfl
    · rw [if_neg hb, if_neg hb]; rfl
  rcases (show k = 10 ∨ k = 11 ∨ k = 12 ∨ k = 13 ∨ k = 14 ∨ k = 15 by omega) with rfl | rfl | rfl | rfl | rfl | rfl
  · rw [if_neg (not_not_intro rfl)]
    rw [show opZ 10 x.toInt y.toInt = b2z (x.toInt < y.toInt) from rfl, b0] at h
    split
    · rw [if_neg (by omega)] at h; exact o01 (Or.inl rfl) h
    · rw [if_pos (by omega)] at h; exact o01 (Or.inr rfl) h
  · rw [if_pos (by decide), if_neg (not_not_intro rfl)]
    rw [show opZ 11 x.toInt y.toInt = b2z (x.toInt ≤ y.toInt) from rfl, b0] at h
    split
    · rw [if_neg (by omega)] at h; exact o01 (Or.inl rfl) h
    · rw [if_pos (by omega)] at h; exact o01 (Or.inr rfl) h
  · rw [if_pos (by decide), if_pos (by decide), if_neg (not_not_intro rfl)]
    rw [show opZ 12 x.toInt y.toInt = b2z (y.toInt < x.toInt) from rfl, b0] at h
    split
    · rw [if_neg (by omega)] at h; exact o01 (Or.inl rfl) h
    · rw [if_pos (by omega)] at h; exact o01 (Or.inr rfl) h
  · rw [if_pos (by decide), if_pos (by decide), if_pos (by decide), if_neg (not_not_intro rfl)]
    rw [show opZ 13 x.toInt y.toInt = b2z (y.toInt ≤ x.toInt) from rfl, b0] at h
    split
    · rw [if_neg (by omega)] at h; exact o01 (Or.inl rfl) h
    · rw [if_pos (by omega)] at h; exact o01 (Or.inr rfl) h
  · rw [if_pos (by decide), if_pos (by decide), if_pos (by decide), if_pos (by decide), if_neg (not_not_intro rfl)]
    rw [show opZ 14 x.toInt y.toInt = b2z (x.toInt = y.toInt) from rfl, b0] at h
    split
    · rw [if_neg (by omega)] at h; exact o01 (Or.inl rfl) h
    · rw [if_pos (by omega)] at h; exact o01 (Or.inr rfl) h
  · rw [if_pos (by decide), if_pos (by decide), if_pos (by decide), if_pos (by decide), if_pos (by decide)]
    rw [show opZ 15 x.toInt y.toInt = b2z (¬ x.toInt = y.toInt) from rfl, b0] at h
    split
    · rw [if_neg (by omega)] at h; exact o01 (Or.inl rfl) h
    · rw [if_pos (by omega)] at h; exact o01 (Or.inr rfl) h
end MC4
