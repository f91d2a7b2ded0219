/-! what holds at the law's entry: classes, arrays, texts; the cells as the small machine has them -/
section ST
variable {s : State} {args : Array Value}
theorem tb_in (hts : ∀ w ∈ lw_tbl, w.before args s = true) (k i : Nat) {w : Cond} (h : (zTb k)[i]? = some w) : w.before args s = true := hts w (zTb_in k (List.mem_of_getElem? h))
theorem st_K (hts : ∀ w ∈ lw_tbl, w.before args s = true) : ∃ D : va_G, ∀ (k : Nat) (q : vw_C), zCl[k]? = some q → u_Kn s q.1 q.2.1 q.2.2 (D.1 k) (D.2 k) := by
  have hg : ∀ w ∈ zGood, w.before args s = true := fun w hw => hts w (zGood_in hw).1
  obtain ⟨c0, i0, h0⟩ := u_known (C := zC0) (T := zT0) (N := 8) (n := 8) hg zL0 (tb_in hts 2 50 rfl)
  obtain ⟨c1, i1, h1⟩ := u_known (C := zC1) (T := zT1) (N := 6) (n := 6) hg zL1 (tb_in hts 1 220 rfl)
  obtain ⟨c2, i2, h2⟩ := u_known (C := zC2) (T := zT2) (N := 7) (n := 7) hg zL2 (tb_in hts 1 114 rfl)
  obtain ⟨c3, i3, h3⟩ := u_known (C := zC3) (T := zT3) (N := 4) (n := 4) hg zL3 (tb_in hts 2 100 rfl)
  obtain ⟨c4, i4, h4⟩ := u_known (C := zC4) (T := zT4) (N := 5) (n := 5) hg zL4 (tb_in hts 1 155 rfl)
  obtain ⟨c5, i5, h5⟩ := u_known (C := zC5) (T := zT5) (N := 3) (n := 3) hg zL5 (tb_in hts 2 131 rfl)
  obtain ⟨c6, i6, h6⟩ := u_known (C := zC6) (T := zT6) (N := 13) (n := 13) hg zL6 (tb_in hts 1 213 rfl)
  obtain ⟨c7, i7, h7⟩ := u_known (C := zC7) (T := zT7) (N := 9) (n := 9) hg zL7 (tb_in hts 1 77 rfl)
  obtain ⟨c8, i8, h8⟩ := u_known (C := zC8) (T := zT8) (N := 9) (n := 9) hg zL8 (tb_in hts 1 32 rfl)
  obtain ⟨c9, i9, h9⟩ := u_known (C := zC9) (T := zT9) (N := 5) (n := 5) hg zL9 (tb_in hts 1 147 rfl)
  obtain ⟨c10, i10, h10⟩ := u_known (C := zC10) (T := zT10) (N := 5) (n := 5) hg zL10 (tb_in hts 2 121 rfl)
  obtain ⟨c11, i11, h11⟩ := u_known (C := zC11) (T := zT11) (N := 12) (n := 12) hg zL11 (tb_in hts 1 20 rfl)
  obtain ⟨c12, i12, h12⟩ := u_known (C := zC12) (T := zT12) (N := 40) (n := 40) hg zL12 (tb_in hts 4 234 rfl)
  refine ⟨(fun k => if k = 0 then c0 else if k = 1 then c1 else if k = 2 then c2 else if k = 3 then c3 else if k = 4 then c4 else if k = 5 then c5 else if k = 6 then c6 else if k = 7 then c7 else if k = 8 then c8 else if k = 9 then c9 else if k = 10 then c10 else if k = 11 then c11 else c12, fun k => if k = 0 then i0 else if k = 1 then i1 else if k = 2 then i2 else if k = 3 then i3 else if k = 4 then i4 else if k = 5 then i5 else if k = 6 then i6 else if k = 7 then i7 else if k = 8 then i8 else if k = 9 then i9 else if k = 10 then i10 else if k = 11 then i11 else i12), ?_⟩
  intro k q hq
  match k, hq with
  | 0, hq => cases hq; exact h0
  | 1, hq => cases hq; exact h1
  | 2, hq => cases hq; exact h2
  | 3, hq => cases hq; exact h3
  | 4, hq => cases hq; exact h4
  | 5, hq => cases hq; exact h5
  | 6, hq => cases hq; exact h6
  | 7, hq => cases hq; exact h7
  | 8, hq => cases hq; exact h8
  | 9, hq => cases hq; exact h9
  | 10, hq => cases hq; exact h10
  | 11, hq => cases hq; exact h11
  | 12, hq => cases hq; exact h12
  | k + 13, hq => simp [zCl] at hq
theorem st_A (hts : ∀ w ∈ lw_tbl, w.before args s = true) : ∃ dA : Nat → ClassId, ∀ (k : Nat) (q : ClassId × FieldType), (zTys dA)[k]? = some q → ArrOfT s q.1 q.2 ∧ va_RA s q.1 q.2 := by
  obtain ⟨a0, k0, p0, f0, g0, e0⟩ := Cond.arrayClass_spec (tb_in hts 1 75 (w := .arrayClass .int) rfl)
  obtain ⟨a1, k1, p1, f1, g1, e1⟩ := Cond.arrayClass_spec (tb_in hts 1 145 (w := .arrayClass .boolean) rfl)
  obtain ⟨a2, k2, p2, f2, g2, e2⟩ := Cond.arrayClass_spec (tb_in hts 5 126 (w := .arrayClass .long) rfl)
  obtain ⟨p4, a4, k4, f4, _, g4, e4, n4⟩ := Cond.arrayOver_spec (tb_in hts 1 31 (w := .arrayOver (.object "RingCouncil$Text")) rfl)
  obtain ⟨p5, a5, k5, f5, _, g5, e5, n5⟩ := Cond.arrayOver_spec (tb_in hts 2 137 (w := .arrayOver (.object "RingCouncil$Moment")) rfl)
  obtain ⟨p6, a6, k6, f6, _, g6, e6, n6⟩ := arrayOver_specB (tb_in hts 1 153 (w := .arrayOver (.array .int)) rfl)
  refine ⟨fun k => if k = 0 then a0 else if k = 1 then a1 else if k = 2 then a2 else if k = 4 then a4 else if k = 5 then a5 else a6, ?_⟩
  intro k q hq
  match k, hq with
  | 0, hq => cases hq; exact ⟨fun n z => ⟨fun k h => (by cases h), k0, g0, p0, e0⟩, f0⟩
  | 1, hq => cases hq; exact ⟨fun n z => ⟨fun k h => (by cases h), k1, g1, p1, e1⟩, f1⟩
  | 2, hq => cases hq; exact ⟨fun n z => ⟨fun k h => (by cases h), k2, g2, p2, e2⟩, f2⟩
  | 3, hq => cases hq; exact ⟨fun n z => ⟨fun k h => (by cases h), k4, g4, p4, e4⟩, k4, p4, g4, e4, f4, n4⟩
  | 4, hq => cases hq; exact ⟨fun n z => ⟨fun k h => (by cases h), k5, g5, p5, e5⟩, k5, p5, g5, e5, f5, n5⟩
  | 5, hq => cases hq; exact ⟨fun n z => ⟨fun k h => (by cases h), k6, g6, p6, e6⟩, n6⟩
  | k + 6, hq => simp [zTys] at hq
/-- a constant text, as the Statement names it; its value's bytes -/
def tmS (i : Nat) : Term := .string "RingCouncil$Tape" (142 + 2 * i)
def tvS (i : Nat) : Term := .field (tmS i) "java/lang/String" "value" "[B"
def lnS (i : Nat) : Nat := (xtxt.map List.length).getD i 0
def blkS (i : Nat) : List Cond := [.exactly (tmS i) "java/lang/String", .eq (.field (tmS i) "java/lang/String" "coder" "B") (.int 0), .arrayOf (tvS i) .byte, .eq (.length (tvS i)) (.int (Int32.ofNat (lnS i)))] ++ ((List.range (lnS i)).map (fun j => .eq (.elem (tvS i) (.int (Int32.ofNat j))) (.int ((xtxt.getD i []).getD j 0))) ++ (List.range i).map (fun k => .not (.eq (tmS k) (tmS i))))
set_option maxRecDepth 100000 in
theorem nar_l : (flatC (Cond.and given_1 narrow_1)).drop 35 = (List.range 18).flatMap blkS := by decide +kernel
theorem nar_in (hgv : (Cond.and given_1 narrow_1).before args s = true) {i : Nat} (hi : i < 18) {w : Cond} (hw : w ∈ blkS i) : w.before args s = true := by
  refine flat_of_before _ hgv w (List.mem_of_mem_drop (i := 35) ?_)
  rw [nar_l]
  exact List.mem_flatMap.mpr ⟨i, List.mem_range.mpr hi, hw⟩
theorem blk_a {i k : Nat} {w : Cond} (h : ([.exactly (tmS i) "java/lang/String", .eq (.field (tmS i) "java/lang/String" "coder" "B") (.int 0), .arrayOf (tvS i) .byte, .eq (.length (tvS i)) (.int (Int32.ofNat (lnS i)))] : List Cond)[k]? = some w) : w ∈ blkS i := List.mem_append_left _ (List.mem_of_getElem? h)
theorem lnS_lt {i : Nat} (hi : i < 18) : lnS i < 2 ^ 31 := by
  have : ∀ j : Fin 18, lnS j.1 < 2 ^ 31 := by decide +kernel
  exact this ⟨i, hi⟩
theorem sref_all : ∀ j : Fin 18, (zTb 3)[41 + j.1]? = some (.stringRef "RingCouncil$Tape" (142 + 2 * j.1) (zTx.getD j.1 "")) := by decide +kernel
theorem st_S (hts : ∀ w ∈ lw_tbl, w.before args s = true) (hgv : (Cond.and given_1 narrow_1).before args s = true) {A : Nat → Prop} (hA : ∀ a : Nat, a < s.heap.size → ¬ A a) : ∃ sa sv : Nat → Nat, vk_S 18 (xtxt.map List.length) xtxt sa sv A s s.heap ∧ ∀ j, j < 18 → vk_R "RingCouncil$Tape" (142 + 2 * j) (zTx.getD j "") (sa j) s := by
  obtain ⟨sa, sv, h1, h2⟩ := vk_Sof (args := args) (s := s) (N := 18) (tm := tmS) (len := xtxt.map List.length) (byt := xtxt) (A := A) (fun i hi => lnS_lt hi) (fun i hi => nar_in hgv hi (blk_a (k := 0) rfl)) (fun i hi => nar_in hgv hi (blk_a (k := 1) rfl)) (fun i hi => nar_in hgv hi (blk_a (k := 2) rfl)) (fun i hi => nar_in hgv hi (blk_a (k := 3) rfl)) (fun i hi j hj => nar_in hgv hi (List.mem_append_right _ (List.mem_append_left _ (List.mem_map.mpr ⟨j, List.mem_range.mpr hj, rfl⟩)))) (fun i j hi hj hij => by
      rcases Nat.lt_or_ge i j with g | g
      · exact Or.inl (nar_in hgv hj (List.mem_append_right _ (List.mem_append_right _ (List.mem_map.mpr ⟨i, List.mem_range.mpr g, rfl⟩))))
      · exact Or.inr (nar_in hgv hi (List.mem_append_right _ (List.mem_append_right _ (List.mem_map.mpr ⟨j, List.mem_range.mpr (by omega), rfl⟩))))) hA
  exact ⟨sa, sv, h1, fun j hj => vk_R.of (A := args) (tb_in hts 3 (41 + j) (sref_all ⟨j, hj⟩)) (h2 j hj)⟩
theorem st_N (hts : ∀ w ∈ lw_tbl, w.before args s = true) : ∀ w ∈ zNest, va_Nw w s := by
  intro w hw
  have h5 : zNest = [(1, 33), (1, 78), (2, 101), (2, 151), (3, 238)].filterMap (fun i => (zTb i.1)[i.2]?) := rfl
  have hb : w.before args s = true := by
    rw [h5] at hw
    obtain ⟨i, -, hi⟩ := List.mem_filterMap.mp hw
    exact tb_in hts i.1 i.2 hi
  obtain ⟨a, i, x, b, rfl⟩ := zNest_form hw
  exact va_Nw.of rfl hb
theorem st_ctx {b L : Nat} {xs : Nat → Int32} (hts : ∀ w ∈ lw_tbl, w.before args s = true) (hgv : (Cond.and given_1 narrow_1).before args s = true) (hX : va_X b L xs s s.heap) : ∃ (D : va_G) (dA : Nat → ClassId) (sa sv : Nat → Nat), xCtx (D, dA, s.heap, (b, L, xs), sa, sv) s := by
  obtain ⟨D, hD⟩ := st_K hts
  obtain ⟨dA, hdA⟩ := st_A hts
  have hA : ∀ a : Nat, a < s.heap.size → ¬ (fun q : Nat => s.heap.size ≤ q) a := fun a h => Nat.not_le.mpr h
  obtain ⟨sa, sv, h7, h8⟩ := st_S hts hgv hA
  have c1 : (Cond.eq (.static "java/lang/String" "COMPACT_STRINGS" "Z") (.int 1)).before args s = true := flat_of_before _ hgv _ (List.mem_of_getElem? (i := 4) (by decide +kernel))
  have c2 : (Cond.isRef (.static "jdk/internal/util/Preconditions" "SIOOBE_FORMATTER" "Ljava/util/function/BiFunction;")).before args s = true := flat_of_before _ hgv _ (List.mem_of_getElem? (i := 5) (by decide +kernel))
  refine ⟨D, dA, sa, sv, ⟨hD, hdA⟩, hX, st_N hts, va_AO.of (tb_in hts 1 31 rfl), va_AO.of (tb_in hts 2 137 rfl), ?_, h7, h8, ?_, ?_⟩
  · exact tb_in hts 1 153 (w := .arrayOver (.array .int)) rfl
  · exact va_Zof (tb_in hts 3 72 rfl) (tb_in hts 1 14 rfl) (va_eqt c1) hA
  · exact va_Zqof (tb_in hts 3 88 rfl) (tb_in hts 1 16 rfl) c2 hA
/-- the small machine's cells at the start: the script, and what is not touched -/
def M00 (sz b L : Nat) (xs : Nat → Int32) : xM := fun a => if a < sz then (if a = b then some (.inl (7, L, .inl xs)) else some (.inr (20, []))) else none
theorem M00_top {sz b L : Nat} {xs : Nat → Int32} : xtop (M00 sz b L xs) sz := by
  intro x
  unfold M00
  by_cases h : x < sz
  · rw [if_pos h]
    constructor
    · intro a
      split at a <;> exact nomatch a
    · intro a; omega
  · rw [if_neg h]
    exact ⟨fun _ => by omega, fun _ => rfl⟩
theorem st_H {b L : Nat} {xs : Nat → Int32} {D : va_G} {dA : Nat → ClassId} {sa sv : Nat → Nat} : xH (D, dA, s.heap, (b, L, xs), sa, sv) (M00 s.heap.size b L xs) s.heap := by
  refine ⟨fun a e he => ?_, fun a => M00_top a, fun a _ => rfl, Nat.le_refl _⟩
  unfold M00 at he
  split at he
  · split at he
    · rename_i hab
      have he := Option.some.inj he
      subst he
      exact ⟨hab, rfl⟩
    · have he := Option.some.inj he
      subst he
      intro hq
      exact absurd hq (by decide)
  · exact nomatch he
theorem st_str {b L : Nat} {xs : Nat → Int32} {sa sv : Nat → Nat} (hX : va_X b L xs s s.heap) (h7 : vk_S 18 (xtxt.map List.length) xtxt sa sv (fun q => s.heap.size ≤ q) s s.heap) : stR sa s.heap.size (M00 s.heap.size b L xs) := by
  intro j hj
  obtain ⟨-, -, ⟨cf, k, i, f, cell, -, -, hc, -, hv, hn⟩, -⟩ := h7.1 j hj
  have hlt : sa j < s.heap.size := Nat.not_le.mp hn
  have hne : sa j ≠ b := by
    intro e
    obtain ⟨scr, g1, -, -, g4, g5⟩ := hX
    rw [e, g1] at hc
    have hc := Option.some.inj hc
    subst hc
    have hf : f.slot < L := by
      rw [← g4]
      exact (Array.getElem?_eq_some_iff.mp hv).1
    rw [g5 f.slot hf] at hv
    exact nomatch hv
  refine ⟨hlt, [], ?_⟩
  unfold M00
  rw [if_pos hlt, if_neg hne]
end ST
