/-! the reading of a text, as a function of its tokens: tk their sorts, tv their numbers. Modes: 0 either, 2 both, 4 ask, 5 sum, 7 product, 9 one; 1, 3, 6, 8: behind the first part -/
abbrev pR : Type := (Nat × Nat) ⊕ (Term × Nat)
def pB (r : pR) (k : Term → Nat → pR) : pR := match r with
  | .inl e => .inl e
  | .inr (t, i) => k t i
def cmpK (c : Nat) : Nat := if c = 60 then 10 else if c = 4 then 11 else if c = 62 then 12 else if c = 5 then 13 else if c = 61 then 14 else if c = 35 then 15 else 0
def addK (c : Nat) : Nat := if c = 43 then 3 else if c = 45 then 4 else 0
def mulK (c : Nat) : Nat := if c = 42 then 5 else if c = 47 then 6 else 0
def tB (k : Nat) (a b : Term) : Term := .add (.index k) (.elem a b)
def tU (k : Nat) (a : Term) : Term := .sub (.index k) a
def tC (c a b : Term) : Term := .mul c (.elem a b)
def ps (tk tv : Nat → Nat) : Nat → Nat → Nat → Nat → Term → pR
  | 0, _, _, _, _ => .inl (9, 0)
  | f + 1, 0, o, i, t => pB (ps tk tv f 2 o i t) (fun a j => ps tk tv f 1 o j a)
  | f + 1, 1, o, i, t => if tk i = 407 then pB (ps tk tv f 2 o (i + 1) t) (fun b j => ps tk tv f 1 o j (tB 22 t b)) else .inr (t, i)
  | f + 1, 2, o, i, t => pB (ps tk tv f 4 o i t) (fun a j => ps tk tv f 3 o j a)
  | f + 1, 3, o, i, t => if tk i = 408 then pB (ps tk tv f 4 o (i + 1) t) (fun b j => ps tk tv f 3 o j (tB 21 t b)) else .inr (t, i)
  | f + 1, 4, o, i, t => if tk i = 409 then (if 8 ≤ o then .inl (3, i) else pB (ps tk tv f 4 (o + 1) (i + 1) t) (fun a j => .inr (tU 20 a, j)))
      else pB (ps tk tv f 5 o i t) (fun a j => if cmpK (tk j) = 0 then .inl (1, j) else pB (ps tk tv f 5 o (j + 1) t) (fun b m => .inr (tB (cmpK (tk j)) a b, m)))
  | f + 1, 5, o, i, t => pB (ps tk tv f 7 o i t) (fun a j => ps tk tv f 6 o j a)
  | f + 1, 6, o, i, t => if addK (tk i) = 0 then .inr (t, i) else pB (ps tk tv f 7 o (i + 1) t) (fun b j => ps tk tv f 6 o j (tB (addK (tk i)) t b))
  | f + 1, 7, o, i, t => pB (ps tk tv f 9 o i t) (fun a j => ps tk tv f 8 o j a)
  | f + 1, 8, o, i, t => if mulK (tk i) = 0 then .inr (t, i) else pB (ps tk tv f 9 o (i + 1) t) (fun b j => ps tk tv f 8 o j (tB (mulK (tk i)) t b))
  | f + 1, _, o, i, t => if tk i = 1 then (if 9999 < tv i then .inl (2, i) else .inr (.int (nI (tv i)), i + 1))
      else if 410 ≤ tk i ∧ tk i ≤ 417 then .inr (.arg (tk i - 410), i + 1)
      else if tk i = 40 ∨ tk i = 45 ∨ tk i = 405 then (if 8 ≤ o then .inl (3, i)
        else if tk i = 40 then pB (ps tk tv f 5 (o + 1) (i + 1) t) (fun a j => if tk j = 41 then .inr (a, j + 1) else .inl (1, j))
        else if tk i = 45 then pB (ps tk tv f 9 (o + 1) (i + 1) t) (fun a j => .inr (tU 2 a, j))
        else pB (ps tk tv f 0 (o + 1) (i + 1) t) (fun c j => if tk j = 63 then pB (ps tk tv f 5 (o + 1) (j + 1) t) (fun a m => if tk m = 58 then pB (ps tk tv f 5 (o + 1) (m + 1) t) (fun b u => if tk u = 406 then .inr (tC c a b, u + 1) else .inl (1, u)) else .inl (1, m)) else .inl (1, j)))
      else .inl (1, i)
section PS1
variable {tk tv : Nat → Nat} {f o i : Nat} {t : Term}
theorem ps_0 : ps tk tv (f + 1) 0 o i t = pB (ps tk tv f 2 o i t) (fun a j => ps tk tv f 1 o j a) := rfl
theorem ps_1 : ps tk tv (f + 1) 1 o i t = if tk i = 407 then pB (ps tk tv f 2 o (i + 1) t) (fun b j => ps tk tv f 1 o j (tB 22 t b)) else .inr (t, i) := rfl
theorem ps_2 : ps tk tv (f + 1) 2 o i t = pB (ps tk tv f 4 o i t) (fun a j => ps tk tv f 3 o j a) := rfl
theorem ps_3 : ps tk tv (f + 1) 3 o i t = if tk i = 408 then pB (ps tk tv f 4 o (i + 1) t) (fun b j => ps tk tv f 3 o j (tB 21 t b)) else .inr (t, i) := rfl
theorem ps_4 : ps tk tv (f + 1) 4 o i t = if tk i = 409 then (if 8 ≤ o then .inl (3, i) else pB (ps tk tv f 4 (o + 1) (i + 1) t) (fun a j => .inr (tU 20 a, j)))
      else pB (ps tk tv f 5 o i t) (fun a j => if cmpK (tk j) = 0 then .inl (1, j) else pB (ps tk tv f 5 o (j + 1) t) (fun b m => .inr (tB (cmpK (tk j)) a b, m))) := rfl
theorem ps_5 : ps tk tv (f + 1) 5 o i t = pB (ps tk tv f 7 o i t) (fun a j => ps tk tv f 6 o j a) := rfl
theorem ps_6 : ps tk tv (f + 1) 6 o i t = if addK (tk i) = 0 then .inr (t, i) else pB (ps tk tv f 7 o (i + 1) t) (fun b j => ps tk tv f 6 o j (tB (addK (tk i)) t b)) := rfl
theorem ps_7 : ps tk tv (f + 1) 7 o i t = pB (ps tk tv f 9 o i t) (fun a j => ps tk tv f 8 o j a) := rfl
theorem ps_8 : ps tk tv (f + 1) 8 o i t = if mulK (tk i) = 0 then .inr (t, i) else pB (ps tk tv f 9 o (i + 1) t) (fun b j => ps tk tv f 8 o j (tB (mulK (tk i)) t b)) := rfl
theorem ps_9 : ps tk tv (f + 1) 9 o i t = if tk i = 1 then (if 9999 < tv i then .inl (2, i) else .inr (.int (nI (tv i)), i + 1))
      else if 410 ≤ tk i ∧ tk i ≤ 417 then .inr (.arg (tk i - 410), i + 1)
      else if tk i = 40 ∨ tk i = 45 ∨ tk i = 405 then (if 8 ≤ o then .inl (3, i)
        else if tk i = 40 then pB (ps tk tv f 5 (o + 1) (i + 1) t) (fun a j => if tk j = 41 then .inr (a, j + 1) else .inl (1, j))
        else if tk i = 45 then pB (ps tk tv f 9 (o + 1) (i + 1) t) (fun a j => .inr (tU 2 a, j))
        else pB (ps tk tv f 0 (o + 1) (i + 1) t) (fun c j => if tk j = 63 then pB (ps tk tv f 5 (o + 1) (j + 1) t) (fun a m => if tk m = 58 then pB (ps tk tv f 5 (o + 1) (m + 1) t) (fun b u => if tk u = 406 then .inr (tC c a b, u + 1) else .inl (1, u)) else .inl (1, m)) else .inl (1, j)))
      else .inl (1, i) := rfl
end PS1
/-- how many steps the class makes of a tree -/
def cs : Term → Nat
  | .int _ => 1
  | .arg _ => 1
  | .sub (.index _) a => cs a + 1
  | .add (.index _) (.elem a b) => cs a + cs b + 1
  | .mul c (.elem a b) => cs c + cs a + cs b + 3
  | _ => 0
theorem cs_B {k : Nat} {a b : Term} : cs (tB k a b) = cs a + cs b + 1 := rfl
theorem cs_U {k : Nat} {a : Term} : cs (tU k a) = cs a + 1 := rfl
theorem cs_C {c a b : Term} : cs (tC c a b) = cs c + cs a + cs b + 3 := rfl
theorem pf_cs : ∀ (t : Term) (s : Bool), wf t s → (pf t).length ≤ cs t
  | .int v, _, _ => Nat.le_refl 1
  | .arg i, _, _ => Nat.le_refl 1
  | .sub (.index k) a, s, h => by
    show (pf a ++ [(k, 0)]).length ≤ cs a + 1
    rw [List.length_append, List.length_singleton]
    have : ∃ s', wf a s' := by
      unfold wf at h
      split at h
      · exact ⟨_, h.2⟩
      · exact ⟨_, h.2⟩
    obtain ⟨s', hs⟩ := this
    have := pf_cs a s' hs
    omega
  | .add (.index k) (.elem a b), s, h => by
    show (pf a ++ (pf b ++ [(k, 0)])).length ≤ cs a + cs b + 1
    rw [List.length_append, List.length_append, List.length_singleton]
    have : ∃ s', wf a s' ∧ wf b s' := by
      unfold wf at h
      split at h
      · rcases h with h | h
        · exact ⟨_, h.2.2⟩
        · exact ⟨_, h.2⟩
      · exact ⟨_, h.2.2⟩
    obtain ⟨s', h1, h2⟩ := this
    have := pf_cs a s' h1
    have := pf_cs b s' h2
    omega
  | .mul c (.elem a b), s, h => by
    show (pf c ++ (pf a ++ (pf b ++ [(23, 0)]))).length ≤ cs c + cs a + cs b + 3
    rw [List.length_append, List.length_append, List.length_append, List.length_singleton]
    have := pf_cs c true h.2.1
    have := pf_cs a false h.2.2.1
    have := pf_cs b false h.2.2.2
    omega
theorem wf_cmp {k : Nat} {a b : Term} (h1 : 10 ≤ k) (h2 : k ≤ 15) (ha : wf a false) (hb : wf b false) : wf (tB k a b) true := by
  show (if true = true then (10 ≤ k ∧ k ≤ 15 ∧ wf a false ∧ wf b false) ∨ ((k = 21 ∨ k = 22) ∧ wf a true ∧ wf b true) else _)
  rw [if_pos rfl]
  exact Or.inl ⟨h1, h2, ha, hb⟩
theorem wf_lg {k : Nat} {a b : Term} (h1 : k = 21 ∨ k = 22) (ha : wf a true) (hb : wf b true) : wf (tB k a b) true := by
  show (if true = true then (10 ≤ k ∧ k ≤ 15 ∧ wf a false ∧ wf b false) ∨ ((k = 21 ∨ k = 22) ∧ wf a true ∧ wf b true) else _)
  rw [if_pos rfl]
  exact Or.inr ⟨h1, ha, hb⟩
theorem wf_ar {k : Nat} {a b : Term} (h1 : 3 ≤ k) (h2 : k ≤ 6) (ha : wf a false) (hb : wf b false) : wf (tB k a b) false := by
  show (if false = true then _ else 3 ≤ k ∧ k ≤ 6 ∧ wf a false ∧ wf b false)
  rw [if_neg (by decide)]
  exact ⟨h1, h2, ha, hb⟩
theorem wf_no {a : Term} (ha : wf a true) : wf (tU 20 a) true := by
  show (if true = true then 20 = 20 ∧ wf a true else _)
  rw [if_pos rfl]
  exact ⟨rfl, ha⟩
theorem wf_mi {a : Term} (ha : wf a false) : wf (tU 2 a) false := by
  show (if false = true then _ else 2 = 2 ∧ wf a false)
  rw [if_neg (by decide)]
  exact ⟨rfl, ha⟩
theorem wf_ch {c a b : Term} (hc : wf c true) (ha : wf a false) (hb : wf b false) : wf (tC c a b) false := ⟨rfl, hc, ha, hb⟩
theorem cmpK_r {c : Nat} (h : cmpK c ≠ 0) : 10 ≤ cmpK c ∧ cmpK c ≤ 15 ∧ c ≠ 0 := by
  unfold cmpK at *
  repeat' split
  all_goals first | omega | (exfalso; revert h; simp_all)
theorem addK_r {c : Nat} (h : addK c ≠ 0) : 3 ≤ addK c ∧ addK c ≤ 4 ∧ c ≠ 0 := by
  unfold addK at *
  repeat' split
  all_goals first | omega | (exfalso; revert h; simp_all)
theorem mulK_r {c : Nat} (h : mulK c ≠ 0) : 5 ≤ mulK c ∧ mulK c ≤ 6 ∧ c ≠ 0 := by
  unfold mulK at *
  repeat' split
  all_goals first | omega | (exfalso; revert h; simp_all)
def lmB (m : Nat) : Bool := decide (m = 1 ∨ m = 3 ∨ m = 6 ∨ m = 8)
/-- what a reading gives: a fault that the document knows, or a tree of the right sort that is no longer than the tokens -/
def psG (tp : Nat → Nat) (m i : Nat) (t : Term) (r : pR) : Prop := match r with
  | .inl (e, j) => (e = 1 ∨ e = 2 ∨ e = 3) ∧ i ≤ j ∧ j ≤ tp j
  | .inr (t', j) => i ≤ j ∧ (lmB m = false → i < j) ∧ j ≤ tp j ∧ wf t' (decide (m < 5)) ∧ cs t' + i ≤ (if lmB m then cs t else 0) + j
theorem psG_B {tp : Nat → Nat} {m i : Nat} {t : Term} {m' i' : Nat} {t0 : Term} {r : pR} {k : Term → Nat → pR} (h : psG tp m' i' t0 r) (hi : i ≤ i') (hk : ∀ a j, r = .inr (a, j) → i' ≤ j ∧ (lmB m' = false → i' < j) ∧ j ≤ tp j ∧ wf a (decide (m' < 5)) ∧ cs a + i' ≤ (if lmB m' then cs t0 else 0) + j → psG tp m i t (k a j)) : psG tp m i t (pB r k) := by
  match r with
  | .inl (e, j) => exact ⟨h.1, Nat.le_trans hi h.2.1, h.2.2⟩
  | .inr (a, j) => exact hk a j rfl h
section PS2
variable {tk tv tp : Nat → Nat} {n : Nat}
theorem ps_G (hs : ∀ i, i ≤ tp i → tk i ≠ 0 → i + 1 ≤ tp (i + 1)) (hn : ∀ i, i ≤ tp i → i ≤ n) : ∀ (f m o i : Nat) (t : Term), m ≤ 9 → i ≤ tp i → 10 * (n + 1 - i) + (9 - m) < f → (lmB m = true → wf t (decide (m < 5))) → psG tp m i t (ps tk tv f m o i t) := by
  intro f
  induction f with
  | zero => intro m o i t _ _ h; omega
  | succ f ih =>
    intro m o i t hm hi hf hw
    have hin := hn i hi
    rcases (show m = 0 ∨ m = 1 ∨ m = 2 ∨ m = 3 ∨ m = 4 ∨ m = 5 ∨ m = 6 ∨ m = 7 ∨ m = 8 ∨ m = 9 by omega) with rfl | rfl | rfl | rfl | rfl | rfl | rfl | rfl | rfl | rfl
    · rw [ps_0]
      refine psG_B (ih 2 o i t (by omega) hi (by omega) (fun a => nomatch a)) (Nat.le_refl _) (fun a j _ ⟨h1, h2, h3, h4, h5⟩ => ?_)
      have h2 := h2 rfl
      have hj := hn j h3
      have := ih 1 o j a (by omega) h3 (by omega) (fun _ => h4)
      match hr : ps tk tv f 1 o j a with
      | .inl (e, u) => rw [hr] at this; exact ⟨this.1, by have := this.2.1; omega, this.2.2⟩
      | .inr (a', u) =>
        rw [hr] at this
        obtain ⟨g1, g2, g3, g4, g5⟩ := this
        have g5 : cs a' + j ≤ cs a + u := g5
        have h5 : cs a + i ≤ 0 + j := h5
        exact ⟨by omega, fun _ => by omega, g3, g4, by show cs a' + i ≤ 0 + u; omega⟩
    · rw [ps_1]
      split
      · rename_i ht
        have h1 := hs i hi (by omega)
        have hin1 := hn (i + 1) h1
        refine psG_B (ih 2 o (i + 1) t (by omega) h1 (by omega) (fun a => nomatch a)) (by omega) (fun a j _ ⟨h1, h2, h3, h4, h5⟩ => ?_)
        have h2 := h2 rfl
        have hj := hn j h3
        have := ih 1 o j (tB 22 t a) (by omega) h3 (by omega) (fun _ => wf_lg (Or.inr rfl) (hw rfl) h4)
        match hr : ps tk tv f 1 o j (tB 22 t a) with
        | .inl (e, u) => rw [hr] at this; exact ⟨this.1, by have := this.2.1; omega, this.2.2⟩
        | .inr (a', u) =>
          rw [hr] at this
          obtain ⟨g1, g2, g3, g4, g5⟩ := this
          have g5 : cs a' + j ≤ (cs t + cs a + 1) + u := g5
          have h5 : cs a + (i + 1) ≤ 0 + j := h5
          exact ⟨by omega, (fun q => (nomatch q)), g3, g4, by show cs a' + i ≤ cs t + u; omega⟩
      · exact ⟨Nat.le_refl _, (fun q => (nomatch q)), hi, hw rfl, by show cs t + i ≤ cs t + i; omega⟩
    · rw [ps_2]
      refine psG_B (ih 4 o i t (by omega) hi (by omega) (fun a => nomatch a)) (Nat.le_refl _) (fun a j _ ⟨h1, h2, h3, h4, h5⟩ => ?_)
      have h2 := h2 rfl
      have hj := hn j h3
      have := ih 3 o j a (by omega) h3 (by omega) (fun _ => h4)
      match hr : ps tk tv f 3 o j a with
      | .inl (e, u) => rw [hr] at this; exact ⟨this.1, by have := this.2.1; omega, this.2.2⟩
      | .inr (a', u) =>
        rw [hr] at this
        obtain ⟨g1, g2, g3, g4, g5⟩ := this
        have g5 : cs a' + j ≤ cs a + u := g5
        have h5 : cs a + i ≤ 0 + j := h5
        exact ⟨by omega, fun _ => by omega, g3, g4, by show cs a' + i ≤ 0 + u; omega⟩
    · rw [ps_3]
      split
      · rename_i ht
        have h1 := hs i hi (by omega)
        have hin1 := hn (i + 1) h1
        refine psG_B (ih 4 o (i + 1) t (by omega) h1 (by omega) (fun a => nomatch a)) (by omega) (fun a j _ ⟨h1, h2, h3, h4, h5⟩ => ?_)
        have h2 := h2 rfl
        have hj := hn j h3
        have := ih 3 o j (tB 21 t a) (by omega) h3 (by omega) (fun _ => wf_lg (Or.inl rfl) (hw rfl) h4)
        match hr : ps tk tv f 3 o j (tB 21 t a) with
        | .inl (e, u) => rw [hr] at this; exact ⟨this.1, by have := this.2.1; omega, this.2.2⟩
        | .inr (a', u) =>
          rw [hr] at this
          obtain ⟨g1, g2, g3, g4, g5⟩ := this
          have g5 : cs a' + j ≤ (cs t + cs a + 1) + u := g5
          have h5 : cs a + (i + 1) ≤ 0 + j := h5
          exact ⟨by omega, (fun q => (nomatch q)), g3, g4, by show cs a' + i ≤ cs t + u; omega⟩
      · exact ⟨Nat.le_refl _, (fun q => (nomatch q)), hi, hw rfl, by show cs t + i ≤ cs t + i; omega⟩
    · rw [ps_4]
      split
      · rename_i ht
        split
        · exact ⟨Or.inr (Or.inr rfl), Nat.le_refl _, hi⟩
        · have h1 := hs i hi (by omega)
          have hin1 := hn (i + 1) h1
          refine psG_B (ih 4 (o + 1) (i + 1) t (by omega) h1 (by omega) (fun a => nomatch a)) (by omega) (fun a j _ ⟨h1, h2, h3, h4, h5⟩ => ?_)
          have h2 := h2 rfl
          have h5 : cs a + (i + 1) ≤ 0 + j := h5
          exact ⟨by omega, fun _ => by omega, h3, wf_no h4, by show cs a + 1 + i ≤ 0 + j; omega⟩
      · refine psG_B (ih 5 o i t (by omega) hi (by omega) (fun a => nomatch a)) (Nat.le_refl _) (fun a j _ ⟨h1, h2, h3, h4, h5⟩ => ?_)
        have h2 := h2 rfl
        have hj := hn j h3
        split
        · exact ⟨Or.inl rfl, by omega, h3⟩
        · rename_i hc
          have hc := cmpK_r hc
          have k1 := hs j h3 hc.2.2
          have hin1 := hn (j + 1) k1
          refine psG_B (ih 5 o (j + 1) t (by omega) k1 (by omega) (fun a => nomatch a)) (by omega) (fun b u _ ⟨g1, g2, g3, g4, g5⟩ => ?_)
          have g2 := g2 rfl
          have h5 : cs a + i ≤ 0 + j := h5
          have g5 : cs b + (j + 1) ≤ 0 + u := g5
          exact ⟨by omega, fun _ => by omega, g3, wf_cmp hc.1 hc.2.1 h4 g4, by show cs a + cs b + 1 + i ≤ 0 + u; omega⟩
    · rw [ps_5]
      refine psG_B (ih 7 o i t (by omega) hi (by omega) (fun a => nomatch a)) (Nat.le_refl _) (fun a j _ ⟨h1, h2, h3, h4, h5⟩ => ?_)
      have h2 := h2 rfl
      have hj := hn j h3
      have := ih 6 o j a (by omega) h3 (by omega) (fun _ => h4)
      match hr : ps tk tv f 6 o j a with
      | .inl (e, u) => rw [hr] at this; exact ⟨this.1, by have := this.2.1; omega, this.2.2⟩
      | .inr (a', u) =>
        rw [hr] at this
        obtain ⟨g1, g2, g3, g4, g5⟩ := this
        have g5 : cs a' + j ≤ cs a + u := g5
        have h5 : cs a + i ≤ 0 + j := h5
        exact ⟨by omega, fun _ => by omega, g3, g4, by show cs a' + i ≤ 0 + u; omega⟩
    · rw [ps_6]
      split
      · exact ⟨Nat.le_refl _, (fun q => (nomatch q)), hi, hw rfl, by show cs t + i ≤ cs t + i; omega⟩
      · rename_i hc
        have hc := addK_r hc
        have h1 := hs i hi hc.2.2
        have hin1 := hn (i + 1) h1
        refine psG_B (ih 7 o (i + 1) t (by omega) h1 (by omega) (fun a => nomatch a)) (by omega) (fun a j _ ⟨h1, h2, h3, h4, h5⟩ => ?_)
        have h2 := h2 rfl
        have hj := hn j h3
        have := ih 6 o j (tB (addK (tk i)) t a) (by omega) h3 (by omega) (fun _ => wf_ar hc.1 (by omega) (hw rfl) h4)
        match hr : ps tk tv f 6 o j (tB (addK (tk i)) t a) with
        | .inl (e, u) => rw [hr] at this; exact ⟨this.1, by have := this.2.1; omega, this.2.2⟩
        | .inr (a', u) =>
          rw [hr] at this
          obtain ⟨g1, g2, g3, g4, g5⟩ := this
          have g5 : cs a' + j ≤ (cs t + cs a + 1) + u := g5
          have h5 : cs a + (i + 1) ≤ 0 + j := h5
          exact ⟨by omega, (fun q => (nomatch q)), g3, g4, by show cs a' + i ≤ cs t + u; omega⟩
    · rw [ps_7]
      refine psG_B (ih 9 o i t (by omega) hi (by omega) (fun a => nomatch a)) (Nat.le_refl _) (fun a j _ ⟨h1, h2, h3, h4, h5⟩ => ?_)
      have h2 := h2 rfl
      have hj := hn j h3
      have := ih 8 o j a (by omega) h3 (by omega) (fun _ => h4)
      match hr : ps tk tv f 8 o j a with
      | .inl (e, u) => rw [hr] at this; exact ⟨this.1, by have := this.2.1; omega, this.2.2⟩
      | .inr (a', u) =>
        rw [hr] at this
        obtain ⟨g1, g2, g3, g4, g5⟩ := this
        have g5 : cs a' + j ≤ cs a + u := g5
        have h5 : cs a + i ≤ 0 + j := h5
        exact ⟨by omega, fun _ => by omega, g3, g4, by show cs a' + i ≤ 0 + u; omega⟩
    · rw [ps_8]
      split
      · exact ⟨Nat.le_refl _, (fun q => (nomatch q)), hi, hw rfl, by show cs t + i ≤ cs t + i; omega⟩
      · rename_i hc
        have hc := mulK_r hc
        have h1 := hs i hi hc.2.2
        have hin1 := hn (i + 1) h1
        refine psG_B (ih 9 o (i + 1) t (by omega) h1 (by omega) (fun a => nomatch a)) (by omega) (fun a j _ ⟨h1, h2, h3, h4, h5⟩ => ?_)
        have h2 := h2 rfl
        have hj := hn j h3
        have := ih 8 o j (tB (mulK (tk i)) t a) (by omega) h3 (by omega) (fun _ => wf_ar (by omega) (by omega) (hw rfl) h4)
        match hr : ps tk tv f 8 o j (tB (mulK (tk i)) t a) with
        | .inl (e, u) => rw [hr] at this; exact ⟨this.1, by have := this.2.1; omega, this.2.2⟩
        | .inr (a', u) =>
          rw [hr] at this
          obtain ⟨g1, g2, g3, g4, g5⟩ := this
          have g5 : cs a' + j ≤ (cs t + cs a + 1) + u := g5
          have h5 : cs a + (i + 1) ≤ 0 + j := h5
          exact ⟨by omega, (fun q => (nomatch q)), g3, g4, by show cs a' + i ≤ cs t + u; omega⟩
    · rw [ps_9]
      split
      · rename_i ht
        have h1 := hs i hi (by omega)
        split
        · exact ⟨Or.inr (Or.inl rfl), Nat.le_refl _, hi⟩
        · rename_i hv
          refine ⟨by omega, fun _ => by omega, h1, ⟨rfl, ?_⟩, by show 1 + i ≤ 0 + (i + 1); omega⟩
          rw [nI_i (by omega)]
          omega
      · split
        · rename_i ht
          have h1 := hs i hi (by omega)
          exact ⟨by omega, fun _ => by omega, h1, ⟨rfl, by omega⟩, by show 1 + i ≤ 0 + (i + 1); omega⟩
        · split
          · rename_i ht
            split
            · exact ⟨Or.inr (Or.inr rfl), Nat.le_refl _, hi⟩
            · have h1 := hs i hi (by omega)
              have hin1 := hn (i + 1) h1
              split
              · refine psG_B (ih 5 (o + 1) (i + 1) t (by omega) h1 (by omega) (fun a => nomatch a)) (by omega) (fun a j _ ⟨h1, h2, h3, h4, h5⟩ => ?_)
                have h2 := h2 rfl
                have h5 : cs a + (i + 1) ≤ 0 + j := h5
                split
                · rename_i hc
                  exact ⟨by omega, fun _ => by omega, hs j h3 (by omega), h4, by show cs a + i ≤ 0 + (j + 1); omega⟩
                · exact ⟨Or.inl rfl, by omega, h3⟩
              · split
                · refine psG_B (ih 9 (o + 1) (i + 1) t (by omega) h1 (by omega) (fun a => nomatch a)) (by omega) (fun a j _ ⟨h1, h2, h3, h4, h5⟩ => ?_)
                  have h2 := h2 rfl
                  have h5 : cs a + (i + 1) ≤ 0 + j := h5
                  exact ⟨by omega, fun _ => by omega, h3, wf_mi h4, by show cs a + 1 + i ≤ 0 + j; omega⟩
                · refine psG_B (ih 0 (o + 1) (i + 1) t (by omega) h1 (by omega) (fun a => nomatch a)) (by omega) (fun c j _ ⟨h1, h2, h3, h4, h5⟩ => ?_)
                  have h2 := h2 rfl
                  have h5 : cs c + (i + 1) ≤ 0 + j := h5
                  have hj := hn j h3
                  split
                  · have k1 := hs j h3 (by omega)
                    have hk1 := hn (j + 1) k1
                    refine psG_B (ih 5 (o + 1) (j + 1) t (by omega) k1 (by omega) (fun a => nomatch a)) (by omega) (fun a u _ ⟨g1, g2, g3, g4, g5⟩ => ?_)
                    have g2 := g2 rfl
                    have g5 : cs a + (j + 1) ≤ 0 + u := g5
                    have hu := hn u g3
                    split
                    · have k2 := hs u g3 (by omega)
                      have hk2 := hn (u + 1) k2
                      refine psG_B (ih 5 (o + 1) (u + 1) t (by omega) k2 (by omega) (fun a => nomatch a)) (by omega) (fun b v _ ⟨q1, q2, q3, q4, q5⟩ => ?_)
                      have q2 := q2 rfl
                      have q5 : cs b + (u + 1) ≤ 0 + v := q5
                      split
                      · exact ⟨by omega, fun _ => by omega, hs v q3 (by omega), wf_ch h4 g4 q4, by show cs c + cs a + cs b + 3 + i ≤ 0 + (v + 1); omega⟩
                      · exact ⟨Or.inl rfl, by omega, q3⟩
                    · exact ⟨Or.inl rfl, by omega, g3⟩
                  · exact ⟨Or.inl rfl, by omega, h3⟩
          · exact ⟨Or.inl rfl, Nat.le_refl _, hi⟩
end PS2
def hasK (s : Nat) (l : List (Nat × Term)) : Bool := match fndL s l with
  | none => false
  | some _ => true
/-- a whole text from token i on, with the clauses l so far -/
def rdS (tk tv : Nat → Nat) : Nat → Nat → List (Nat × Term) → (Nat × Nat) ⊕ List (Nat × Term)
  | 0, i, _ => .inl (9, i)
  | m + 1, i, l => if tk i = 0 then .inr l else if ¬ (400 ≤ tk i ∧ tk i ≤ 404) then .inl (1, i) else if tk i ≠ 404 ∧ hasK (tk i - 400) l = true then .inl (4, i) else if l.length = 12 then .inl (5, i)
    else match ps tk tv 3100 (if tk i = 404 then 0 else 5) 0 (i + 1) (.int 0) with
      | .inl e => .inl e
      | .inr (t, j) => if tk j = 59 then rdS tk tv m (j + 1) (l ++ [(tk i - 400, t)]) else .inl (1, j)
