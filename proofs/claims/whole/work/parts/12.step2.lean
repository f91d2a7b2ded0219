/-! branches; reads and writes -/
section XSTEP2
variable {G : xGl} {p : Program} {l : Launch} {e : Env} {R : Room} {s : State} {m : MethodId} {args : Array Value} {below : List Frame} {meth : Method} {c : Code} {Q : State → Prop} {nL : Nat} {cc : ByteArray} {pc : Nat} {k : xK} {L : xL} {S : List Value} {M : xM} {u : xU} {own : String} {jmp : Nat → xK} {pcs : List Nat}

theorem xtg_spec {pcs : List Nat} {pc b : Nat} {off : Int} (h : xtg pcs pc off b = true) : ∃ t, pcs[b]? = some t ∧ (pc : Int) + off = (t : Int) := by
  unfold xtg at h
  split at h
  · rename_i t ht; exact ⟨t, ht, by simpa using h⟩
  · cases h
theorem st_goto (hx : p.tables.exec = Jvm.exec) (hb : c.code = cc) {off : Int} {b mb : Nat} (hd : decode cc pc = .ok (.goto off, 3)) (ht : xtg pcs pc off b = true) (hj : ∀ b t L S M u, pcs[b]? = some t → jmp b L S M u → xGG G p l e R s m args below meth c Q nL t L S M u) (h : jmp b (xmask mb L) S M u) : xGG G p l e R s m args below meth c Q nL pc L S M u := by
  obtain ⟨t, h1, h2⟩ := xtg_spec ht
  intro H locs ls cells slots hH hL hq hc hs
  exact lv_goto hx hb hd h2 (hj b t _ _ _ _ h1 h H locs ls cells slots hH (xLv_mask mb hL) hq hc hs)
theorem st_ifCond_eq (hx : p.tables.exec = Jvm.exec) (hb : c.code = cc) {off : Int} {bt mt bf mf : Nat} (hd : decode cc pc = .ok (.ifCond .eq off, 3)) (ht : xtg pcs pc off bt = true) (hf : xtg pcs pc 3 bf = true) (hj : ∀ b t L S M u, pcs[b]? = some t → jmp b L S M u → xGG G p l e R s m args below meth c Q nL t L S M u) (h : x1I S (fun x S => xif (x = 0) jmp L S M u [bt, mt, bf, mf])) : xGG G p l e R s m args below meth c Q nL pc L S M u := by
  obtain ⟨t, h1, h2⟩ := xtg_spec ht
  obtain ⟨t', h1', h2'⟩ := xtg_spec hf
  have e3 : t' = pc + 3 := by omega
  subst e3
  unfold x1I at h
  split at h
  · unfold xif at h
    dsimp only at h
    intro H locs ls cells slots hH hL hq hc hs
    refine lv_if_eq hx hb hd h2 (fun hcnd => ?_) (fun hcnd => ?_)
    · rw [if_pos hcnd] at h
      exact hj bt t _ _ _ _ h1 h H locs ls cells slots hH (xLv_mask mt hL) hq hc hs
    · rw [if_neg (hcnd)] at h
      exact hj bf _ _ _ _ _ h1' h H locs ls cells slots hH (xLv_mask mf hL) hq hc hs
  · exact h.elim
theorem st_if_icmp_eq (hx : p.tables.exec = Jvm.exec) (hb : c.code = cc) {off : Int} {bt mt bf mf : Nat} (hd : decode cc pc = .ok (.if_icmp .eq off, 3)) (ht : xtg pcs pc off bt = true) (hf : xtg pcs pc 3 bf = true) (hj : ∀ b t L S M u, pcs[b]? = some t → jmp b L S M u → xGG G p l e R s m args below meth c Q nL t L S M u) (h : x2I S (fun x y S => xif (x = y) jmp L S M u [bt, mt, bf, mf])) : xGG G p l e R s m args below meth c Q nL pc L S M u := by
  obtain ⟨t, h1, h2⟩ := xtg_spec ht
  obtain ⟨t', h1', h2'⟩ := xtg_spec hf
  have e3 : t' = pc + 3 := by omega
  subst e3
  unfold x2I at h
  split at h
  · unfold xif at h
    dsimp only at h
    intro H locs ls cells slots hH hL hq hc hs
    refine lv_icmp_eq hx hb hd h2 (fun hcnd => ?_) (fun hcnd => ?_)
    · rw [if_pos hcnd] at h
      exact hj bt t _ _ _ _ h1 h H locs ls cells slots hH (xLv_mask mt hL) hq hc hs
    · rw [if_neg (hcnd)] at h
      exact hj bf _ _ _ _ _ h1' h H locs ls cells slots hH (xLv_mask mf hL) hq hc hs
  · exact h.elim
theorem st_ifCond_ne (hx : p.tables.exec = Jvm.exec) (hb : c.code = cc) {off : Int} {bt mt bf mf : Nat} (hd : decode cc pc = .ok (.ifCond .ne off, 3)) (ht : xtg pcs pc off bt = true) (hf : xtg pcs pc 3 bf = true) (hj : ∀ b t L S M u, pcs[b]? = some t → jmp b L S M u → xGG G p l e R s m args below meth c Q nL t L S M u) (h : x1I S (fun x S => xif (¬ x = 0) jmp L S M u [bt, mt, bf, mf])) : xGG G p l e R s m args below meth c Q nL pc L S M u := by
  obtain ⟨t, h1, h2⟩ := xtg_spec ht
  obtain ⟨t', h1', h2'⟩ := xtg_spec hf
  have e3 : t' = pc + 3 := by omega
  subst e3
  unfold x1I at h
  split at h
  · unfold xif at h
    dsimp only at h
    intro H locs ls cells slots hH hL hq hc hs
    refine lv_if_ne hx hb hd h2 (fun hcnd => ?_) (fun hcnd => ?_)
    · rw [if_pos hcnd] at h
      exact hj bt t _ _ _ _ h1 h H locs ls cells slots hH (xLv_mask mt hL) hq hc hs
    · rw [if_neg (not_not_intro hcnd)] at h
      exact hj bf _ _ _ _ _ h1' h H locs ls cells slots hH (xLv_mask mf hL) hq hc hs
  · exact h.elim
theorem st_if_icmp_ne (hx : p.tables.exec = Jvm.exec) (hb : c.code = cc) {off : Int} {bt mt bf mf : Nat} (hd : decode cc pc = .ok (.if_icmp .ne off, 3)) (ht : xtg pcs pc off bt = true) (hf : xtg pcs pc 3 bf = true) (hj : ∀ b t L S M u, pcs[b]? = some t → jmp b L S M u → xGG G p l e R s m args below meth c Q nL t L S M u) (h : x2I S (fun x y S => xif (¬ x = y) jmp L S M u [bt, mt, bf, mf])) : xGG G p l e R s m args below meth c Q nL pc L S M u := by
  obtain ⟨t, h1, h2⟩ := xtg_spec ht
  obtain ⟨t', h1', h2'⟩ := xtg_spec hf
  have e3 : t' = pc + 3 := by omega
  subst e3
  unfold x2I at h
  split at h
  · unfold xif at h
    dsimp only at h
    intro H locs ls cells slots hH hL hq hc hs
    refine lv_icmp_ne hx hb hd h2 (fun hcnd => ?_) (fun hcnd => ?_)
    · rw [if_pos hcnd] at h
      exact hj bt t _ _ _ _ h1 h H locs ls cells slots hH (xLv_mask mt hL) hq hc hs
    · rw [if_neg (not_not_intro hcnd)] at h
      exact hj bf _ _ _ _ _ h1' h H locs ls cells slots hH (xLv_mask mf hL) hq hc hs
  · exact h.elim
theorem st_ifCond_lt (hx : p.tables.exec = Jvm.exec) (hb : c.code = cc) {off : Int} {bt mt bf mf : Nat} (hd : decode cc pc = .ok (.ifCond .lt off, 3)) (ht : xtg pcs pc off bt = true) (hf : xtg pcs pc 3 bf = true) (hj : ∀ b t L S M u, pcs[b]? = some t → jmp b L S M u → xGG G p l e R s m args below meth c Q nL t L S M u) (h : x1I S (fun x S => xif (x < 0) jmp L S M u [bt, mt, bf, mf])) : xGG G p l e R s m args below meth c Q nL pc L S M u := by
  obtain ⟨t, h1, h2⟩ := xtg_spec ht
  obtain ⟨t', h1', h2'⟩ := xtg_spec hf
  have e3 : t' = pc + 3 := by omega
  subst e3
  unfold x1I at h
  split at h
  · unfold xif at h
    dsimp only at h
    intro H locs ls cells slots hH hL hq hc hs
    refine lv_if_lt hx hb hd h2 (fun hcnd => ?_) (fun hcnd => ?_)
    · rw [if_pos hcnd] at h
      exact hj bt t _ _ _ _ h1 h H locs ls cells slots hH (xLv_mask mt hL) hq hc hs
    · rw [if_neg (hcnd)] at h
      exact hj bf _ _ _ _ _ h1' h H locs ls cells slots hH (xLv_mask mf hL) hq hc hs
  · exact h.elim
theorem st_if_icmp_lt (hx : p.tables.exec = Jvm.exec) (hb : c.code = cc) {off : Int} {bt mt bf mf : Nat} (hd : decode cc pc = .ok (.if_icmp .lt off, 3)) (ht : xtg pcs pc off bt = true) (hf : xtg pcs pc 3 bf = true) (hj : ∀ b t L S M u, pcs[b]? = some t → jmp b L S M u → xGG G p l e R s m args below meth c Q nL t L S M u) (h : x2I S (fun x y S => xif (x < y) jmp L S M u [bt, mt, bf, mf])) : xGG G p l e R s m args below meth c Q nL pc L S M u := by
  obtain ⟨t, h1, h2⟩ := xtg_spec ht
  obtain ⟨t', h1', h2'⟩ := xtg_spec hf
  have e3 : t' = pc + 3 := by omega
  subst e3
  unfold x2I at h
  split at h
  · unfold xif at h
    dsimp only at h
    intro H locs ls cells slots hH hL hq hc hs
    refine lv_icmp_lt hx hb hd h2 (fun hcnd => ?_) (fun hcnd => ?_)
    · rw [if_pos hcnd] at h
      exact hj bt t _ _ _ _ h1 h H locs ls cells slots hH (xLv_mask mt hL) hq hc hs
    · rw [if_neg (hcnd)] at h
      exact hj bf _ _ _ _ _ h1' h H locs ls cells slots hH (xLv_mask mf hL) hq hc hs
  · exact h.elim
theorem st_ifCond_ge (hx : p.tables.exec = Jvm.exec) (hb : c.code = cc) {off : Int} {bt mt bf mf : Nat} (hd : decode cc pc = .ok (.ifCond .ge off, 3)) (ht : xtg pcs pc off bt = true) (hf : xtg pcs pc 3 bf = true) (hj : ∀ b t L S M u, pcs[b]? = some t → jmp b L S M u → xGG G p l e R s m args below meth c Q nL t L S M u) (h : x1I S (fun x S => xif (0 ≤ x) jmp L S M u [bt, mt, bf, mf])) : xGG G p l e R s m args below meth c Q nL pc L S M u := by
  obtain ⟨t, h1, h2⟩ := xtg_spec ht
  obtain ⟨t', h1', h2'⟩ := xtg_spec hf
  have e3 : t' = pc + 3 := by omega
  subst e3
  unfold x1I at h
  split at h
  · unfold xif at h
    dsimp only at h
    intro H locs ls cells slots hH hL hq hc hs
    refine lv_if_ge hx hb hd h2 (fun hcnd => ?_) (fun hcnd => ?_)
    · rw [if_pos hcnd] at h
      exact hj bt t _ _ _ _ h1 h H locs ls cells slots hH (xLv_mask mt hL) hq hc hs
    · rw [if_neg (hcnd)] at h
      exact hj bf _ _ _ _ _ h1' h H locs ls cells slots hH (xLv_mask mf hL) hq hc hs
  · exact h.elim
theorem st_if_icmp_ge (hx : p.tables.exec = Jvm.exec) (hb : c.code = cc) {off : Int} {bt mt bf mf : Nat} (hd : decode cc pc = .ok (.if_icmp .ge off, 3)) (ht : xtg pcs pc off bt = true) (hf : xtg pcs pc 3 bf = true) (hj : ∀ b t L S M u, pcs[b]? = some t → jmp b L S M u → xGG G p l e R s m args below meth c Q nL t L S M u) (h : x2I S (fun x y S => xif (y ≤ x) jmp L S M u [bt, mt, bf, mf])) : xGG G p l e R s m args below meth c Q nL pc L S M u := by
  obtain ⟨t, h1, h2⟩ := xtg_spec ht
  obtain ⟨t', h1', h2'⟩ := xtg_spec hf
  have e3 : t' = pc + 3 := by omega
  subst e3
  unfold x2I at h
  split at h
  · unfold xif at h
    dsimp only at h
    intro H locs ls cells slots hH hL hq hc hs
    refine lv_icmp_ge hx hb hd h2 (fun hcnd => ?_) (fun hcnd => ?_)
    · rw [if_pos hcnd] at h
      exact hj bt t _ _ _ _ h1 h H locs ls cells slots hH (xLv_mask mt hL) hq hc hs
    · rw [if_neg (hcnd)] at h
      exact hj bf _ _ _ _ _ h1' h H locs ls cells slots hH (xLv_mask mf hL) hq hc hs
  · exact h.elim
theorem st_ifCond_gt (hx : p.tables.exec = Jvm.exec) (hb : c.code = cc) {off : Int} {bt mt bf mf : Nat} (hd : decode cc pc = .ok (.ifCond .gt off, 3)) (ht : xtg pcs pc off bt = true) (hf : xtg pcs pc 3 bf = true) (hj : ∀ b t L S M u, pcs[b]? = some t → jmp b L S M u → xGG G p l e R s m args below meth c Q nL t L S M u) (h : x1I S (fun x S => xif (0 < x) jmp L S M u [bt, mt, bf, mf])) : xGG G p l e R s m args below meth c Q nL pc L S M u := by
  obtain ⟨t, h1, h2⟩ := xtg_spec ht
  obtain ⟨t', h1', h2'⟩ := xtg_spec hf
  have e3 : t' = pc + 3 := by omega
  subst e3
  unfold x1I at h
  split at h
  · unfold xif at h
    dsimp only at h
    intro H locs ls cells slots hH hL hq hc hs
    refine lv_if_gt hx hb hd h2 (fun hcnd => ?_) (fun hcnd => ?_)
    · rw [if_pos hcnd] at h
      exact hj bt t _ _ _ _ h1 h H locs ls cells slots hH (xLv_mask mt hL) hq hc hs
    · rw [if_neg (hcnd)] at h
      exact hj bf _ _ _ _ _ h1' h H locs ls cells slots hH (xLv_mask mf hL) hq hc hs
  · exact h.elim
theorem st_if_icmp_gt (hx : p.tables.exec = Jvm.exec) (hb : c.code = cc) {off : Int} {bt mt bf mf : Nat} (hd : decode cc pc = .ok (.if_icmp .gt off, 3)) (ht : xtg pcs pc off bt = true) (hf : xtg pcs pc 3 bf = true) (hj : ∀ b t L S M u, pcs[b]? = some t → jmp b L S M u → xGG G p l e R s m args below meth c Q nL t L S M u) (h : x2I S (fun x y S => xif (y < x) jmp L S M u [bt, mt, bf, mf])) : xGG G p l e R s m args below meth c Q nL pc L S M u := by
  obtain ⟨t, h1, h2⟩ := xtg_spec ht
  obtain ⟨t', h1', h2'⟩ := xtg_spec hf
  have e3 : t' = pc + 3 := by omega
  subst e3
  unfold x2I at h
  split at h
  · unfold xif at h
    dsimp only at h
    intro H locs ls cells slots hH hL hq hc hs
    refine lv_icmp_gt hx hb hd h2 (fun hcnd => ?_) (fun hcnd => ?_)
    · rw [if_pos hcnd] at h
      exact hj bt t _ _ _ _ h1 h H locs ls cells slots hH (xLv_mask mt hL) hq hc hs
    · rw [if_neg (hcnd)] at h
      exact hj bf _ _ _ _ _ h1' h H locs ls cells slots hH (xLv_mask mf hL) hq hc hs
  · exact h.elim
theorem st_ifCond_le (hx : p.tables.exec = Jvm.exec) (hb : c.code = cc) {off : Int} {bt mt bf mf : Nat} (hd : decode cc pc = .ok (.ifCond .le off, 3)) (ht : xtg pcs pc off bt = true) (hf : xtg pcs pc 3 bf = true) (hj : ∀ b t L S M u, pcs[b]? = some t → jmp b L S M u → xGG G p l e R s m args below meth c Q nL t L S M u) (h : x1I S (fun x S => xif (x ≤ 0) jmp L S M u [bt, mt, bf, mf])) : xGG G p l e R s m args below meth c Q nL pc L S M u := by
  obtain ⟨t, h1, h2⟩ := xtg_spec ht
  obtain ⟨t', h1', h2'⟩ := xtg_spec hf
  have e3 : t' = pc + 3 := by omega
  subst e3
  unfold x1I at h
  split at h
  · unfold xif at h
    dsimp only at h
    intro H locs ls cells slots hH hL hq hc hs
    refine lv_if_le hx hb hd h2 (fun hcnd => ?_) (fun hcnd => ?_)
    · rw [if_pos hcnd] at h
      exact hj bt t _ _ _ _ h1 h H locs ls cells slots hH (xLv_mask mt hL) hq hc hs
    · rw [if_neg (hcnd)] at h
      exact hj bf _ _ _ _ _ h1' h H locs ls cells slots hH (xLv_mask mf hL) hq hc hs
  · exact h.elim
theorem st_if_icmp_le (hx : p.tables.exec = Jvm.exec) (hb : c.code = cc) {off : Int} {bt mt bf mf : Nat} (hd : decode cc pc = .ok (.if_icmp .le off, 3)) (ht : xtg pcs pc off bt = true) (hf : xtg pcs pc 3 bf = true) (hj : ∀ b t L S M u, pcs[b]? = some t → jmp b L S M u → xGG G p l e R s m args below meth c Q nL t L S M u) (h : x2I S (fun x y S => xif (x ≤ y) jmp L S M u [bt, mt, bf, mf])) : xGG G p l e R s m args below meth c Q nL pc L S M u := by
  obtain ⟨t, h1, h2⟩ := xtg_spec ht
  obtain ⟨t', h1', h2'⟩ := xtg_spec hf
  have e3 : t' = pc + 3 := by omega
  subst e3
  unfold x2I at h
  split at h
  · unfold xif at h
    dsimp only at h
    intro H locs ls cells slots hH hL hq hc hs
    refine lv_icmp_le hx hb hd h2 (fun hcnd => ?_) (fun hcnd => ?_)
    · rw [if_pos hcnd] at h
      exact hj bt t _ _ _ _ h1 h H locs ls cells slots hH (xLv_mask mt hL) hq hc hs
    · rw [if_neg (hcnd)] at h
      exact hj bf _ _ _ _ _ h1' h H locs ls cells slots hH (xLv_mask mf hL) hq hc hs
  · exact h.elim
theorem xrng_toInt {k : Int} (h : xrng k = true) : (Int32.ofInt k).toInt = k := by
  simp only [xrng, Bool.and_eq_true, decide_eq_true_eq] at h
  exact Int32.toInt_ofInt_of_le (by simpa using h.1) (by have := h.2; simpa using this)
theorem xtgs_at {pcs : List Nat} {pc : Nat} : ∀ (os : List Int) (ts : List Nat) (j : Nat) (o : Int), xtgs pcs pc os ts = true → os[j]? = some o → ∃ b mb, ts[2 * j]? = some b ∧ ts[2 * j + 1]? = some mb ∧ xtg pcs pc o b = true
  | [], _, j, o, _, h => by simp at h
  | o0 :: os, [], j, o, h, _ => by simp [xtgs] at h
  | o0 :: os, [_], j, o, h, _ => by simp [xtgs] at h
  | o0 :: os, b :: mb :: ts, 0, o, h, h1 => by
    simp only [xtgs, Bool.and_eq_true] at h
    simp at h1
    subst h1
    exact ⟨b, mb, rfl, rfl, h.1⟩
  | o0 :: os, b :: mb :: ts, j + 1, o, h, h1 => by
    simp only [xtgs, Bool.and_eq_true] at h
    simp only [List.getElem?_cons_succ] at h1
    obtain ⟨b', mb', g1, g2, g3⟩ := xtgs_at os ts j o h.2 h1
    exact ⟨b', mb', by rw [show 2 * (j + 1) = 2 * j + 1 + 1 by omega]; simpa using g1, by rw [show 2 * (j + 1) + 1 = 2 * j + 1 + 1 + 1 by omega]; simpa using g2, g3⟩
theorem xtgs_len {pcs : List Nat} {pc : Nat} : ∀ (os : List Int) (ts : List Nat), xtgs pcs pc os ts = true → ts.length = 2 * os.length
  | [], [], _ => rfl
  | [], _ :: _, h => by simp [xtgs] at h
  | o0 :: os, [], h => by simp [xtgs] at h
  | o0 :: os, [_], h => by simp [xtgs] at h
  | o0 :: os, b :: mb :: ts, h => by
    simp only [xtgs, Bool.and_eq_true] at h
    have := xtgs_len os ts h.2
    simp; omega
/-- which way a table's switch goes -/
theorem xsw_way {L : xL} {S : List Value} {M : xM} {u : xU} {x : Int32} {d md : Nat} : ∀ (lo : Int) (ts : List Nat) (n : Nat), ts.length = 2 * n → xrng lo = true → xrng (lo + n) = true → xsw jmp L S M u x d md lo ts →
    (∃ j : Nat, j < n ∧ x.toInt = lo + j ∧ ∀ b mb, ts[2 * j]? = some b → ts[2 * j + 1]? = some mb → jmp b (xmask mb L) S M u) ∨ ((x.toInt < lo ∨ lo + n ≤ x.toInt) ∧ jmp d (xmask md L) S M u)
  | lo, [], n, hn, _, _, h => by
    have : n = 0 := by simp at hn; omega
    subst this
    refine Or.inr ⟨by omega, ?_⟩
    simpa [xsw] using h
  | lo, [_], n, hn, _, _, _ => by simp at hn; omega
  | lo, t :: mt :: ts, n, hn, hlo, hhi, h => by
    obtain ⟨n', rfl⟩ : ∃ n', n = n' + 1 := ⟨n - 1, by simp at hn; omega⟩
    unfold xsw at h
    split at h
    · rename_i hx
      refine Or.inl ⟨0, by omega, ?_, fun b mb h1 h2 => ?_⟩
      · rw [hx, xrng_toInt hlo]; simp
      · simp at h1 h2; subst h1; subst h2; exact h
    · rename_i hx
      have hne : ¬ x.toInt = lo := fun q => hx (Int32.toInt_inj.mp (by rw [q, xrng_toInt hlo]))
      have hlo' : xrng (lo + 1) = true := by
        simp only [xrng, Bool.and_eq_true, decide_eq_true_eq] at hlo hhi ⊢
        omega
      have hhi' : xrng (lo + 1 + n') = true := by
        rw [show lo + 1 + (n' : Int) = lo + ((n' + 1 : Nat) : Int) by omega]; exact hhi
      rcases xsw_way (lo + 1) ts n' (by simp at hn; omega) hlo' hhi' h with ⟨j, g1, g2, g3⟩ | ⟨g1, g2⟩
      · refine Or.inl ⟨j + 1, by omega, by rw [g2]; omega, fun b mb h1 h2 => g3 b mb ?_ ?_⟩
        · rw [show 2 * (j + 1) = 2 * j + 1 + 1 by omega] at h1; simpa using h1
        · rw [show 2 * (j + 1) + 1 = 2 * j + 1 + 1 + 1 by omega] at h2; simpa using h2
      · exact Or.inr ⟨by omega, g2⟩
theorem st_table (hx : p.tables.exec = Jvm.exec) (hb : c.code = cc) {df lo hi : Int} {offs : Array Int} {len d md : Nat} {ts : List Nat} (hd : decode cc pc = .ok (.tableswitch df lo hi offs, len)) (h0 : xtg pcs pc df d = true) (hlo : xrng lo = true) (hhi : xrng hi = true) (hn : hi + 1 = lo + offs.toList.length) (hts : xtgs pcs pc offs.toList ts = true) (hj : ∀ b t L S M u, pcs[b]? = some t → jmp b L S M u → xGG G p l e R s m args below meth c Q nL t L S M u) (hh : x1I S (fun x S => xsw jmp L S M u x d md lo ts)) : xGG G p l e R s m args below meth c Q nL pc L S M u := by
  unfold x1I at hh
  split at hh
  · rename_i x S'
    intro H locs ls cells slots hH hL hq hc hs
    cases ho : offs.toList.length with
    | zero =>
      have hts0 : ts = [] := List.eq_nil_of_length_eq_zero (by rw [xtgs_len _ _ hts, ho])
      subst hts0
      obtain ⟨t, h1, h2⟩ := xtg_spec h0
      rw [ho] at hn
      refine lv_tableOut hx hb hd (by omega) h2 ?_
      exact hj d t _ _ _ _ h1 (by simpa [xsw] using hh) H locs ls cells slots hH (xLv_mask md hL) hq hc hs
    | succ n0 =>
      rw [ho] at hn
      have hlast : lo + (n0 : Int) = hi := by omega
      have key : ∀ (lo : Int) (ts : List Nat) (n : Nat), ts.length = 2 * (n + 1) → xrng lo = true → xrng (lo + n) = true → xsw jmp L S' M u x d md lo ts →
          (∃ j : Nat, j < n + 1 ∧ x.toInt = lo + j ∧ ∀ b mb, ts[2 * j]? = some b → ts[2 * j + 1]? = some mb → jmp b (xmask mb L) S' M u) ∨ ((x.toInt < lo ∨ lo + n + 1 ≤ x.toInt) ∧ jmp d (xmask md L) S' M u) := by
        intro lo ts n
        induction n generalizing lo ts with
        | zero =>
          intro hl hr _ h
          match ts, hl with
          | [t, mt], _ =>
            unfold xsw at h
            split at h
            · rename_i hx'
              refine Or.inl ⟨0, by omega, by rw [hx', xrng_toInt hr]; simp, fun b mb h1 h2 => ?_⟩
              simp at h1 h2; subst h1; subst h2; exact h
            · rename_i hx'
              have hne : ¬ x.toInt = lo := fun q => hx' (Int32.toInt_inj.mp (by rw [q, xrng_toInt hr]))
              exact Or.inr ⟨by omega, by simpa [xsw] using h⟩
        | succ n ih =>
          intro hl hr hr2 h
          match ts, hl with
          | t :: mt :: ts, hl =>
            unfold xsw at h
            split at h
            · rename_i hx'
              refine Or.inl ⟨0, by omega, by rw [hx', xrng_toInt hr]; simp, fun b mb h1 h2 => ?_⟩
              simp at h1 h2; subst h1; subst h2; exact h
            · rename_i hx'
              have hne : ¬ x.toInt = lo := fun q => hx' (Int32.toInt_inj.mp (by rw [q, xrng_toInt hr]))
              have hr' : xrng (lo + 1) = true := by
                simp only [xrng, Bool.and_eq_true, decide_eq_true_eq] at hr hr2 ⊢
                omega
              have hr2' : xrng (lo + 1 + n) = true := by
                rw [show lo + 1 + (n : Int) = lo + ((n + 1 : Nat) : Int) by omega]; exact hr2
              rcases ih (lo + 1) ts (by simp at hl; omega) hr' hr2' h with ⟨j, g1, g2, g3⟩ | ⟨g1, g2⟩
              · refine Or.inl ⟨j + 1, by omega, by rw [g2]; omega, fun b mb h1 h2 => g3 b mb ?_ ?_⟩
                · rw [show 2 * (j + 1) = 2 * j + 1 + 1 by omega] at h1; simpa using h1
                · rw [show 2 * (j + 1) + 1 = 2 * j + 1 + 1 + 1 by omega] at h2; simpa using h2
              · exact Or.inr ⟨by omega, g2⟩
      rcases key lo ts n0 (by rw [xtgs_len _ _ hts, ho]) hlo (by rw [hlast]; exact hhi) hh with ⟨j, g1, g2, g3⟩ | ⟨g1, g2⟩
      · have hjl : j < offs.toList.length := by omega
        have hoj : offs.toList[j]? = some (offs.toList[j]) := List.getElem?_eq_getElem hjl
        obtain ⟨b, mb, f1, f2, f3⟩ := xtgs_at _ _ j _ hts hoj
        obtain ⟨t, t1, t2⟩ := xtg_spec f3
        refine lv_tableIn hx hb hd (off := offs.toList[j]) (by omega) (by omega) ?_ t2 ?_
        · rw [show (x.toInt - lo).toNat = j by omega, ← Array.getElem?_toList]; exact hoj
        · exact hj b t _ _ _ _ t1 (g3 b mb f1 f2) H locs ls cells slots hH (xLv_mask mb hL) hq hc hs
      · obtain ⟨t, h1, h2⟩ := xtg_spec h0
        refine lv_tableOut hx hb hd (by omega) h2 ?_
        exact hj d t _ _ _ _ h1 g2 H locs ls cells slots hH (xLv_mask md hL) hq hc hs
  · exact hh.elim
theorem st_lookup (hx : p.tables.exec = Jvm.exec) (hb : c.code = cc) {df : Int} {ps : Array (Int × Int)} {len d md : Nat} {ts : List Nat} (hd : decode cc pc = .ok (.lookupswitch df ps, len)) (h0 : xtg pcs pc df d = true) (hp : (ps.toList.zip (ps.toList.drop 1)).all (fun (a, next) => a.1 < next.1) = true) (hr : ps.toList.all (fun q => xrng q.1) = true) (hts : xtgs pcs pc (ps.toList.map (fun q => q.2)) ts = true) (hj : ∀ b t L S M u, pcs[b]? = some t → jmp b L S M u → xGG G p l e R s m args below meth c Q nL t L S M u) (hh : x1I S (fun x S => xlk jmp L S M u x d md ps.toList ts)) : xGG G p l e R s m args below meth c Q nL pc L S M u := by
  unfold x1I at hh
  split at hh
  · rename_i x S'
    have key : ∀ (qs : List (Int × Int)) (ts : List Nat), qs.all (fun q => xrng q.1) = true → xtgs pcs pc (qs.map (fun q => q.2)) ts = true → xlk jmp L S' M u x d md qs ts → ∃ b mb, xtg pcs pc (Op.lookupswitch.offset qs df x.toInt) b = true ∧ jmp b (xmask mb L) S' M u := by
      intro qs
      induction qs with
      | nil =>
        intro ts _ _ h
        unfold xlk at h
        exact ⟨d, md, by rw [show Op.lookupswitch.offset [] df x.toInt = df from rfl]; exact h0, h⟩
      | cons q qs ih =>
        intro ts hr hts h
        obtain ⟨a, o⟩ := q
        match ts with
        | [] => simp [xtgs] at hts
        | [_] => simp [xtgs] at hts
        | b :: mb :: ts =>
          simp only [List.map_cons, xtgs, Bool.and_eq_true] at hts
          simp only [List.all_cons, Bool.and_eq_true] at hr
          unfold xlk at h
          split at h
          · rename_i hx'
            refine ⟨b, mb, ?_, h⟩
            rw [Op.lookupswitch.offset_cons, if_pos (by rw [hx', xrng_toInt hr.1])]
            exact hts.1
          · rename_i hx'
            rw [lv_osw hx' (xrng_toInt hr.1)]
            exact ih ts hr.2 hts.2 h
    intro H locs ls cells slots hH hL hq hc hs
    obtain ⟨b, mb, g1, g2⟩ := key _ _ hr hts hh
    obtain ⟨t, t1, t2⟩ := xtg_spec g1
    exact lv_lookup hx hb hd hp rfl t2 (hj b t _ _ _ _ t1 g2 H locs ls cells slots hH (xLv_mask mb hL) hq hc hs)
  · exact hh.elim
end XSTEP2
