/-! one instruction: the small machine's step is the real one's -/
def xGG (G : xGl) (p : Program) (l : Launch) (e : Env) (R : Room) (s : State) (m : MethodId) (args : Array Value) (below : List Frame) (meth : Method) (c : Code) (Q : State → Prop) (nL : Nat) (pc : Nat) : xK := fun L S M u =>
  ∀ (H : Heap) (locs : List Loc) (ls : Array Slot) (cells slots : Nat), xH G M H → xLv L ls nL → (∀ q ∈ locs, G.2.2.1.size ≤ q.base) → cells + u.1 ≤ R.cells → slots + u.2 ≤ R.slots → W p l e R s m args below meth c H locs cells slots Q (F0 m pc ls S)
section XSTEP
variable {G : xGl} {p : Program} {l : Launch} {e : Env} {R : Room} {s : State} {m : MethodId} {args : Array Value} {below : List Frame} {meth : Method} {c : Code} {Q : State → Prop} {nL : Nat} {cc : ByteArray} {pc : Nat} {k : xK} {L : xL} {S : List Value} {M : xM} {u : xU} {own : String}

theorem st_iconst (hx : p.tables.exec = Jvm.exec) (hb : c.code = cc) {n : Int} (hd : decode cc pc = .ok (.iconst n, 1)) (hk : ∀ L S M u, k L S M u → xGG G p l e R s m args below meth c Q nL (pc + 1) L S M u) (h : k L (.int (Int32.ofInt n) :: S) M u) : xGG G p l e R s m args below meth c Q nL pc L S M u := by
  intro H locs ls cells slots hH hL hq hc hs
  exact lv_iconst hx hb hd rfl (hk _ _ _ _ h H locs ls cells slots hH hL hq hc hs)
theorem st_bipush (hx : p.tables.exec = Jvm.exec) (hb : c.code = cc) {n : Int} (hd : decode cc pc = .ok (.bipush n, 2)) (hk : ∀ L S M u, k L S M u → xGG G p l e R s m args below meth c Q nL (pc + 2) L S M u) (h : k L (.int (Int8.ofInt n).toInt32 :: S) M u) : xGG G p l e R s m args below meth c Q nL pc L S M u := by
  intro H locs ls cells slots hH hL hq hc hs
  exact lv_bipush hx hb hd rfl (hk _ _ _ _ h H locs ls cells slots hH hL hq hc hs)
theorem st_sipush (hx : p.tables.exec = Jvm.exec) (hb : c.code = cc) {n : Int} (hd : decode cc pc = .ok (.sipush n, 3)) (hk : ∀ L S M u, k L S M u → xGG G p l e R s m args below meth c Q nL (pc + 3) L S M u) (h : k L (.int (Int16.ofInt n).toInt32 :: S) M u) : xGG G p l e R s m args below meth c Q nL pc L S M u := by
  intro H locs ls cells slots hH hL hq hc hs
  exact lv_sipush hx hb hd rfl (hk _ _ _ _ h H locs ls cells slots hH hL hq hc hs)
theorem st_lconst (hx : p.tables.exec = Jvm.exec) (hb : c.code = cc) {n : Fin 2} (hd : decode cc pc = .ok (.lconst n, 1)) (hk : ∀ L S M u, k L S M u → xGG G p l e R s m args below meth c Q nL (pc + 1) L S M u) (h : k L (.long (Int64.ofNat (n : Nat)) :: S) M u) : xGG G p l e R s m args below meth c Q nL pc L S M u := by
  intro H locs ls cells slots hH hL hq hc hs
  exact lv_lconst hx hb hd rfl (hk _ _ _ _ h H locs ls cells slots hH hL hq hc hs)
theorem st_ldc (hx : p.tables.exec = Jvm.exec) (hb : c.code = cc) (hown : s.vm.findClass own = some m.cls) {idx : Nat} {v : Int32} (hw : (Cond.constant own idx v).before args s = true) (hd : decode cc pc = .ok (.ldc idx, 2)) (hk : ∀ L S M u, k L S M u → xGG G p l e R s m args below meth c Q nL (pc + 2) L S M u) (h : k L (.int v :: S) M u) : xGG G p l e R s m args below meth c Q nL pc L S M u := by
  intro H locs ls cells slots hH hL hq hc hs
  exact lv_ldc hx hb hown hw hd (hk _ _ _ _ h H locs ls cells slots hH hL hq hc hs)
theorem st_ldc2 (hx : p.tables.exec = Jvm.exec) (hb : c.code = cc) (hown : s.vm.findClass own = some m.cls) {idx : Nat} {v : Int64} (hw : (Cond.constantLong own idx v).before args s = true) (hd : decode cc pc = .ok (.ldc2_w idx, 3)) (hk : ∀ L S M u, k L S M u → xGG G p l e R s m args below meth c Q nL (pc + 3) L S M u) (h : k L (.long v :: S) M u) : xGG G p l e R s m args below meth c Q nL pc L S M u := by
  intro H locs ls cells slots hH hL hq hc hs
  exact lv_ldc2 hx hb hown hw hd (hk _ _ _ _ h H locs ls cells slots hH hL hq hc hs)
theorem st_ldcS (hx : p.tables.exec = Jvm.exec) (hb : c.code = cc) (hown : s.vm.findClass own = some m.cls) {idx q : Nat} {tx : String} (hw : vk_R own idx tx q s) (hd : decode cc pc = .ok (.ldc idx, 2)) (hk : ∀ L S M u, k L S M u → xGG G p l e R s m args below meth c Q nL (pc + 2) L S M u) (h : k L (.ref q :: S) M u) : xGG G p l e R s m args below meth c Q nL pc L S M u := by
  intro H locs ls cells slots hH hL hq hc hs
  exact va_ldcS hx hb hown hw hd (hk _ _ _ _ h H locs ls cells slots hH hL hq hc hs)
theorem st_iload_n (hx : p.tables.exec = Jvm.exec) (hb : c.code = cc) {n : Fin 4} (hd : decode cc pc = .ok (.iload_n n, 1)) (hk : ∀ L S M u, k L S M u → xGG G p l e R s m args below meth c Q nL (pc + 1) L S M u) (h : xlI L n (fun x => k L (.int x :: S) M u)) : xGG G p l e R s m args below meth c Q nL pc L S M u := by
  unfold xlI at h
  split at h
  · rename_i x hn
    intro H locs ls cells slots hH hL hq hc hs
    exact lv_iload_n hx hb hd rfl (xLv_get hL hn) (hk _ _ _ _ h H locs ls cells slots hH hL hq hc hs)
  · exact h.elim
theorem st_iload (hx : p.tables.exec = Jvm.exec) (hb : c.code = cc) {n : Nat} (hd : decode cc pc = .ok (.iload n, 2)) (hk : ∀ L S M u, k L S M u → xGG G p l e R s m args below meth c Q nL (pc + 2) L S M u) (h : xlI L n (fun x => k L (.int x :: S) M u)) : xGG G p l e R s m args below meth c Q nL pc L S M u := by
  unfold xlI at h
  split at h
  · rename_i x hn
    intro H locs ls cells slots hH hL hq hc hs
    exact lv_iload hx hb hd (xLv_get hL hn) (hk _ _ _ _ h H locs ls cells slots hH hL hq hc hs)
  · exact h.elim
theorem st_lload_n (hx : p.tables.exec = Jvm.exec) (hb : c.code = cc) {n : Fin 4} (hd : decode cc pc = .ok (.lload_n n, 1)) (hk : ∀ L S M u, k L S M u → xGG G p l e R s m args below meth c Q nL (pc + 1) L S M u) (h : xlL L n (fun x => k L (.long x :: S) M u)) : xGG G p l e R s m args below meth c Q nL pc L S M u := by
  unfold xlL at h
  split at h
  · rename_i x hn
    intro H locs ls cells slots hH hL hq hc hs
    exact lv_lload_n hx hb hd rfl (xLv_get hL hn) (hk _ _ _ _ h H locs ls cells slots hH hL hq hc hs)
  · exact h.elim
theorem st_lload (hx : p.tables.exec = Jvm.exec) (hb : c.code = cc) {n : Nat} (hd : decode cc pc = .ok (.lload n, 2)) (hk : ∀ L S M u, k L S M u → xGG G p l e R s m args below meth c Q nL (pc + 2) L S M u) (h : xlL L n (fun x => k L (.long x :: S) M u)) : xGG G p l e R s m args below meth c Q nL pc L S M u := by
  unfold xlL at h
  split at h
  · rename_i x hn
    intro H locs ls cells slots hH hL hq hc hs
    exact lv_lload hx hb hd (xLv_get hL hn) (hk _ _ _ _ h H locs ls cells slots hH hL hq hc hs)
  · exact h.elim
theorem st_aload_n (hx : p.tables.exec = Jvm.exec) (hb : c.code = cc) {n : Fin 4} (hd : decode cc pc = .ok (.aload_n n, 1)) (hk : ∀ L S M u, k L S M u → xGG G p l e R s m args below meth c Q nL (pc + 1) L S M u) (h : xlR L n (fun x => k L (.ref x :: S) M u)) : xGG G p l e R s m args below meth c Q nL pc L S M u := by
  unfold xlR at h
  split at h
  · rename_i x hn
    intro H locs ls cells slots hH hL hq hc hs
    exact lv_aload_n hx hb hd rfl (xLv_get hL hn) (hk _ _ _ _ h H locs ls cells slots hH hL hq hc hs)
  · exact h.elim
theorem st_aload (hx : p.tables.exec = Jvm.exec) (hb : c.code = cc) {n : Nat} (hd : decode cc pc = .ok (.aload n, 2)) (hk : ∀ L S M u, k L S M u → xGG G p l e R s m args below meth c Q nL (pc + 2) L S M u) (h : xlR L n (fun x => k L (.ref x :: S) M u)) : xGG G p l e R s m args below meth c Q nL pc L S M u := by
  unfold xlR at h
  split at h
  · rename_i x hn
    intro H locs ls cells slots hH hL hq hc hs
    exact lv_aload hx hb hd (xLv_get hL hn) (hk _ _ _ _ h H locs ls cells slots hH hL hq hc hs)
  · exact h.elim
theorem st_istore_n (hx : p.tables.exec = Jvm.exec) (hb : c.code = cc) {n : Fin 4} (hd : decode cc pc = .ok (.istore_n n, 1)) (hk : ∀ L S M u, k L S M u → xGG G p l e R s m args below meth c Q nL (pc + 1) L S M u) (h : x1I S (fun x S => xs1 L n (.int x) (fun L => k L S M u))) : xGG G p l e R s m args below meth c Q nL pc L S M u := by
  unfold x1I at h
  split at h
  · unfold xs1 at h
    split at h
    · rename_i L' hs1
      intro H locs ls cells slots hH hL hq hc hs
      exact lv_istore_n (lv := xlv L) hx hb hd rfl hL.2 (by rw [← hL.1]; exact (xst1_spec hs1).1) rfl (fun ls' h' => hk _ _ _ _ h H locs ls' cells slots hH (xLv_st1 hL hs1 h') hq hc hs)
    · exact h.elim
  · exact h.elim
theorem st_istore (hx : p.tables.exec = Jvm.exec) (hb : c.code = cc) {n : Nat} (hd : decode cc pc = .ok (.istore n, 2)) (hk : ∀ L S M u, k L S M u → xGG G p l e R s m args below meth c Q nL (pc + 2) L S M u) (h : x1I S (fun x S => xs1 L n (.int x) (fun L => k L S M u))) : xGG G p l e R s m args below meth c Q nL pc L S M u := by
  unfold x1I at h
  split at h
  · unfold xs1 at h
    split at h
    · rename_i L' hs1
      intro H locs ls cells slots hH hL hq hc hs
      exact lv_istore (lv := xlv L) hx hb hd hL.2 (by rw [← hL.1]; exact (xst1_spec hs1).1) rfl (fun ls' h' => hk _ _ _ _ h H locs ls' cells slots hH (xLv_st1 hL hs1 h') hq hc hs)
    · exact h.elim
  · exact h.elim
theorem st_astore_n (hx : p.tables.exec = Jvm.exec) (hb : c.code = cc) {n : Fin 4} (hd : decode cc pc = .ok (.astore_n n, 1)) (hk : ∀ L S M u, k L S M u → xGG G p l e R s m args below meth c Q nL (pc + 1) L S M u) (h : x1R S (fun x S => xs1 L n (.ref x) (fun L => k L S M u))) : xGG G p l e R s m args below meth c Q nL pc L S M u := by
  unfold x1R at h
  split at h
  · unfold xs1 at h
    split at h
    · rename_i L' hs1
      intro H locs ls cells slots hH hL hq hc hs
      exact lv_astore_n (lv := xlv L) hx hb hd rfl hL.2 (by rw [← hL.1]; exact (xst1_spec hs1).1) rfl (fun ls' h' => hk _ _ _ _ h H locs ls' cells slots hH (xLv_st1 hL hs1 h') hq hc hs)
    · exact h.elim
  · exact h.elim
theorem st_astore (hx : p.tables.exec = Jvm.exec) (hb : c.code = cc) {n : Nat} (hd : decode cc pc = .ok (.astore n, 2)) (hk : ∀ L S M u, k L S M u → xGG G p l e R s m args below meth c Q nL (pc + 2) L S M u) (h : x1R S (fun x S => xs1 L n (.ref x) (fun L => k L S M u))) : xGG G p l e R s m args below meth c Q nL pc L S M u := by
  unfold x1R at h
  split at h
  · unfold xs1 at h
    split at h
    · rename_i L' hs1
      intro H locs ls cells slots hH hL hq hc hs
      exact lv_astore (lv := xlv L) hx hb hd hL.2 (by rw [← hL.1]; exact (xst1_spec hs1).1) rfl (fun ls' h' => hk _ _ _ _ h H locs ls' cells slots hH (xLv_st1 hL hs1 h') hq hc hs)
    · exact h.elim
  · exact h.elim
theorem st_lstore_n (hx : p.tables.exec = Jvm.exec) (hb : c.code = cc) {n : Fin 4} (hd : decode cc pc = .ok (.lstore_n n, 1)) (hk : ∀ L S M u, k L S M u → xGG G p l e R s m args below meth c Q nL (pc + 1) L S M u) (h : x1L S (fun x S => xs2 L n (.long x) (fun L => k L S M u))) : xGG G p l e R s m args below meth c Q nL pc L S M u := by
  unfold x1L at h
  split at h
  · unfold xs2 at h
    split at h
    · rename_i L' hs1
      intro H locs ls cells slots hH hL hq hc hs
      exact lv_lstore_n (lv := xlv L) hx hb hd rfl hL.2 (by rw [← hL.1]; exact (xst2_spec hs1).1) rfl (fun ls' h' => hk _ _ _ _ h H locs ls' cells slots hH (xLv_st2 hL hs1 h') hq hc hs)
    · exact h.elim
  · exact h.elim
theorem st_lstore (hx : p.tables.exec = Jvm.exec) (hb : c.code = cc) {n : Nat} (hd : decode cc pc = .ok (.lstore n, 2)) (hk : ∀ L S M u, k L S M u → xGG G p l e R s m args below meth c Q nL (pc + 2) L S M u) (h : x1L S (fun x S => xs2 L n (.long x) (fun L => k L S M u))) : xGG G p l e R s m args below meth c Q nL pc L S M u := by
  unfold x1L at h
  split at h
  · unfold xs2 at h
    split at h
    · rename_i L' hs1
      intro H locs ls cells slots hH hL hq hc hs
      exact lv_lstore (lv := xlv L) hx hb hd hL.2 (by rw [← hL.1]; exact (xst2_spec hs1).1) rfl (fun ls' h' => hk _ _ _ _ h H locs ls' cells slots hH (xLv_st2 hL hs1 h') hq hc hs)
    · exact h.elim
  · exact h.elim
theorem st_iinc (hx : p.tables.exec = Jvm.exec) (hb : c.code = cc) {n : Nat} {z : Int} (hd : decode cc pc = .ok (.iinc n z, 3)) (hk : ∀ L S M u, k L S M u → xGG G p l e R s m args below meth c Q nL (pc + 3) L S M u) (h : xlI L n (fun x => xs1 L n (.int (x + Int32.ofInt z)) (fun L => k L S M u))) : xGG G p l e R s m args below meth c Q nL pc L S M u := by
  unfold xlI at h
  split at h
  · rename_i x hn
    unfold xs1 at h
    split at h
    · rename_i L' hs1
      intro H locs ls cells slots hH hL hq hc hs
      obtain ⟨j, hj⟩ := List.getElem?_of_mem (xlv_mem.mpr hn)
      exact lv_iinc (lv := xlv L) (k := j) hx hb hd hL.2 hj rfl (by rw [← hL.1]; exact (xst1_spec hs1).1) rfl (fun ls' h' => hk _ _ _ _ h H locs ls' cells slots hH (xLv_st1 hL hs1 h') hq hc hs)
    · exact h.elim
  · exact h.elim
theorem st_iadd (hx : p.tables.exec = Jvm.exec) (hb : c.code = cc) (hd : decode cc pc = .ok (.iadd, 1)) (hk : ∀ L S M u, k L S M u → xGG G p l e R s m args below meth c Q nL (pc + 1) L S M u) (h : x2I S (fun x y S => k L (.int (x + y) :: S) M u)) : xGG G p l e R s m args below meth c Q nL pc L S M u := by
  unfold x2I at h
  split at h
  · intro H locs ls cells slots hH hL hq hc hs
    exact lv_iadd hx hb hd (hk _ _ _ _ h H locs ls cells slots hH hL hq hc hs)
  · exact h.elim
theorem st_isub (hx : p.tables.exec = Jvm.exec) (hb : c.code = cc) (hd : decode cc pc = .ok (.isub, 1)) (hk : ∀ L S M u, k L S M u → xGG G p l e R s m args below meth c Q nL (pc + 1) L S M u) (h : x2I S (fun x y S => k L (.int (x - y) :: S) M u)) : xGG G p l e R s m args below meth c Q nL pc L S M u := by
  unfold x2I at h
  split at h
  · intro H locs ls cells slots hH hL hq hc hs
    exact lv_isub hx hb hd (hk _ _ _ _ h H locs ls cells slots hH hL hq hc hs)
  · exact h.elim
theorem st_imul (hx : p.tables.exec = Jvm.exec) (hb : c.code = cc) (hd : decode cc pc = .ok (.imul, 1)) (hk : ∀ L S M u, k L S M u → xGG G p l e R s m args below meth c Q nL (pc + 1) L S M u) (h : x2I S (fun x y S => k L (.int (x * y) :: S) M u)) : xGG G p l e R s m args below meth c Q nL pc L S M u := by
  unfold x2I at h
  split at h
  · intro H locs ls cells slots hH hL hq hc hs
    exact lv_imul hx hb hd (hk _ _ _ _ h H locs ls cells slots hH hL hq hc hs)
  · exact h.elim
theorem st_iand (hx : p.tables.exec = Jvm.exec) (hb : c.code = cc) (hd : decode cc pc = .ok (.iand, 1)) (hk : ∀ L S M u, k L S M u → xGG G p l e R s m args below meth c Q nL (pc + 1) L S M u) (h : x2I S (fun x y S => k L (.int (x &&& y) :: S) M u)) : xGG G p l e R s m args below meth c Q nL pc L S M u := by
  unfold x2I at h
  split at h
  · intro H locs ls cells slots hH hL hq hc hs
    exact lv_iand hx hb hd (hk _ _ _ _ h H locs ls cells slots hH hL hq hc hs)
  · exact h.elim
theorem st_ior (hx : p.tables.exec = Jvm.exec) (hb : c.code = cc) (hd : decode cc pc = .ok (.ior, 1)) (hk : ∀ L S M u, k L S M u → xGG G p l e R s m args below meth c Q nL (pc + 1) L S M u) (h : x2I S (fun x y S => k L (.int (x ||| y) :: S) M u)) : xGG G p l e R s m args below meth c Q nL pc L S M u := by
  unfold x2I at h
  split at h
  · intro H locs ls cells slots hH hL hq hc hs
    exact lv_ior hx hb hd (hk _ _ _ _ h H locs ls cells slots hH hL hq hc hs)
  · exact h.elim
theorem st_ixor (hx : p.tables.exec = Jvm.exec) (hb : c.code = cc) (hd : decode cc pc = .ok (.ixor, 1)) (hk : ∀ L S M u, k L S M u → xGG G p l e R s m args below meth c Q nL (pc + 1) L S M u) (h : x2I S (fun x y S => k L (.int (x ^^^ y) :: S) M u)) : xGG G p l e R s m args below meth c Q nL pc L S M u := by
  unfold x2I at h
  split at h
  · intro H locs ls cells slots hH hL hq hc hs
    exact lv_ixor hx hb hd (hk _ _ _ _ h H locs ls cells slots hH hL hq hc hs)
  · exact h.elim
theorem st_ishl (hx : p.tables.exec = Jvm.exec) (hb : c.code = cc) (hd : decode cc pc = .ok (.ishl, 1)) (hk : ∀ L S M u, k L S M u → xGG G p l e R s m args below meth c Q nL (pc + 1) L S M u) (h : x2I S (fun x y S => k L (.int (x <<< (y &&& 31)) :: S) M u)) : xGG G p l e R s m args below meth c Q nL pc L S M u := by
  unfold x2I at h
  split at h
  · intro H locs ls cells slots hH hL hq hc hs
    exact lv_ishl hx hb hd (hk _ _ _ _ h H locs ls cells slots hH hL hq hc hs)
  · exact h.elim
theorem st_ishr (hx : p.tables.exec = Jvm.exec) (hb : c.code = cc) (hd : decode cc pc = .ok (.ishr, 1)) (hk : ∀ L S M u, k L S M u → xGG G p l e R s m args below meth c Q nL (pc + 1) L S M u) (h : x2I S (fun x y S => k L (.int (x >>> (y &&& 31)) :: S) M u)) : xGG G p l e R s m args below meth c Q nL pc L S M u := by
  unfold x2I at h
  split at h
  · intro H locs ls cells slots hH hL hq hc hs
    exact lv_ishr hx hb hd (hk _ _ _ _ h H locs ls cells slots hH hL hq hc hs)
  · exact h.elim
theorem st_iushr (hx : p.tables.exec = Jvm.exec) (hb : c.code = cc) (hd : decode cc pc = .ok (.iushr, 1)) (hk : ∀ L S M u, k L S M u → xGG G p l e R s m args below meth c Q nL (pc + 1) L S M u) (h : x2I S (fun x y S => k L (.int (x.toUInt32 >>> (y.toUInt32 &&& Int32.toUInt32 31)).toInt32 :: S) M u)) : xGG G p l e R s m args below meth c Q nL pc L S M u := by
  unfold x2I at h
  split at h
  · intro H locs ls cells slots hH hL hq hc hs
    exact lv_iushr hx hb hd rfl (hk _ _ _ _ h H locs ls cells slots hH hL hq hc hs)
  · exact h.elim
theorem st_idiv (hx : p.tables.exec = Jvm.exec) (hb : c.code = cc) (hd : decode cc pc = .ok (.idiv, 1)) (hk : ∀ L S M u, k L S M u → xGG G p l e R s m args below meth c Q nL (pc + 1) L S M u) (h : x2I S (fun x y S => ¬ y = 0 ∧ k L (.int (x / y) :: S) M u)) : xGG G p l e R s m args below meth c Q nL pc L S M u := by
  unfold x2I at h
  split at h
  · intro H locs ls cells slots hH hL hq hc hs
    exact lv_idiv hx hb hd h.1 (hk _ _ _ _ h.2 H locs ls cells slots hH hL hq hc hs)
  · exact h.elim
theorem st_irem (hx : p.tables.exec = Jvm.exec) (hb : c.code = cc) (hd : decode cc pc = .ok (.irem, 1)) (hk : ∀ L S M u, k L S M u → xGG G p l e R s m args below meth c Q nL (pc + 1) L S M u) (h : x2I S (fun x y S => ¬ y = 0 ∧ k L (.int (x - x / y * y) :: S) M u)) : xGG G p l e R s m args below meth c Q nL pc L S M u := by
  unfold x2I at h
  split at h
  · intro H locs ls cells slots hH hL hq hc hs
    exact lv_irem hx hb hd h.1 (hk _ _ _ _ h.2 H locs ls cells slots hH hL hq hc hs)
  · exact h.elim
theorem st_ladd (hx : p.tables.exec = Jvm.exec) (hb : c.code = cc) (hd : decode cc pc = .ok (.ladd, 1)) (hk : ∀ L S M u, k L S M u → xGG G p l e R s m args below meth c Q nL (pc + 1) L S M u) (h : x2L S (fun x y S => k L (.long (x + y) :: S) M u)) : xGG G p l e R s m args below meth c Q nL pc L S M u := by
  unfold x2L at h
  split at h
  · intro H locs ls cells slots hH hL hq hc hs
    exact lv_ladd hx hb hd (hk _ _ _ _ h H locs ls cells slots hH hL hq hc hs)
  · exact h.elim
theorem st_lsub (hx : p.tables.exec = Jvm.exec) (hb : c.code = cc) (hd : decode cc pc = .ok (.lsub, 1)) (hk : ∀ L S M u, k L S M u → xGG G p l e R s m args below meth c Q nL (pc + 1) L S M u) (h : x2L S (fun x y S => k L (.long (x - y) :: S) M u)) : xGG G p l e R s m args below meth c Q nL pc L S M u := by
  unfold x2L at h
  split at h
  · intro H locs ls cells slots hH hL hq hc hs
    exact lv_lsub hx hb hd (hk _ _ _ _ h H locs ls cells slots hH hL hq hc hs)
  · exact h.elim
theorem st_lmul (hx : p.tables.exec = Jvm.exec) (hb : c.code = cc) (hd : decode cc pc = .ok (.lmul, 1)) (hk : ∀ L S M u, k L S M u → xGG G p l e R s m args below meth c Q nL (pc + 1) L S M u) (h : x2L S (fun x y S => k L (.long (x * y) :: S) M u)) : xGG G p l e R s m args below meth c Q nL pc L S M u := by
  unfold x2L at h
  split at h
  · intro H locs ls cells slots hH hL hq hc hs
    exact lv_lmul hx hb hd (hk _ _ _ _ h H locs ls cells slots hH hL hq hc hs)
  · exact h.elim
theorem st_lor (hx : p.tables.exec = Jvm.exec) (hb : c.code = cc) (hd : decode cc pc = .ok (.lor, 1)) (hk : ∀ L S M u, k L S M u → xGG G p l e R s m args below meth c Q nL (pc + 1) L S M u) (h : x2L S (fun x y S => k L (.long (x ||| y) :: S) M u)) : xGG G p l e R s m args below meth c Q nL pc L S M u := by
  unfold x2L at h
  split at h
  · intro H locs ls cells slots hH hL hq hc hs
    exact lv_lor hx hb hd (hk _ _ _ _ h H locs ls cells slots hH hL hq hc hs)
  · exact h.elim
theorem st_ldiv (hx : p.tables.exec = Jvm.exec) (hb : c.code = cc) (hd : decode cc pc = .ok (.ldiv, 1)) (hk : ∀ L S M u, k L S M u → xGG G p l e R s m args below meth c Q nL (pc + 1) L S M u) (h : x2L S (fun x y S => ¬ y = 0 ∧ k L (.long (x / y) :: S) M u)) : xGG G p l e R s m args below meth c Q nL pc L S M u := by
  unfold x2L at h
  split at h
  · intro H locs ls cells slots hH hL hq hc hs
    exact lv_ldiv hx hb hd h.1 (hk _ _ _ _ h.2 H locs ls cells slots hH hL hq hc hs)
  · exact h.elim
theorem st_lcmp (hx : p.tables.exec = Jvm.exec) (hb : c.code = cc) (hd : decode cc pc = .ok (.lcmp, 1)) (hk : ∀ L S M u, k L S M u → xGG G p l e R s m args below meth c Q nL (pc + 1) L S M u) (h : x2L S (fun x y S => k L (.int (lg_cmp x y) :: S) M u)) : xGG G p l e R s m args below meth c Q nL pc L S M u := by
  unfold x2L at h
  split at h
  · intro H locs ls cells slots hH hL hq hc hs
    exact W.lcmp hx hb hd (hk _ _ _ _ h H locs ls cells slots hH hL hq hc hs)
  · exact h.elim
theorem st_lshl (hx : p.tables.exec = Jvm.exec) (hb : c.code = cc) (hd : decode cc pc = .ok (.lshl, 1)) (hk : ∀ L S M u, k L S M u → xGG G p l e R s m args below meth c Q nL (pc + 1) L S M u) (h : xIL S (fun x y S => k L (.long (x <<< (y.toInt64 &&& 63)) :: S) M u)) : xGG G p l e R s m args below meth c Q nL pc L S M u := by
  unfold xIL at h
  split at h
  · intro H locs ls cells slots hH hL hq hc hs
    exact lv_lshl hx hb hd rfl (hk _ _ _ _ h H locs ls cells slots hH hL hq hc hs)
  · exact h.elim
theorem st_ineg (hx : p.tables.exec = Jvm.exec) (hb : c.code = cc) (hd : decode cc pc = .ok (.ineg, 1)) (hk : ∀ L S M u, k L S M u → xGG G p l e R s m args below meth c Q nL (pc + 1) L S M u) (h : x1I S (fun x S => k L (.int (-x) :: S) M u)) : xGG G p l e R s m args below meth c Q nL pc L S M u := by
  unfold x1I at h
  split at h
  · intro H locs ls cells slots hH hL hq hc hs
    exact lv_ineg hx hb hd (hk _ _ _ _ h H locs ls cells slots hH hL hq hc hs)
  · exact h.elim
theorem st_lneg (hx : p.tables.exec = Jvm.exec) (hb : c.code = cc) (hd : decode cc pc = .ok (.lneg, 1)) (hk : ∀ L S M u, k L S M u → xGG G p l e R s m args below meth c Q nL (pc + 1) L S M u) (h : x1L S (fun x S => k L (.long (-x) :: S) M u)) : xGG G p l e R s m args below meth c Q nL pc L S M u := by
  unfold x1L at h
  split at h
  · intro H locs ls cells slots hH hL hq hc hs
    exact lv_lneg hx hb hd (hk _ _ _ _ h H locs ls cells slots hH hL hq hc hs)
  · exact h.elim
theorem st_i2l (hx : p.tables.exec = Jvm.exec) (hb : c.code = cc) (hd : decode cc pc = .ok (.i2l, 1)) (hk : ∀ L S M u, k L S M u → xGG G p l e R s m args below meth c Q nL (pc + 1) L S M u) (h : x1I S (fun x S => k L (.long x.toInt64 :: S) M u)) : xGG G p l e R s m args below meth c Q nL pc L S M u := by
  unfold x1I at h
  split at h
  · intro H locs ls cells slots hH hL hq hc hs
    exact lv_i2l hx hb hd rfl (hk _ _ _ _ h H locs ls cells slots hH hL hq hc hs)
  · exact h.elim
theorem st_l2i (hx : p.tables.exec = Jvm.exec) (hb : c.code = cc) (hd : decode cc pc = .ok (.l2i, 1)) (hk : ∀ L S M u, k L S M u → xGG G p l e R s m args below meth c Q nL (pc + 1) L S M u) (h : x1L S (fun x S => k L (.int x.toInt32 :: S) M u)) : xGG G p l e R s m args below meth c Q nL pc L S M u := by
  unfold x1L at h
  split at h
  · intro H locs ls cells slots hH hL hq hc hs
    exact lv_l2i hx hb hd rfl (hk _ _ _ _ h H locs ls cells slots hH hL hq hc hs)
  · exact h.elim
theorem st_dupI (hx : p.tables.exec = Jvm.exec) (hb : c.code = cc) {v : Value} (hv : v.category = 1) (hd : decode cc pc = .ok (.dup, 1)) (hk : ∀ L S M u, k L S M u → xGG G p l e R s m args below meth c Q nL (pc + 1) L S M u) (h : k L (v :: v :: S) M u) : xGG G p l e R s m args below meth c Q nL pc L (v :: S) M u := by
  intro H locs ls cells slots hH hL hq hc hs
  exact lv_dup hx hb hd hv (hk _ _ _ _ h H locs ls cells slots hH hL hq hc hs)
theorem st_popI (hx : p.tables.exec = Jvm.exec) (hb : c.code = cc) {v : Value} (hv : v.category = 1) (hd : decode cc pc = .ok (.pop, 1)) (hk : ∀ L S M u, k L S M u → xGG G p l e R s m args below meth c Q nL (pc + 1) L S M u) (h : k L S M u) : xGG G p l e R s m args below meth c Q nL pc L (v :: S) M u := by
  intro H locs ls cells slots hH hL hq hc hs
  exact lv_pop hx hb hd hv (hk _ _ _ _ h H locs ls cells slots hH hL hq hc hs)
theorem st_dup2 (hx : p.tables.exec = Jvm.exec) (hb : c.code = cc) (hd : decode cc pc = .ok (.dup2, 1)) (hk : ∀ L S M u, k L S M u → xGG G p l e R s m args below meth c Q nL (pc + 1) L S M u) (h : xIR S (fun a i S => k L (.int i :: .ref a :: .int i :: .ref a :: S) M u)) : xGG G p l e R s m args below meth c Q nL pc L S M u := by
  unfold xIR at h
  split at h
  · intro H locs ls cells slots hH hL hq hc hs
    exact lv_dup2_11 hx hb hd rfl rfl (hk _ _ _ _ h H locs ls cells slots hH hL hq hc hs)
  · exact h.elim
end XSTEP
