/-! the step, the block, the method, all methods: what the small machine says of a method the real one keeps -/
theorem xEv_prim {sa : Nat → Nat} {d y : Nat} {vs : List Value} {M : xM} {Q : xQ} (hy : xP[y]? = none) (h : xEv xP (xprim sa) d y vs M Q) : xprim sa y vs M Q := by
  cases d with
  | zero => exact h.elim
  | succ d =>
    unfold xEv at h
    rw [hy] at h
    exact h
theorem xP_len {y : Nat} (h : 219 ≤ y) : xP[y]? = none := List.getElem?_eq_none (by have : xP.length = 219 := rfl; omega)
def xretOK (cc : ByteArray) (rt : Option FieldType) (v : Option Value) (pc : Nat) : Prop :=
  (∃ x, v = some (.int x) ∧ decode cc pc = .ok (.ireturn, 1) ∧ (rt = some .int ∨ (rt = some .boolean ∧ (x = 0 ∨ x = 1)))) ∨ (∃ x, v = some (.long x) ∧ decode cc pc = .ok (.lreturn, 1) ∧ rt = some .long) ∨
  (∃ a n, v = some (.ref a) ∧ decode cc pc = .ok (.areturn, 1) ∧ rt = some (.object n)) ∨ (v = none ∧ decode cc pc = .ok (.return_, 1) ∧ rt = none)
section XSOUND
variable {G : xGl} {p : Program} {l : Launch} {e : Env} {R : Room} {s : State} {m : MethodId} {args : Array Value} {below : List Frame} {meth : Method} {c : Code} {Q : State → Prop} {nL : Nat} {cc : ByteArray} {own : String} {ini : Bool} {rt : Option FieldType} {pcs : List Nat} {jmp : Nat → xK} {ret : xQ} {d : Nat}
set_option maxHeartbeats 4000000 in
set_option maxRecDepth 100000 in
theorem xT_sound (hx : p.tables.exec = Jvm.exec) (hb : c.code = cc) (hml : c.maxLocals = nL) (hown : s.vm.findClass own = some m.cls) (hts : ∀ w ∈ zGood, w.before args s = true) (hC : xCtx G s) (hini : ini = true → meth.name = "<init>") (hR : d + 5 ≤ R.frames ∧ 100 * d + 500 ≤ R.locals)
    (hcall : ∀ (y : Nat) (my : xMeth) (vs : List Value) (M : xM) (Q' : xQ), xP[y]? = some my → xEv xP (xprim G.2.2.2.2.1) d y vs M Q' → xMet G l d my vs M Q') (hmy : ∀ (y : Nat) (my : xMeth), xP[y]? = some my → xok my)
    (hret : ∀ v M H locs ls pc, ret v M → xH G M H → (∀ q ∈ locs, G.2.2.1.size ≤ q.base) → xretOK cc rt v pc → W p l e R s m args below meth c H locs R.cells R.slots Q (F0 m pc ls v.toList))
    (hj : ∀ b t L S M u, pcs[b]? = some t → jmp b L S M u → xGG G p l e R s m args below meth c Q nL t L S M u)
    {i : xI} {pc : Nat} (hd : decode cc pc = .ok (i.1, i.2.1)) (hl : xlnk own ini rt pcs pc i = true) (hw : ∀ w ∈ xwds own i, w ∈ zGood) {k : xK} (hk : xterm i.1 = false → ∀ L S M u, k L S M u → xGG G p l e R s m args below meth c Q nL (pc + i.2.1) L S M u)
    (L : xL) (S : List Value) (M : xM) (u : xU) (h : xT (xEv xP (xprim G.2.2.2.2.1) d) jmp ret i k L S M u) : xGG G p l e R s m args below meth c Q nL pc L S M u := by
  obtain ⟨op, len, dt⟩ := i
  dsimp only at hd hw hk
  have hcodeOf : ∀ (y : Nat) (my : xMeth), xP[y]? = some my → Cond.code my.1 my.2.1 my.2.2.1 my.2.2.2.1 ∈ zGood ∧ my.2.2.1 ≤ 40 := fun y my h9 => by
    obtain ⟨g1, g2⟩ := hmy y my h9
    refine ⟨g2 _ List.mem_cons_self, ?_⟩
    unfold xchkM at g1
    simp only [Bool.and_eq_true, decide_eq_true_eq] at g1
    exact g1.2.1
  cases op
  case iadd =>
    obtain rfl : len = 1 := by simpa [xlnk] using hl
    exact st_iadd hx hb hd (hk rfl) h
  case isub =>
    obtain rfl : len = 1 := by simpa [xlnk] using hl
    exact st_isub hx hb hd (hk rfl) h
  case imul =>
    obtain rfl : len = 1 := by simpa [xlnk] using hl
    exact st_imul hx hb hd (hk rfl) h
  case idiv =>
    obtain rfl : len = 1 := by simpa [xlnk] using hl
    exact st_idiv hx hb hd (hk rfl) h
  case irem =>
    obtain rfl : len = 1 := by simpa [xlnk] using hl
    exact st_irem hx hb hd (hk rfl) h
  case iand =>
    obtain rfl : len = 1 := by simpa [xlnk] using hl
    exact st_iand hx hb hd (hk rfl) h
  case ior =>
    obtain rfl : len = 1 := by simpa [xlnk] using hl
    exact st_ior hx hb hd (hk rfl) h
  case ixor =>
    obtain rfl : len = 1 := by simpa [xlnk] using hl
    exact st_ixor hx hb hd (hk rfl) h
  case ishl =>
    obtain rfl : len = 1 := by simpa [xlnk] using hl
    exact st_ishl hx hb hd (hk rfl) h
  case ishr =>
    obtain rfl : len = 1 := by simpa [xlnk] using hl
    exact st_ishr hx hb hd (hk rfl) h
  case iushr =>
    obtain rfl : len = 1 := by simpa [xlnk] using hl
    exact st_iushr hx hb hd (hk rfl) h
  case ineg =>
    obtain rfl : len = 1 := by simpa [xlnk] using hl
    exact st_ineg hx hb hd (hk rfl) h
  case i2l =>
    obtain rfl : len = 1 := by simpa [xlnk] using hl
    exact st_i2l hx hb hd (hk rfl) h
  case l2i =>
    obtain rfl : len = 1 := by simpa [xlnk] using hl
    exact st_l2i hx hb hd (hk rfl) h
  case ladd =>
    obtain rfl : len = 1 := by simpa [xlnk] using hl
    exact st_ladd hx hb hd (hk rfl) h
  case lsub =>
    obtain rfl : len = 1 := by simpa [xlnk] using hl
    exact st_lsub hx hb hd (hk rfl) h
  case lmul =>
    obtain rfl : len = 1 := by simpa [xlnk] using hl
    exact st_lmul hx hb hd (hk rfl) h
  case ldiv =>
    obtain rfl : len = 1 := by simpa [xlnk] using hl
    exact st_ldiv hx hb hd (hk rfl) h
  case lor =>
    obtain rfl : len = 1 := by simpa [xlnk] using hl
    exact st_lor hx hb hd (hk rfl) h
  case lneg =>
    obtain rfl : len = 1 := by simpa [xlnk] using hl
    exact st_lneg hx hb hd (hk rfl) h
  case lshl =>
    obtain rfl : len = 1 := by simpa [xlnk] using hl
    exact st_lshl hx hb hd (hk rfl) h
  case lcmp =>
    obtain rfl : len = 1 := by simpa [xlnk] using hl
    exact st_lcmp hx hb hd (hk rfl) h
  case dup2 =>
    obtain rfl : len = 1 := by simpa [xlnk] using hl
    exact st_dup2 hx hb hd (hk rfl) h
  case iload_n _ =>
    obtain rfl : len = 1 := by simpa [xlnk] using hl
    exact st_iload_n hx hb hd (hk rfl) h
  case lload_n _ =>
    obtain rfl : len = 1 := by simpa [xlnk] using hl
    exact st_lload_n hx hb hd (hk rfl) h
  case aload_n _ =>
    obtain rfl : len = 1 := by simpa [xlnk] using hl
    exact st_aload_n hx hb hd (hk rfl) h
  case istore_n _ =>
    obtain rfl : len = 1 := by simpa [xlnk] using hl
    exact st_istore_n hx hb hd (hk rfl) h
  case lstore_n _ =>
    obtain rfl : len = 1 := by simpa [xlnk] using hl
    exact st_lstore_n hx hb hd (hk rfl) h
  case astore_n _ =>
    obtain rfl : len = 1 := by simpa [xlnk] using hl
    exact st_astore_n hx hb hd (hk rfl) h
  case iconst _ =>
    obtain rfl : len = 1 := by simpa [xlnk] using hl
    exact st_iconst hx hb hd (hk rfl) h
  case lconst _ =>
    obtain rfl : len = 1 := by simpa [xlnk] using hl
    exact st_lconst hx hb hd (hk rfl) h
  case iload _ =>
    obtain rfl : len = 2 := by simpa [xlnk] using hl
    exact st_iload hx hb hd (hk rfl) h
  case lload _ =>
    obtain rfl : len = 2 := by simpa [xlnk] using hl
    exact st_lload hx hb hd (hk rfl) h
  case aload _ =>
    obtain rfl : len = 2 := by simpa [xlnk] using hl
    exact st_aload hx hb hd (hk rfl) h
  case istore _ =>
    obtain rfl : len = 2 := by simpa [xlnk] using hl
    exact st_istore hx hb hd (hk rfl) h
  case lstore _ =>
    obtain rfl : len = 2 := by simpa [xlnk] using hl
    exact st_lstore hx hb hd (hk rfl) h
  case astore _ =>
    obtain rfl : len = 2 := by simpa [xlnk] using hl
    exact st_astore hx hb hd (hk rfl) h
  case bipush _ =>
    obtain rfl : len = 2 := by simpa [xlnk] using hl
    exact st_bipush hx hb hd (hk rfl) h
  case sipush _ =>
    obtain rfl : len = 3 := by simpa [xlnk] using hl
    exact st_sipush hx hb hd (hk rfl) h
  case iinc _ _ =>
    obtain rfl : len = 3 := by simpa [xlnk] using hl
    exact st_iinc hx hb hd (hk rfl) h
  case dup =>
    obtain rfl : len = 1 := by simpa [xlnk] using hl
    unfold xT at h
    dsimp only at h
    split at h
    · exact st_dupI hx hb rfl hd (hk rfl) h
    · exact st_dupI hx hb rfl hd (hk rfl) h
    · exact h.elim
  case pop =>
    obtain rfl : len = 1 := by simpa [xlnk] using hl
    unfold xT at h
    dsimp only at h
    split at h
    · exact st_popI hx hb rfl hd (hk rfl) h
    · exact st_popI hx hb rfl hd (hk rfl) h
    · exact h.elim
  case ldc idx =>
    unfold xT at h
    dsimp only at h
    split at h
    · obtain rfl : len = 2 := by simpa [xlnk] using hl
      exact st_ldc hx hb hown (hts _ (hw _ (by simp [xwds]))) hd (hk rfl) h
    · rename_i y z
      simp only [xlnk, Bool.and_eq_true, beq_iff_eq, decide_eq_true_eq] at hl
      obtain ⟨e1, e2, g1, g2, e3⟩ := hl
      subst e1
      subst e2
      rw [e3] at hd
      rcases xEv_prim (xP_len (by omega)) h with ⟨j, j1, j2, j3, j4⟩ | ⟨j, j1, j2, j3, j4⟩ | ⟨j, i, j1, j2, j3⟩
      · subst j2
        rw [show 1000 + j - 1000 = j from Nat.add_sub_cancel_left ..] at hd
        have hZ : vk_R "RingCouncil$Tape" (142 + 2 * j) (zTx.getD j "") (G.2.2.2.2.1 j) s := by obtain ⟨D, dA, H0, ⟨bS, LS, xsS⟩, sa, sv⟩ := G; exact hC.2.2.2.2.2.2.2.1 j j1
        exact st_ldcS hx hb hown hZ hd (hk rfl) j4
      · omega
      · omega
    · exact h.elim
  case ldc2_w idx =>
    unfold xT at h
    dsimp only at h
    split at h
    · obtain rfl : len = 3 := by simpa [xlnk] using hl
      exact st_ldc2 hx hb hown (hts _ (hw _ (by simp [xwds]))) hd (hk rfl) h
    · exact h.elim
  case goto off =>
    unfold xT at h
    dsimp only at h
    split at h
    · simp only [xlnk, Bool.and_eq_true, beq_iff_eq] at hl
      obtain ⟨rfl, hl⟩ := hl
      exact st_goto hx hb hd hl hj h
    · exact h.elim
  case ifCond cnd off =>
    have hdt : ∃ bt mt bf mf, dt = [bt, mt, bf, mf] := by
      unfold xT at h
      cases cnd <;> dsimp only at h <;> unfold x1I at h <;> split at h <;> first | exact h.elim | skip
      all_goals (unfold xif at h; split at h <;> first | exact ⟨_, _, _, _, rfl⟩ | exact h.elim)
    obtain ⟨bt, mt, bf, mf, rfl⟩ := hdt
    simp only [xlnk, Bool.and_eq_true, beq_iff_eq] at hl
    obtain ⟨rfl, hl1, hl2⟩ := hl
    cases cnd
    · exact st_ifCond_eq hx hb hd hl1 hl2 hj h
    · exact st_ifCond_ne hx hb hd hl1 hl2 hj h
    · exact st_ifCond_lt hx hb hd hl1 hl2 hj h
    · exact st_ifCond_ge hx hb hd hl1 hl2 hj h
    · exact st_ifCond_gt hx hb hd hl1 hl2 hj h
    · exact st_ifCond_le hx hb hd hl1 hl2 hj h
  case if_icmp cnd off =>
    have hdt : ∃ bt mt bf mf, dt = [bt, mt, bf, mf] := by
      unfold xT at h
      cases cnd <;> dsimp only at h <;> unfold x2I at h <;> split at h <;> first | exact h.elim | skip
      all_goals (unfold xif at h; split at h <;> first | exact ⟨_, _, _, _, rfl⟩ | exact h.elim)
    obtain ⟨bt, mt, bf, mf, rfl⟩ := hdt
    simp only [xlnk, Bool.and_eq_true, beq_iff_eq] at hl
    obtain ⟨rfl, hl1, hl2⟩ := hl
    cases cnd
    · exact st_if_icmp_eq hx hb hd hl1 hl2 hj h
    · exact st_if_icmp_ne hx hb hd hl1 hl2 hj h
    · exact st_if_icmp_lt hx hb hd hl1 hl2 hj h
    · exact st_if_icmp_ge hx hb hd hl1 hl2 hj h
    · exact st_if_icmp_gt hx hb hd hl1 hl2 hj h
    · exact st_if_icmp_le hx hb hd hl1 hl2 hj h
  case tableswitch df lo hi offs =>
    unfold xT at h
    dsimp only at h
    match dt with
    | d0 :: md :: ts =>
      simp only [xlnk, Bool.and_eq_true, decide_eq_true_eq] at hl
      obtain ⟨g1, g2, g3, g4, g5⟩ := hl
      exact st_table hx hb hd g1 g2 g3 g4 g5 hj h
    | [] => unfold x1I at h; split at h <;> exact h.elim
    | [_] => unfold x1I at h; split at h <;> exact h.elim
  case lookupswitch df ps =>
    unfold xT at h
    dsimp only at h
    match dt with
    | d0 :: md :: ts =>
      simp only [xlnk, Bool.and_eq_true] at hl
      obtain ⟨g1, g2, g3, g4⟩ := hl
      exact st_lookup hx hb hd g1 g2 g3 g4 hj h
    | [] => unfold x1I at h; split at h <;> exact h.elim
    | [_] => unfold x1I at h; split at h <;> exact h.elim
  case getfield idx =>
    unfold xT at h
    dsimp only at h
    split at h
    · simp only [xlnk, Bool.and_eq_true, beq_iff_eq] at hl
      obtain ⟨rfl, hl⟩ := hl
      exact st_get hx hb hown hts hC hd hl hw (hk rfl) h
    · exact h.elim
  case putfield idx =>
    unfold xT at h
    dsimp only at h
    split at h
    · simp only [xlnk, Bool.and_eq_true, beq_iff_eq] at hl
      obtain ⟨rfl, hl, hl2⟩ := hl
      exact st_put hx hb hown hts hC hini hd hl hl2 hw (hk rfl) h
    · exact h.elim
  case iaload =>
    obtain rfl : len = 1 := by simpa [xlnk] using hl
    exact st_iaload hx hb hC hd (hk rfl) h
  case baload =>
    obtain rfl : len = 1 := by simpa [xlnk] using hl
    exact st_baload hx hb hC hd (hk rfl) h
  case laload =>
    obtain rfl : len = 1 := by simpa [xlnk] using hl
    exact st_laload hx hb hC hd (hk rfl) h
  case aaload =>
    obtain rfl : len = 1 := by simpa [xlnk] using hl
    exact st_aaload hx hb hC hd (hk rfl) h
  case iastore =>
    obtain rfl : len = 1 := by simpa [xlnk] using hl
    exact st_iastore hx hb hC hd (hk rfl) h
  case bastore =>
    obtain rfl : len = 1 := by simpa [xlnk] using hl
    exact st_bastore hx hb hC hd (hk rfl) h
  case lastore =>
    obtain rfl : len = 1 := by simpa [xlnk] using hl
    exact st_lastore hx hb hC hd (hk rfl) h
  case aastore =>
    obtain rfl : len = 1 := by simpa [xlnk] using hl
    exact st_aastore hx hb hC hd (hk rfl) h
  case arraylength =>
    obtain rfl : len = 1 := by simpa [xlnk] using hl
    exact st_alen hx hb hC hd (hk rfl) h
  case new idx =>
    unfold xT at h
    dsimp only at h
    match dt with
    | ci :: ks =>
      simp only [xlnk, Bool.and_eq_true, beq_iff_eq] at hl
      obtain ⟨rfl, hl⟩ := hl
      cases hr : zCl[ci]? with
      | none => rw [hr] at hl; cases hl
      | some r =>
        rw [hr] at hl
        simp only [Bool.and_eq_true, decide_eq_true_eq] at hl
        have hwl : xwds own (.new idx, 3, ci :: ks) = [.classLink own idx r.1, .instantiable r.1 r.2.2, .initialized r.1] := by simp only [xwds, hr]
        rw [hwl] at hw
        exact st_new hx hb hown hts hC hd hr hl.1 hl.2 (hts _ (hw _ (by simp))) (hts _ (hw _ (by simp))) (hts _ (hw _ (by simp))) (hk rfl) h
    | [] => exact h.elim
  case newarray t =>
    simp only [xlnk, Bool.and_eq_true, beq_iff_eq] at hl
    obtain ⟨rfl, hl⟩ := hl
    have ht : t = .int ∨ t = .boolean ∨ t = .long := by cases t <;> first | exact Or.inl rfl | exact Or.inr (Or.inl rfl) | exact Or.inr (Or.inr rfl) | cases hl
    exact st_newarray hx hb hC hd ht (hts _ (hw _ (by rcases ht with rfl | rfl | rfl <;> exact List.mem_cons_self))) (hk rfl) h
  case anewarray idx =>
    unfold xT at h
    dsimp only at h
    split at h
    · rename_i tc
      simp only [xlnk, Bool.and_eq_true, beq_iff_eq, decide_eq_true_eq] at hl
      obtain ⟨rfl, hl⟩ := hl
      rcases hl with rfl | rfl
      · exact st_anewarray (t0 := 3) hx hb hown hC hd (by decide) rfl (hts _ (hw _ (by simp [xwds]))) (by obtain ⟨D, dA, H0, ⟨bS, LS, xsS⟩, sa, sv⟩ := G; exact hC.2.2.2.1) (hk rfl) h
      · exact st_anewarray (t0 := 4) hx hb hown hC hd (by decide) rfl (hts _ (hw _ (by simp [xwds]))) (by obtain ⟨D, dA, H0, ⟨bS, LS, xsS⟩, sa, sv⟩ := G; exact hC.2.2.2.2.1) (hk rfl) h
    · exact h.elim
  case multianewarray idx dm =>
    simp only [xlnk, Bool.and_eq_true, beq_iff_eq, decide_eq_true_eq] at hl
    obtain ⟨rfl, rfl⟩ := hl
    exact st_multi hx hb hown hC hd (hts _ (hw _ (by simp [xwds]))) (hts _ (hw _ (by simp [xwds]))) (hk rfl) h
  case invokestatic idx =>
    unfold xT at h
    dsimp only at h
    split at h
    · simp only [xlnk, Bool.and_eq_true, beq_iff_eq] at hl
      obtain ⟨rfl, -⟩ := hl
      exact st_copy hx hb hml hown hC hd (hts _ (hw _ (by simp [xwds]))) (hts _ (hw _ (by simp [xwds]))) (hts _ (hw _ (by simp [xwds]))) (hts _ (hw _ (by simp [xwds]))) (by omega) (by omega) (hk rfl) h
    · rename_i f y n rk
      simp only [xlnk, Bool.and_eq_true, beq_iff_eq] at hl
      obtain ⟨rfl, hl⟩ := hl
      cases hy : xP[y]? with
      | none => rw [hy] at hl; cases hl
      | some my =>
        rw [hy] at hl
        simp only [Bool.and_eq_true, Bool.or_eq_true, decide_eq_true_eq] at hl
        obtain ⟨g1, g2, g3⟩ := hl
        have hwl : xwds own (.invokestatic idx, 3, [f, y, n, rk]) = [.static my.1, .initialized my.1.cls] ++ (if f = 1 then [.methodLink own idx my.1] else []) := by simp only [xwds, hy]
        rw [hwl] at hw
        refine st_stat hx hb hml hown hts hC hd g2 g1 (hcodeOf y my hy).1 (hcodeOf y my hy).2 (hw _ (by simp)) (hw _ (by simp)) ?_ hR (fun vs M Q' => hcall y my vs M Q' hy) (hk rfl) h
        rcases g3 with ⟨e1, e2⟩ | ⟨e1, e2⟩
        · exact Or.inl ⟨hw _ (by simp [e1]), e2⟩
        · exact Or.inr e2
    · exact h.elim
  case invokevirtual idx =>
    unfold xT at h
    dsimp only at h
    split at h
    · rename_i f y n ci rk
      simp only [xlnk, Bool.and_eq_true, beq_iff_eq] at hl
      obtain ⟨rfl, hl⟩ := hl
      cases hy : xP[y]? with
      | some my =>
        rw [hy] at hl
        simp only [Bool.and_eq_true, decide_eq_true_eq] at hl
        obtain ⟨g1, g2, g3, g4⟩ := hl
        have hwl : xwds own (.invokevirtual idx, 3, [f, y, n, ci, rk]) = [.methodLink own idx my.1, .instanceMethod my.1, .selects my.1.cls my.1 my.1, .initialized my.1.cls] := by simp only [xwds, hy]
        rw [hwl] at hw
        exact st_virt hx hb hml hown hts hC hd g2 g1 g3 g4 (hcodeOf y my hy).1 (hcodeOf y my hy).2 hw hR (fun vs M Q' => hcall y my vs M Q' hy) (hk rfl) h
      | none =>
        rw [hy] at hl
        simp only [Bool.and_eq_true, Bool.or_eq_true, decide_eq_true_eq] at hl
        have hwl : xwds own (.invokevirtual idx, 3, [f, y, n, ci, rk]) = if y = 1100 then [.methodLink own idx ⟨"java/lang/String", "length", "()I"⟩] else [.methodLink own idx ⟨"java/lang/String", "charAt", "(I)C"⟩] := by simp only [xwds, hy]
        rw [hwl] at hw
        unfold x1R at h
        split at h
        · rename_i b S' hS
          unfold xrm at h
          split at h
          · rename_i hrm
            have hrm' : (S'.map fun v => v.category).sum ≤ 8 := Nat.le_of_ble_eq_true hrm
            obtain ⟨-, h⟩ := h
            intro H locs ls cells slots hH hL hq hc hs
            have hold := hH.2.2.1
            rcases xEv_prim hy h with ⟨j, j1, j2, j3, j4⟩ | ⟨j, j1, j2, j3, j4⟩ | ⟨j, i, j1, j2, j3, j4, j5⟩
            · cases j3
            · rcases hl with ⟨e1, e2⟩ | ⟨e1, e2⟩
              · subst e2
                have hb9 : b = G.2.2.2.2.1 j := by simpa using j3
                subst hb9
                rw [if_pos e1] at hw
                obtain ⟨cB, o1, o2, o3, -⟩ : va_O "java/lang/String" (G.2.2.2.2.1 j) (fun q => G.2.2.1.size ≤ q) s H := by obtain ⟨D, dA, H0, ⟨bS, LS, xsS⟩, sa, sv⟩ := G; exact (((hC.2.2.2.2.2.2.1).1 j j1).1).kept (H1 := H) (fun a ha _ => hold a ha)
                have hS0 : S = .ref (G.2.2.2.2.1 j) :: S' := by simpa using hS
                subst hS0
                refine sj_call (va_runV (As := []) (rest := S') (own := own) (C := "java/lang/String") ⟨hx, hb, hml, hown, hts⟩ (sj_len_c G l j j1) ⟨callB_of 0 hts (sj_code (sj_w 3 66 rfl rfl)) rfl rfl rfl (hts _ (sj_w 1 14 rfl rfl)) (hts _ (hw _ List.mem_cons_self)) (by decide +kernel) ⟨by show 1 + 1 ≤ _; omega, by show 8 + (1 + 11) + (60 * 1 + 20) ≤ _; omega⟩, hts _ (sj_w 3 64 rfl rfl), hts _ (sj_w 3 65 rfl rfl)⟩ ⟨sj_blind _ _, ⟨cB, o1, o2, o3⟩, fun U hU hW => ⟨rfl, xCtx_warm hW hC, by rw [hU]; exact hold⟩⟩ rfl rfl hL.2.1 rfl (lv_room hrm') hd ⟨by omega, by omega⟩) G (fun _ h => h) hq (fun locs1 hq1 => ?_)
                exact hk rfl _ _ _ _ (xrk_out j4) H locs1 ls _ _ hH hL hq1 hc hs
              · omega
            · rcases hl with ⟨e1, e2⟩ | ⟨e1, e2⟩
              · omega
              · subst e2
                match S, hS with
                | [], hS => simp at hS
                | v0 :: S0, hS =>
                have hS1 : S0 = .ref b :: S' := by simpa using hS
                subst hS1
                simp only [List.take_succ_cons, List.take_zero, List.reverse_cons, List.reverse_nil, List.nil_append, List.cons.injEq, Value.ref.injEq, and_true] at j4
                obtain ⟨rfl, rfl⟩ := j4
                rw [if_neg (by omega)] at hw
                obtain ⟨cB, o1, o2, o3, -⟩ : va_O "java/lang/String" (G.2.2.2.2.1 j) (fun q => G.2.2.1.size ≤ q) s H := by obtain ⟨D, dA, H0, ⟨bS, LS, xsS⟩, sa, sv⟩ := G; exact (((hC.2.2.2.2.2.2.1).1 j j1).1).kept (H1 := H) (fun a ha _ => hold a ha)
                refine sj_call (va_runV (As := [.int (nI i)]) (rest := S') (own := own) (C := "java/lang/String") ⟨hx, hb, hml, hown, hts⟩ (sj_char_c G l j i j1 j3) ⟨callB_of 1 hts (sj_code (sj_w 3 76 rfl rfl)) rfl rfl rfl (hts _ (sj_w 1 14 rfl rfl)) (hts _ (hw _ List.mem_cons_self)) (by decide +kernel) ⟨by show 3 + 1 ≤ _; omega, by show 8 + (2 + 11) + (60 * 3 + 20) ≤ _; omega⟩, hts _ (sj_w 3 74 rfl rfl), hts _ (sj_w 3 75 rfl rfl)⟩ ⟨sj_blind _ _, ⟨cB, o1, o2, o3⟩, fun U hU hW => ⟨rfl, xCtx_warm hW hC, by rw [hU]; exact hold⟩⟩ rfl rfl hL.2.1 rfl (lv_room hrm') hd ⟨by omega, by omega⟩) G (fun _ h => h) hq (fun locs1 hq1 => ?_)
                exact hk rfl _ _ _ _ (xrk_out j5) H locs1 ls _ _ hH hL hq1 hc hs
          · exact h.elim
        · exact h.elim
    · exact h.elim
  case invokespecial idx =>
    unfold xT at h
    dsimp only at h
    split at h
    · simp only [xlnk, Bool.and_eq_true, beq_iff_eq] at hl
      obtain ⟨rfl, -⟩ := hl
      exact st_objInit hx hb hml hown hd (hts _ (hw _ (by simp [xwds]))) (hts _ (hw _ (by simp [xwds]))) (hts _ (hw _ (by simp [xwds]))) (by omega) (by omega) (hk rfl) h
    · rename_i f y n nc ns
      simp only [xlnk, Bool.and_eq_true, beq_iff_eq] at hl
      obtain ⟨rfl, hl⟩ := hl
      cases hy : xP[y]? with
      | none => rw [hy] at hl; cases hl
      | some my =>
        rw [hy] at hl
        simp only [Bool.and_eq_true, Bool.or_eq_true, decide_eq_true_eq] at hl
        obtain ⟨g1, g2, g3, g4, g5⟩ := hl
        have hwl : xwds own (.invokespecial idx, 3, [f, y, n, nc, ns]) = [.instanceMethod my.1, .initialized my.1.cls] ++ (if f = 1 then [.methodLink own idx my.1] else []) := by simp only [xwds, hy]
        rw [hwl] at hw
        refine st_spec hx hb hml hown hts hC hd g4 g3 g2 g1 (hcodeOf y my hy).1 (hcodeOf y my hy).2 (hw _ (by simp)) (hw _ (by simp)) ?_ hR (fun vs M Q' => hcall y my vs M Q' hy) (hk rfl) h
        rcases g5 with e1 | ⟨e1, e2⟩
        · exact Or.inl (hw _ (by simp [e1]))
        · exact Or.inr e2
    · exact h.elim
  case ireturn =>
    unfold xT at h
    dsimp only at h
    split at h
    · rename_i x
      simp only [xlnk, Bool.and_eq_true, beq_iff_eq, decide_eq_true_eq] at hl
      obtain ⟨rfl, hl⟩ := hl
      intro H locs ls cells slots hH hL hq hc hs
      refine W.widen (k := R.cells) (n := R.slots) (by omega) (by omega) ?_
      exact hret (some (.int x)) M H locs ls pc h hH hq (Or.inl ⟨x, rfl, hd, Or.inl hl⟩)
    · rename_i x z hz
      have hl' : len = 1 ∧ rt = some .boolean := by
        simp only [xlnk, Bool.and_eq_true, beq_iff_eq] at hl
        refine ⟨hl.1, ?_⟩
        have h2 := hl.2
        split at h2
        · rename_i h9; cases h9; exact absurd rfl hz
        · simpa using h2
      obtain ⟨rfl, hl9⟩ := hl'
      intro H locs ls cells slots hH hL hq hc hs
      refine W.widen (k := R.cells) (n := R.slots) (by omega) (by omega) ?_
      exact hret (some (.int x)) M H locs ls pc h.2 hH hq (Or.inl ⟨x, rfl, hd, Or.inr ⟨hl9, h.1⟩⟩)
    · exact h.elim
  case lreturn =>
    unfold xT at h
    dsimp only at h
    split at h
    · rename_i x
      simp only [xlnk, Bool.and_eq_true, beq_iff_eq, decide_eq_true_eq] at hl
      obtain ⟨rfl, hl⟩ := hl
      intro H locs ls cells slots hH hL hq hc hs
      refine W.widen (k := R.cells) (n := R.slots) (by omega) (by omega) ?_
      exact hret (some (.long x)) M H locs ls pc h hH hq (Or.inr (Or.inl ⟨x, rfl, hd, hl⟩))
    · exact h.elim
  case areturn =>
    unfold xT at h
    dsimp only at h
    split at h
    · rename_i x
      simp only [xlnk, Bool.and_eq_true, beq_iff_eq] at hl
      obtain ⟨rfl, hl⟩ := hl
      split at hl
      · intro H locs ls cells slots hH hL hq hc hs
        refine W.widen (k := R.cells) (n := R.slots) (by omega) (by omega) ?_
        exact hret (some (.ref x)) M H locs ls pc h hH hq (Or.inr (Or.inr (Or.inl ⟨x, _, rfl, hd, rfl⟩)))
      · cases hl
    · exact h.elim
  case return_ =>
    unfold xT at h
    dsimp only at h
    split at h
    · simp only [xlnk, Bool.and_eq_true, beq_iff_eq, decide_eq_true_eq] at hl
      obtain ⟨rfl, hl⟩ := hl
      intro H locs ls cells slots hH hL hq hc hs
      refine W.widen (k := R.cells) (n := R.slots) (by omega) (by omega) ?_
      exact hret none M H locs ls pc h hH hq (Or.inr (Or.inr (Or.inr ⟨rfl, hd, hl⟩)))
    · exact h.elim
  all_goals exact h.elim
/-- a block -/
theorem xB_sound {call : xC} (hj : ∀ b t L S M u, pcs[b]? = some t → jmp b L S M u → xGG G p l e R s m args below meth c Q nL t L S M u) {nx mx : Nat}
    (hstep : ∀ (i : xI) (pc : Nat), decode cc pc = .ok (i.1, i.2.1) → xlnk own ini rt pcs pc i = true → (∀ w ∈ xwds own i, w ∈ zGood) → ∀ (k : xK), (xterm i.1 = false → ∀ L S M u, k L S M u → xGG G p l e R s m args below meth c Q nL (pc + i.2.1) L S M u) → ∀ L S M u, xT call jmp ret i k L S M u → xGG G p l e R s m args below meth c Q nL pc L S M u) :
    ∀ (is : List xI) (pc : Nat), Jvm.Free.DS.Facts cc pc (is.map (fun i => (i.1, i.2.1))) → xchkB own ini rt pcs nx pc is = true → (∀ w ∈ is.flatMap (xwds own), w ∈ zGood) → ∀ L S M u, is.foldr (xT call jmp ret) (fun L S M u => jmp nx (xmask mx L) S M u) L S M u → xGG G p l e R s m args below meth c Q nL pc L S M u
  | [], pc, _, hc, _, L, S, M, u, h => by
    simp only [xchkB, decide_eq_true_eq] at hc
    exact fun H locs ls cells slots hH hL hq h1 h2 => hj nx pc _ _ _ _ hc h H locs ls cells slots hH (xLv_mask mx hL) hq h1 h2
  | [i], pc, hf, hc, hw, L, S, M, u, h => by
    simp only [xchkB, Bool.and_eq_true, Bool.or_eq_true, decide_eq_true_eq] at hc
    refine hstep i pc hf.1 hc.1 (fun w h9 => hw w (by simpa using h9)) _ (fun ht L S M u h9 => ?_) L S M u h
    rcases hc.2 with g | g
    · rw [ht] at g; cases g
    · exact fun H locs ls cells slots hH hL hq h1 h2 => hj nx _ _ _ _ _ g h9 H locs ls cells slots hH (xLv_mask mx hL) hq h1 h2
  | i :: i2 :: is, pc, hf, hc, hw, L, S, M, u, h => by
    simp only [xchkB, Bool.and_eq_true] at hc
    exact hstep i pc hf.1 hc.1 (fun w h9 => hw w (List.mem_flatMap.mpr ⟨i, List.mem_cons_self, h9⟩)) _ (fun _ L S M u h9 => xB_sound hj hstep (i2 :: is) (pc + i.2.1) hf.2 hc.2 (fun w h9 => hw w (by
      obtain ⟨z, hz, h9⟩ := List.mem_flatMap.mp h9
      exact List.mem_flatMap.mpr ⟨z, List.mem_cons_of_mem _ hz, h9⟩)) L S M u h9) L S M u h
end XSOUND
theorem xFacts_app {cc : ByteArray} : ∀ (t1 t2 : List (Instr × Nat)) (pc : Nat), Jvm.Free.DS.Facts cc pc (t1 ++ t2) → Jvm.Free.DS.Facts cc pc t1 ∧ Jvm.Free.DS.Facts cc (pc + (t1.map (fun i => i.2)).sum) t2
  | [], t2, pc, h => ⟨trivial, by simpa using h⟩
  | (i, n) :: t1, t2, pc, h => by
    obtain ⟨h1, h2⟩ := h
    obtain ⟨g1, g2⟩ := xFacts_app t1 t2 (pc + n) h2
    refine ⟨⟨h1, g1⟩, ?_⟩
    simp only [List.map_cons, List.sum_cons]
    rw [← Nat.add_assoc]
    exact g2
/-- each block's bytes and checks -/
theorem xBs_at {cc : ByteArray} {own : String} {ini : Bool} {rt : Option FieldType} {pcs : List Nat} : ∀ (bs : List xB) (ps : List Nat) (pc : Nat), xchkBs own ini rt pcs pc ps bs = true → Jvm.Free.DS.Facts cc pc (xflat bs) → ∀ (b : Nat) (x : xB) (t : Nat), bs[b]? = some x → ps[b]? = some t → Jvm.Free.DS.Facts cc t (x.1.map (fun i => (i.1, i.2.1))) ∧ xchkB own ini rt pcs x.2.1 t x.1 = true
  | [], ps, pc, _, _, b, x, t, hb, _ => by simp at hb
  | b0 :: bs, [], pc, hc, _, b, x, t, _, ht => by simp at ht
  | b0 :: bs, p0 :: ps, pc, hc, hf, b, x, t, hb, ht => by
    simp only [xchkBs, Bool.and_eq_true, decide_eq_true_eq] at hc
    obtain ⟨rfl, hc1, hc2⟩ := hc
    have hf' : Jvm.Free.DS.Facts cc p0 (b0.1.map (fun i => (i.1, i.2.1)) ++ xflat bs) := hf
    obtain ⟨f1, f2⟩ := xFacts_app _ _ _ hf'
    cases b with
    | zero =>
      simp at hb ht
      subst hb; subst ht
      exact ⟨f1, hc1⟩
    | succ b =>
      simp only [List.getElem?_cons_succ] at hb ht
      refine xBs_at bs ps _ hc2 ?_ b x t hb ht
      rw [List.map_map] at f2
      exact f2
theorem xslots_sl (vs : List Value) : (xslots vs).length = (lg_sl vs).length ∧ ∀ (j : Nat) (v : Value), (xslots vs)[j]? = some (some v) → (j, v) ∈ lv_args 0 vs := by
  have key : ∀ (vs : List Value) (i : Nat), (xslots vs).length = (lg_sl vs).length ∧ ∀ (j : Nat) (v : Value), (xslots vs)[j]? = some (some v) → (i + j, v) ∈ lv_args i vs := by
    intro vs
    induction vs with
    | nil => intro i; exact ⟨rfl, fun j v h => by simp [xslots] at h⟩
    | cons w ws ih =>
      intro i
      rcases lv_cat w with hcat | hcat
      · obtain ⟨h1, h2⟩ := ih (i + 1)
        have ex : xslots (w :: ws) = some w :: xslots ws := by
          cases w with
          | long x => simp [Value.category] at hcat
          | double x => simp [Value.category] at hcat
          | _ => rfl
        have e : lg_sl (w :: ws) = [Slot.val w] ++ lg_sl ws := by
          unfold lg_sl
          rw [List.flatMap_cons, hcat]
          rfl
        have e2 : lv_args i (w :: ws) = (i, w) :: lv_args (i + 1) ws := by
          show (i, w) :: lv_args (if w.category = 2 then i + 2 else i + 1) ws = _
          rw [hcat]
          rfl
        refine ⟨by rw [ex, e]; simp [h1], fun j v h => ?_⟩
        rw [ex] at h
        rw [e2]
        match j, h with
        | 0, h => simp at h; subst h; exact List.mem_cons_self
        | j + 1, h =>
          simp only [List.getElem?_cons_succ] at h
          have := h2 j v h
          rw [show i + (j + 1) = i + 1 + j by omega]
          exact List.mem_cons_of_mem _ this
      · obtain ⟨h1, h2⟩ := ih (i + 2)
        have ex : xslots (w :: ws) = some w :: none :: xslots ws := by
          cases w with
          | long x => rfl
          | double x => rfl
          | _ => simp [Value.category] at hcat
        have e : lg_sl (w :: ws) = [Slot.val w, Slot.second] ++ lg_sl ws := by
          unfold lg_sl
          rw [List.flatMap_cons, hcat]
          rfl
        have e2 : lv_args i (w :: ws) = (i, w) :: lv_args (i + 2) ws := by
          show (i, w) :: lv_args (if w.category = 2 then i + 2 else i + 1) ws = _
          rw [hcat]
          rfl
        refine ⟨by rw [ex, e]; simp [h1], fun j v h => ?_⟩
        rw [ex] at h
        rw [e2]
        match j, h with
        | 0, h => simp at h; subst h; exact List.mem_cons_self
        | 1, h => simp at h
        | j + 2, h =>
          simp only [List.getElem?_cons_succ] at h
          have := h2 j v h
          rw [show i + (j + 2) = i + 2 + j by omega]
          exact List.mem_cons_of_mem _ this
  obtain ⟨h1, h2⟩ := key vs 0
  exact ⟨h1, fun j v hj => by have := h2 j v hj; rwa [Nat.zero_add] at this⟩
/-- the locals at a method's entry -/
theorem xLv_entry {vs : List Value} {n : Nat} (h : (xslots vs).length ≤ n) : xLv (xpad n (xslots vs)) ((lg_sl vs ++ List.replicate (n - (lg_sl vs).length) Slot.unset).toArray) n := by
  obtain ⟨h1, h2⟩ := xslots_sl vs
  have hl := lv_entry vs (n := n) (by omega)
  refine ⟨by unfold xpad; simp; omega, hl.1, hl.2.1, fun q hq => hl.2.2 q ?_⟩
  obtain ⟨j, v⟩ := q
  have hq := xlv_mem.mp hq
  unfold xpad at hq
  by_cases hj : j < (xslots vs).length
  · rw [List.getElem?_append_left hj] at hq
    exact h2 j v hq
  · rw [List.getElem?_append_right (by omega)] at hq
    rw [List.getElem?_replicate] at hq
    split at hq <;> cases hq
/-- a method's blocks, run from its first -/
theorem xM_sound {G : xGl} {p : Program} {l : Launch} {e : Env} {R : Room} {s : State} {m : MethodId} {args : Array Value} {below : List Frame} {meth : Method} {c : Code} {Q : State → Prop} {ret : xQ} {d : Nat} {my : xMeth} (hchk : xchkM my = true) (hwd : ∀ w ∈ my.2.2.2.2.2.1.flatMap (fun b => b.1.flatMap (xwds my.1.cls)), w ∈ zGood)
    (hx : p.tables.exec = Jvm.exec) (hb : c.code = my.2.1) (hml : c.maxLocals = my.2.2.1) (hown : s.vm.findClass my.1.cls = some m.cls) (hts : ∀ w ∈ zGood, w.before args s = true) (hC : xCtx G s) (hini : my.1.name = "<init>" → meth.name = "<init>") (hR : d + 5 ≤ R.frames ∧ 100 * d + 500 ≤ R.locals)
    (hcall : ∀ (y : Nat) (my : xMeth) (vs : List Value) (M : xM) (Q' : xQ), xP[y]? = some my → xEv xP (xprim G.2.2.2.2.1) d y vs M Q' → xMet G l d my vs M Q') (hmy : ∀ (y : Nat) (my : xMeth), xP[y]? = some my → xok my)
    (hret : ∀ v M H locs ls pc, ret v M → xH G M H → (∀ q ∈ locs, G.2.2.1.size ≤ q.base) → xretOK my.2.1 my.2.2.2.1 v pc → W p l e R s m args below meth c H locs R.cells R.slots Q (F0 m pc ls v.toList))
    (L : xL) (S : List Value) (M : xM) (u : xU) (h : xW (xEv xP (xprim G.2.2.2.2.1) d) my.2.2.2.2.2.1 ret 0 L S M u) : xGG G p l e R s m args below meth c Q my.2.2.1 0 L S M u := by
  obtain ⟨y, cc, nL, rt, pcs, bs, nd⟩ := my
  unfold xchkM at hchk
  simp only [Bool.and_eq_true, decide_eq_true_eq] at hchk
  obtain ⟨-, -, h0, hcbs, hdec, hsz⟩ := hchk
  dsimp only at *
  have hfacts : Jvm.Free.DS.Facts cc 0 (xflat bs) := Jvm.Free.DS.facts 0 (xflat bs) (by simpa using hdec) (by simpa using hsz)
  have key := h (fun b L S M u => ∀ t, pcs[b]? = some t → xGG G p l e R s m args below meth c Q nL t L S M u) (fun b L S M u hblk t ht => by
    unfold xblk at hblk
    split at hblk
    · rename_i x hbx
      obtain ⟨f1, f2⟩ := xBs_at bs pcs 0 hcbs hfacts b x t hbx ht
      have hj : ∀ (b t : Nat) (L : xL) (S : List Value) (M : xM) (u : xU), pcs[b]? = some t → (fun (b : Nat) (L : xL) (S : List Value) (M : xM) (u : xU) => ∀ t, pcs[b]? = some t → xGG G p l e R s m args below meth c Q nL t L S M u) b L S M u → xGG G p l e R s m args below meth c Q nL t L S M u := fun b t L S M u h1 h2 => h2 t h1
      exact xB_sound (mx := x.2.2) hj (fun i pc hd hl hw k hk L S M u h => xT_sound hx hb hml hown hts hC (fun h9 => hini (by simpa using h9)) hR hcall hmy hret hj hd hl hw hk L S M u h) x.1 t f1 f2 (fun w h9 => hwd w (List.mem_flatMap.mpr ⟨x, List.mem_of_getElem? hbx, h9⟩)) L S M u hblk
    · exact hblk.elim)
  exact key 0 h0
/-- every method keeps what the small machine says of it -/
theorem xsound (hmy : ∀ (y : Nat) (my : xMeth), xP[y]? = some my → xok my) (G : xGl) (l : Launch) : ∀ (d y : Nat) (my : xMeth) (vs : List Value) (M : xM) (Q' : xQ), xP[y]? = some my → xEv xP (xprim G.2.2.2.2.1) d y vs M Q' → xMet G l d my vs M Q'
  | 0, _, _, _, _, _, _, h => h.elim
  | d + 1, y, my, vs, M, Q', hy, h => by
    unfold xEv at h
    rw [hy] at h
    dsimp only at h
    split at h
    · rename_i hble
      have hle : (xslots vs).length ≤ my.2.2.1 := Nat.le_of_ble_eq_true hble
      obtain ⟨hchk, hwd⟩ := hmy y my hy
      have hpn : plainName my.1.cls = true := by
        unfold xchkM at hchk
        simp only [Bool.and_eq_true, decide_eq_true_eq] at hchk
        exact hchk.1
      refine Met.ofW (cc := my.2.1) (maxL := my.2.2.1) (ret := my.2.2.2.1) hpn rfl ?_
      intro p e s m args below meth c s₁ B hml hv
      obtain ⟨rfl, hC, hH⟩ := hv
      have hx := B.exec
      have hb := B.bytes
      have hr := B.returns
      have hts0 := atoms_spec (ws := .code my.1 my.2.1 my.2.2.1 my.2.2.2.1 :: zGood) B.pre
      have hts : ∀ w ∈ zGood, w.before vs.toArray s = true := fun w h => hts0 w (List.mem_cons_of_mem _ h)
      have hown : s.vm.findClass my.1.cls = some m.cls := findClass_of_methodNamed B.named
      have hlocks := B.notSynchronized
      have hnm : meth.name = my.1.name := (name_of_methodNamed B.named B.method).1
      rw [lg_entry_eq]
      refine xM_sound (my := my) hchk (fun w h9 => hwd w (List.mem_cons_of_mem _ h9)) hx hb hml hown hts hC (fun h9 => by rw [hnm]; exact h9) (by show d + 5 ≤ d + 1 + 4 ∧ 100 * d + 500 ≤ 100 * (d + 1) + 400; omega) (xsound hmy G l d) hmy (fun v M1 H1 locs ls pc hv hH1 hq hok => ?_) _ _ _ _ h s.heap [] _ 0 0 hH (xLv_entry hle) (fun q hq => by cases hq) (by rw [Nat.zero_add]; exact Nat.le_refl _) (by rw [Nat.zero_add]; exact Nat.le_refl _)
      rcases hok with ⟨x, rfl, hd, hrt | ⟨hrt, h01⟩⟩ | ⟨x, rfl, hd, hrt⟩ | ⟨a, n, rfl, hd, hrt⟩ | ⟨rfl, hd, hrt⟩
      · exact W.iret (Qc := xQc G Q') hx hb (by rw [hr, hrt]) (fun t ht hW => ⟨_, M1, rfl, hv, by rw [ht]; exact hH1⟩) hq hd
      · exact W.zret (Qc := xQc G Q') (ty := .boolean) hx hb (by rw [hr, hrt]) (by rcases h01 with rfl | rfl <;> rfl) (fun t ht hW => ⟨_, M1, rfl, hv, by rw [ht]; exact hH1⟩) hq hd
      · exact W.lret (Qc := xQc G Q') hx hb (by rw [hr, hrt]) (fun t ht hW => ⟨_, M1, rfl, hv, by rw [ht]; exact hH1⟩) hq hd
      · exact W.aret (Qc := xQc G Q') (rt := .object n) hx hb (by rw [hr, hrt]) (Or.inl ⟨n, rfl⟩) (Or.inr ⟨a, rfl⟩) (fun t ht hW => ⟨_, M1, rfl, hv, by rw [ht]; exact hH1⟩) hq hd
      · exact W.vret (Qc := xQc G Q') hx hb (by rw [hr, hrt]) (fun t ht hW => ⟨_, M1, rfl, hv, by rw [ht]; exact hH1⟩) hq hd
    · exact h.elim

