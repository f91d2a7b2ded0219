/-! cells that are made -/
theorem xdflt_fit {kd : Nat} {d : String} {ty : FieldType} (h : xkfit kd d = true) (hp : parseFieldDescriptor d = some ty) : defaultValue ty = xdflt kd := by
  unfold xkfit at h
  rw [hp] at h
  split at h
  all_goals first | cases h | skip
  all_goals (rename_i h1; cases h1; rfl)
section XSTEP4
variable {G : xGl} {p : Program} {l : Launch} {e : Env} {R : Room} {s : State} {m : MethodId} {args : Array Value} {below : List Frame} {meth : Method} {c : Code} {Q : State → Prop} {nL : Nat} {cc : ByteArray} {pc : Nat} {k : xK} {L : xL} {S : List Value} {M : xM} {u : xU} {own : String}
theorem st_new (hx : p.tables.exec = Jvm.exec) (hb : c.code = cc) (hown : s.vm.findClass own = some m.cls) (hts : ∀ w ∈ zGood, w.before args s = true) (hC : xCtx G s) {idx ci : Nat} {ks : List Nat} {r : vw_C} (hd : decode cc pc = .ok (.new idx, 3)) (hr : zCl[ci]? = some r) (hlen : ks.length = r.2.2) (hks : (List.range r.2.2).all (fun j => xkfit (ks.getD j 9) (r.2.1 j).2.2.1) = true) (hw1 : (Cond.classLink own idx r.1).before args s = true) (hw2 : (Cond.instantiable r.1 r.2.2).before args s = true) (hw3 : (Cond.initialized r.1).before args s = true)
    (hk : ∀ L S M u, k L S M u → xGG G p l e R s m args below meth c Q nL (pc + 3) L S M u) (h : xalloc M u ks.length (.inr (ci, ks.map xdflt)) (fun q M u => k L (.ref q :: S) M u)) : xGG G p l e R s m args below meth c Q nL pc L S M u := by
  obtain ⟨h1, h2, h3⟩ := h
  intro H locs ls cells slots hH hL hq hc hs
  have h3 := h3 H.size (xH_top hH)
  have hK : va_K G.1 zCl (zTys G.2.1) s := by obtain ⟨D, dA, H0, ⟨bS, LS, xsS⟩, sa, sv⟩ := G; exact hC.1
  have hKn := hK.1 ci r hr
  obtain ⟨⟨ty0, hty⟩, hnm, hin⟩ := zcl_ok hr
  refine W.newcK hx hb hown hw1 hw2 hw3 (g := F0 m pc ls S) rfl hd (by omega) (by omega) hKn.2.1 rfl fun H1 kC hkC e1 z1 o1 => ?_
  refine hk _ _ _ _ h3 H1 locs ls (cells + 1) (slots + r.2.2) (xH_new hH z1 o1 ?_) hL hq (by dsimp only; omega) (by dsimp only; omega)
  intro _
  refine ⟨r, hr, (u_born ty0 hts hin hKn hkC e1 hty).to (fun j hj => ?_), by rw [List.length_map]; exact hlen, hH.2.2.2⟩
  have hkj := List.all_eq_true.mp hks j (List.mem_range.mpr hj)
  rw [xdflt_fit hkj (hty j hj)]
  unfold vp_V
  rw [List.getD_eq_getElem?_getD, List.getD_eq_getElem?_getD, List.getElem?_map, List.getElem?_eq_getElem (by rw [hlen]; exact hj)]
  rfl
theorem st_newarray (hx : p.tables.exec = Jvm.exec) (hb : c.code = cc) (hC : xCtx G s) {t : ArrayType} (hd : decode cc pc = .ok (.newarray t, 2)) (ht : t = .int ∨ t = .boolean ∨ t = .long) (hw : (Cond.arrayClass (newarray.typeOf t)).before args s = true)
    (hk : ∀ L S M u, k L S M u → xGG G p l e R s m args below meth c Q nL (pc + 2) L S M u) (h : x1I S (fun n S => ¬ n < 0 ∧ n.toNatClampNeg ≤ 1000000 ∧ xalloc M u n.toNatClampNeg (xazero (xatc t) n.toNatClampNeg) (fun q M u => k L (.ref q :: S) M u))) : xGG G p l e R s m args below meth c Q nL pc L S M u := by
  unfold x1I at h
  split at h
  · rename_i n S'
    obtain ⟨hn, hn2, h1, h2, h3⟩ := h
    intro H locs ls cells slots hH hL hq hc hs
    have h3 := h3 H.size (xH_top hH)
    have hK : va_K G.1 zCl (zTys G.2.1) s := by obtain ⟨D, dA, H0, ⟨bS, LS, xsS⟩, sa, sv⟩ := G; exact hC.1
    have hbytes : n.toNatClampNeg * componentBytes (newarray.typeOf t) ≤ 536870912 := by
      rcases ht with rfl | rfl | rfl
      · show n.toNatClampNeg * 4 ≤ _; omega
      · show n.toNatClampNeg * 1 ≤ _; omega
      · show n.toNatClampNeg * 8 ≤ _; omega
    refine va_newaK hx hb hw (g := F0 m pc ls (.int n :: S')) rfl hd rfl hn rfl hbytes (by omega) (by omega) rfl fun H1 cA e1 z1 o1 hAr hNm => ?_
    refine hk _ _ _ _ h3 H1 locs ls (cells + 1) (slots + n.toNatClampNeg) (xH_new hH z1 o1 ?_) hL hq (by dsimp only; omega) (by dsimp only; omega)
    rcases ht with rfl | rfl | rfl
    · have ec : cA = G.2.1 0 := Option.some.inj (hNm.symm.trans (hK.2 0 _ rfl).2)
      subst ec
      exact (xAt_arr (by decide)).mpr ⟨e1, hH.2.2.2, (fun h9 => by cases h9), by decide, by decide⟩
    · have ec : cA = G.2.1 1 := Option.some.inj (hNm.symm.trans (hK.2 1 _ rfl).2)
      subst ec
      exact (xAt_arr (by decide)).mpr ⟨e1, hH.2.2.2, fun _ => ⟨_, rfl, fun _ => Or.inl rfl⟩, by decide, by decide⟩
    · have ec : cA = G.2.1 2 := Option.some.inj (hNm.symm.trans (hK.2 2 _ rfl).2)
      subst ec
      exact (xAt_arr (by decide)).mpr ⟨e1, hH.2.2.2, (fun h9 => by cases h9), by decide, by decide⟩
  · exact h.elim
theorem st_anewarray (hx : p.tables.exec = Jvm.exec) (hb : c.code = cc) (hown : s.vm.findClass own = some m.cls) (hC : xCtx G s) {idx tc : Nat} {C : String} {t0 : Nat} (hd : decode cc pc = .ok (.anewarray idx, 3)) (htc : ¬ tc = 7 ∧ ¬ tc = 1 ∧ tc < 7 ∧ ¬ tc = 3) (hty : (zTys G.2.1)[t0]? = some (G.2.1 tc, .object C)) (hw : (Cond.classLink own idx C).before args s = true) (hover : va_AO C s)
    (hk : ∀ L S M u, k L S M u → xGG G p l e R s m args below meth c Q nL (pc + 3) L S M u) (h : x1I S (fun n S => ¬ n < 0 ∧ n.toNatClampNeg ≤ 1000000 ∧ xalloc M u n.toNatClampNeg (.inl (tc, n.toNatClampNeg, .inr (.inr (.inr (.inr (fun _ => none)))))) (fun q M u => k L (.ref q :: S) M u))) : xGG G p l e R s m args below meth c Q nL pc L S M u := by
  unfold x1I at h
  split at h
  · rename_i n S'
    obtain ⟨hn, hn2, h1, h2, h3⟩ := h
    intro H locs ls cells slots hH hL hq hc hs
    have h3 := h3 H.size (xH_top hH)
    have hK : va_K G.1 zCl (zTys G.2.1) s := by obtain ⟨D, dA, H0, ⟨bS, LS, xsS⟩, sa, sv⟩ := G; exact hC.1
    refine W.anew hx hb hown hw (va_AO.use hover) (g := F0 m pc ls (.int n :: S')) rfl hd rfl hn (by omega) (by omega) (by omega) fun cA kA comp f1 f2 f3 f4 => ?_
    obtain ⟨kA', comp', -, -, -, f5⟩ := (hK.2 t0 _ hty).2
    have ec : cA = G.2.1 tc := Option.some.inj (f1.symm.trans f5)
    subst ec
    generalize hH1 : H.push ({ cls := G.2.1 tc, slots := Array.replicate n.toNatClampNeg .null, vm := .none } : Cell) = H1
    have z1 : H1.size = H.size + 1 := by rw [← hH1, Array.size_push]
    have e1 : H1[H.size]? = some (arrV (G.2.1 tc) n.toNatClampNeg (fun _ => .null)) := by rw [← hH1, Array.getElem?_push_size, ← arrV_new]
    have o1 : ∀ q : Nat, q < H.size → H1[q]? = H[q]? := fun q hq => by rw [← hH1, Array.getElem?_push, if_neg (Nat.ne_of_lt hq)]
    refine hk _ _ _ _ h3 H1 locs ls (cells + 1) (slots + n.toNatClampNeg) (xH_new hH z1 o1 ?_) hL hq (by dsimp only; omega) (by dsimp only; omega)
    exact (xAt_arr htc.1).mpr ⟨e1, hH.2.2.2, fun h9 => absurd h9 htc.2.1, htc.2.2⟩
  · exact h.elim
theorem st_multi (hx : p.tables.exec = Jvm.exec) (hb : c.code = cc) (hown : s.vm.findClass own = some m.cls) (hC : xCtx G s) {idx : Nat} (hd : decode cc pc = .ok (.multianewarray idx 2, 4)) (hw : (Cond.classLink own idx "[[I").before args s = true) (hw2 : (Cond.arrayClass .int).before args s = true)
    (hk : ∀ L S M u, k L S M u → xGG G p l e R s m args below meth c Q nL (pc + 4) L S M u) (h : x2I S (fun n j S => ¬ n < 0 ∧ ¬ j < 0 ∧ n.toNatClampNeg ≤ 1000000 ∧ j.toNatClampNeg ≤ 1000000 ∧ xmul M u n.toNatClampNeg j.toNatClampNeg (fun q M u => k L (.ref q :: S) M u))) : xGG G p l e R s m args below meth c Q nL pc L S M u := by
  unfold x2I at h
  split at h
  · rename_i j n S'
    obtain ⟨hn, hj, hn2, hj2, h1, h2, h3⟩ := h
    intro H locs ls cells slots hH hL hq hc hs
    have h3 := h3 H.size (xH_top hH)
    have hK : va_K G.1 zCl (zTys G.2.1) s := by obtain ⟨D, dA, H0, ⟨bS, LS, xsS⟩, sa, sv⟩ := G; exact hC.1
    have hover : xAOA s := by obtain ⟨D, dA, H0, ⟨bS, LS, xsS⟩, sa, sv⟩ := G; exact hC.2.2.2.2.2.1
    have hlk : (Cond.classLink own idx ("[" ++ (FieldType.array FieldType.int).toString)).before args s = true := hw
    intro T hT Xs
    obtain ⟨vm₁, cA, comp, -, fA, fC, hO, -, X', step⟩ := Xs.multianewarray2F hx hown hlk hover hw2 (g := F0 m pc ls (.int j :: .int n :: S')) rfl (by rw [hb]; exact hd) rfl hn hj (by omega) (by show _ * 4 ≤ _; omega) (by omega) rfl rfl (by omega) (by omega)
    have ec1 : cA = G.2.1 6 := Option.some.inj (fA.symm.trans (hK.2 5 _ rfl).2)
    have ec2 : comp = G.2.1 0 := Option.some.inj (fC.symm.trans (hK.2 0 _ rfl).2)
    subst ec1
    subst ec2
    generalize hF : Jvm.Free.Multi.fill (T.setVm vm₁) (G.2.1 6) (G.2.1 0) n.toNatClampNeg j.toNatClampNeg (defaultValue .int) n.toNatClampNeg = F at X' step
    have hTh : (T.setVm vm₁).heap = H := hT
    obtain ⟨f1, f2, -, -⟩ := Jvm.Free.Multi.fill_facts (T.setVm vm₁) (G.2.1 6) (G.2.1 0) n.toNatClampNeg j.toNatClampNeg (defaultValue .int) n.toNatClampNeg
    rw [hF, hTh] at f1 f2
    have hold : ∀ x : Nat, x < H.size → F.heap[x]? = H[x]? := fun x hx => by
      have := Jvm.Free.Multi.fill_old (T.setVm vm₁) (G.2.1 6) (G.2.1 0) n.toNatClampNeg j.toNatClampNeg (defaultValue .int) (a := x) (by rw [hTh]; exact hx) n.toNatClampNeg
      rw [hF, hTh] at this
      exact this
    have hrow : ∀ i : Nat, i < n.toNatClampNeg → F.heap[H.size + 1 + i]? = some (vp_cell (G.2.1 0) (j.toNatClampNeg, .inl (fun _ => 0))) := fun i hi => by
      have := Jvm.Free.Multi.fill_inner (T.setVm vm₁) (G.2.1 6) (G.2.1 0) n.toNatClampNeg j.toNatClampNeg (defaultValue .int) n.toNatClampNeg i hi
      rw [hF, hTh] at this
      rw [this]
      exact congrArg some (arrV_new _ _ _)
    have hout : Jvm.Free.Multi.outerC (G.2.1 6) n.toNatClampNeg H.size n.toNatClampNeg = vp_cell (G.2.1 6) (n.toNatClampNeg, .inr (.inr (.inr (.inr (fun i => if i < n.toNatClampNeg then some (H.size + 1 + i) else none))))) := by
      have go : ∀ i : Nat, Jvm.Free.Multi.outerC (G.2.1 6) n.toNatClampNeg H.size i = arrV (G.2.1 6) n.toNatClampNeg (fun j => va_rf (if j < i then some (H.size + 1 + j) else none)) := by
        intro i
        induction i with
        | zero =>
          show ({ cls := G.2.1 6, slots := Array.replicate n.toNatClampNeg .null, vm := .none } : Cell) = _
          rw [arrV_new]
          refine congrArg (arrV (G.2.1 6) n.toNatClampNeg) (funext fun j => ?_)
          simp [va_rf]
        | succ i ih =>
          show (Jvm.Free.Multi.outerC (G.2.1 6) n.toNatClampNeg H.size i).setSlot i (.ref (H.size + 1 + i)) = _
          rw [ih, arrV_store]
          refine congrArg (arrV (G.2.1 6) n.toNatClampNeg) (funext fun j => ?_)
          by_cases e : j = i
          · subst e
            simp [updV, va_rf]
          · by_cases h : j < i
            · simp [updV, e, h, Nat.lt_succ_of_lt h]
            · simp [updV, e, h, show ¬ j < i + 1 by omega]
      rw [vp_cell_q]
      exact go n.toNatClampNeg
    rw [hout] at f2
    have hH1 : xH G (fun x => if x = H.size then some (.inl (6, n.toNatClampNeg, .inr (.inr (.inr (.inr (fun i => if i < n.toNatClampNeg then some (H.size + 1 + i) else none)))))) else if H.size < x ∧ x ≤ H.size + n.toNatClampNeg then some (.inl (0, j.toNatClampNeg, .inl (fun _ => 0))) else M x) F.heap := by
      refine ⟨fun a e9 ha => ?_, fun a => ?_, fun a ha => ?_, by rw [f1]; have := hH.2.2.2; omega⟩
      · dsimp only at ha
        split at ha
        · rename_i ea
          cases ha
          rw [ea]
          exact (xAt_arr (by decide)).mpr ⟨f2, hH.2.2.2, (fun h9 => by cases h9), by decide, by decide⟩
        · split at ha
          · rename_i ea
            cases ha
            refine (xAt_arr (by decide)).mpr ⟨?_, by have := hH.2.2.2; omega, (fun h9 => by cases h9), by decide, by decide⟩
            have := hrow (a - (H.size + 1)) (by omega)
            rw [show H.size + 1 + (a - (H.size + 1)) = a by omega] at this
            exact this
          · have hlt : a < H.size := by
              rcases Nat.lt_or_ge a H.size with q | q
              · exact q
              · rw [(hH.2.1 a).mpr q] at ha; cases ha
            exact xAt_kept (hH.1 a e9 ha) (hold a hlt)
      · dsimp only
        rw [f1]
        split
        · rename_i ea; subst ea; simp; omega
        · split
          · simp; omega
          · rw [hH.2.1 a]; omega
      · rw [hold a (by have := hH.2.2.2; omega)]; exact hH.2.2.1 a ha
    obtain ⟨t, a1, b1⟩ := hk _ _ _ _ h3 F.heap locs ls (cells + 1 + n.toNatClampNeg) (slots + n.toNatClampNeg + n.toNatClampNeg * j.toNatClampNeg) hH1 hL hq (by dsimp only; omega) (by dsimp only; omega) F rfl X'
    refine ⟨t, step t ?_, b1⟩
    rw [show T.heap.size = H.size by rw [hT]]
    exact a1
  · exact h.elim
theorem st_objInit (hx : p.tables.exec = Jvm.exec) (hb : c.code = cc) (hml : c.maxLocals = nL) (hown : s.vm.findClass own = some m.cls) {idx : Nat} (hd : decode cc pc = .ok (.invokespecial idx, 3)) (hw1 : (Cond.methodLink own idx objectInit).before args s = true) (hw2 : (Cond.instanceMethod objectInit).before args s = true) (hw3 : (Cond.code objectInit ⟨#[0xb1]⟩ 1 none).before args s = true) (hR1 : 1 ≤ R.frames) (hR2 : 100 ≤ R.locals)
    (hk : ∀ L S M u, k L S M u → xGG G p l e R s m args below meth c Q nL (pc + 3) L S M u) (h : x1R S (fun _ S => xrm S (k L S M u))) : xGG G p l e R s m args below meth c Q nL pc L S M u := by
  unfold x1R at h
  split at h
  · rename_i a S'
    unfold xrm at h
    split at h
    · rename_i hrm
      intro H locs ls cells slots hH hL hq hc hs
      have hrm' : (S'.map fun v => v.category).sum ≤ 8 := Nat.le_of_ble_eq_true hrm
      exact W.objInit hx hb hown hw1 hw2 hw3 (g := F0 m pc ls (.ref a :: S')) rfl (by rw [hml]; exact hL.2.1) rfl hd hR1 (by show 2 * 0 + _ + 12 ≤ _; omega) (hk _ _ _ _ h H locs ls cells slots hH hL hq hc hs)
    · exact h.elim
  · exact h.elim
theorem st_copy (hx : p.tables.exec = Jvm.exec) (hb : c.code = cc) (hml : c.maxLocals = nL) (hown : s.vm.findClass own = some m.cls) (hC : xCtx G s) {idx : Nat} (hd : decode cc pc = .ok (.invokestatic idx, 3)) (hw1 : (Cond.methodLink own idx arraycopyName).before args s = true) (hw2 : (Cond.native arraycopyName).before args s = true) (hw3 : (Cond.static arraycopyName).before args s = true) (hw4 : (Cond.initialized "java/lang/System").before args s = true) (hR1 : 1 ≤ R.frames) (hR2 : 100 ≤ R.locals)
    (hk : ∀ L S M u, k L S M u → xGG G p l e R s m args below meth c Q nL (pc + 3) L S M u) (h : xcpS S (fun a0 sp a dp n S => xrm S (xcopy M a0 sp a dp n (fun M => k L S M u)))) : xGG G p l e R s m args below meth c Q nL pc L S M u := by
  unfold xcpS at h
  split at h
  · rename_i n dp a sp a0 S'
    unfold xrm at h
    split at h
    case h_2 => exact h.elim
    rename_i hrm
    have hrm' : (S'.map fun v => v.category).sum ≤ 8 := Nat.le_of_ble_eq_true hrm
    unfold xcopy at h
    split at h
    · rename_i t0 n0 f t1 n1 g hM0 hM1
      obtain ⟨rfl, htc, g1, g2, g3, g4, g5, h⟩ := h
      intro H locs ls cells slots hH hL hq hc hs
      have hK : va_K G.1 zCl (zTys G.2.1) s := by obtain ⟨D, dA, H0, ⟨bS, LS, xsS⟩, sa, sv⟩ := G; exact hC.1
      have h7 : ¬ t0 = 7 := by rcases htc with rfl | rfl <;> decide
      have hat0 := (xAt_arr h7).mp (hH.1 a0 _ hM0)
      have hat1 := (xAt_arr h7).mp (hH.1 a _ hM1)
      have hcase : ∃ (t : Nat) (ty : FieldType), (zTys G.2.1)[t]? = some (G.2.1 t0, ty) ∧ refKind ty = false ∧ (∀ i, fits ty (.int (f i)) = true) := by
        rcases htc with rfl | rfl
        · exact ⟨0, .int, rfl, rfl, fun _ => rfl⟩
        · refine ⟨1, .boolean, rfl, rfl, fun i => ?_⟩
          obtain ⟨f', hf', h01⟩ := hat0.2.2.1 rfl
          cases hf'
          rcases h01 i with e | e <;> rw [e] <;> rfl
      obtain ⟨t, ty, ht, hprim, hfit⟩ := hcase
      have nn : ∀ z : Int32, ¬ z < 0 → z.toInt = (z.toNatClampNeg : Int) := by
        intro z hz
        have hz0 : (0 : Int) ≤ z.toInt := by
          have := Int32.not_lt.mp hz
          simpa using Int32.le_iff_toInt_le.mp this
        show z.toInt = ((z.toInt.toNat : Nat) : Int)
        omega
      intro T hT X
      obtain ⟨-, k0, hk0, cm0, hkk0⟩ := (hK.2 t _ ht).1 n0 (fun j => .int (f j))
      obtain ⟨-, k1, hk1, cm1, hkk1⟩ := (hK.2 t _ ht).1 n1 (fun j => .int (g j))
      have hroom9 : 2 * (F0 m pc ls (.int n :: .int dp :: .ref a :: .int sp :: .ref a0 :: S')).monitorRoom + (S'.map fun v => v.category).sum + (nativeFrameWords "java/lang/System" "arraycopy" 5 + 11) ≤ R.locals := by
        have h9 : nativeFrameWords "java/lang/System" "arraycopy" 5 + 11 ≤ 60 := by decide
        show 2 * 0 + _ + _ ≤ _
        omega
      obtain ⟨vm', X', step⟩ := X.arraycopy hx hown hw1 hw2 hw3 hw4 (src := a0) (dst := a) (cs := vp_cell (G.2.1 t0) (n0, .inl f)) (cd := vp_cell (G.2.1 t0) (n1, .inl g)) (srcPos := sp) (destPos := dp) (n := n) (by rw [hT]; exact hat0.1) (by rw [hT]; exact hat1.1)
        (fun _ h => by cases h) (fun _ h => by cases h) (fun h => by cases h) (fun h => by cases h) hk0 hk1 hkk0 hkk1 (by simp [hprim]) g1 g2 g3
        (by rw [nn sp g1, nn n g3]; show ¬ _ > ((arrV _ n0 (fun j => .int (f j))).slots.size : Int); rw [arrV_size]; omega)
        (by rw [nn dp g2, nn n g3]; show ¬ _ > ((arrV _ n1 (fun j => .int (g j))).slots.size : Int); rw [arrV_size]; omega)
        (fun vm₁ _ i hi => by
          have e : (vp_cell (G.2.1 t0) (n0, .inl f)).slots.getD (sp.toNatClampNeg + i) .null = .int (f (sp.toNatClampNeg + i)) := by
            show (arrV _ n0 (fun j => .int (f j))).slots.getD _ _ = _
            rw [Array.getD_eq_getD_getElem?, arrV_read _ _ (by omega)]
            rfl
          refine ⟨?_, ?_⟩
          · rw [e]
            exact hfit _
          · rw [e]
            exact trivial)
        (g := F0 m pc ls (.int n :: .int dp :: .ref a :: .int sp :: .ref a0 :: S')) rfl (by rw [hml]; exact hL.2.1) (rest := S') rfl (by rw [hb]; exact hd) hR1 hroom9
      have e1 : copied (vp_cell (G.2.1 t0) (n0, .inl f)) (vp_cell (G.2.1 t0) (n1, .inl g)) sp dp n = vp_cell (G.2.1 t0) (n1, .inl (va_cpy f g sp.toNatClampNeg dp.toNatClampNeg n.toNatClampNeg)) := va_copied (fun z => .int z) _ _ f g g4
      rw [e1] at X' step
      have hl : a < H.size := (Array.getElem?_eq_some_iff.mp hat1.1).1
      have hheap : ((T.setVm vm').setCell a (vp_cell (G.2.1 t0) (n1, .inl (va_cpy f g sp.toNatClampNeg dp.toNatClampNeg n.toNatClampNeg)))).heap = H.setIfInBounds a (vp_cell (G.2.1 t0) (n1, .inl (va_cpy f g sp.toNatClampNeg dp.toNatClampNeg n.toNatClampNeg))) := by rw [← hT]; rfl
      have oq : ∀ q : Nat, q ≠ a → (H.setIfInBounds a (vp_cell (G.2.1 t0) (n1, .inl (va_cpy f g sp.toNatClampNeg dp.toNatClampNeg n.toNatClampNeg))))[q]? = H[q]? := fun q hq => by simp [Array.getElem?_setIfInBounds, Ne.symm hq]
      have hH1 : xH G (xset M a (.inl (t0, n1, .inl (va_cpy f g sp.toNatClampNeg dp.toNatClampNeg n.toNatClampNeg)))) (H.setIfInBounds a (vp_cell (G.2.1 t0) (n1, .inl (va_cpy f g sp.toNatClampNeg dp.toNatClampNeg n.toNatClampNeg)))) := by
        refine xH_set hH hM1 hat1.2.1 (by simp) oq ?_
        refine (xAt_arr h7).mpr ⟨by simp [Array.getElem?_setIfInBounds, hl], hat1.2.1, fun h9 => ?_, hat1.2.2.2⟩
        obtain ⟨f', hf', h01⟩ := hat0.2.2.1 h9
        obtain ⟨g', hg', k01⟩ := hat1.2.2.1 h9
        cases hf'
        cases hg'
        refine ⟨_, rfl, fun j => ?_⟩
        unfold va_cpy
        split
        · exact h01 _
        · exact k01 _
      obtain ⟨t, a1, b1⟩ := hk _ _ _ _ h _ _ ls cells slots hH1 hL (fun q hq' => by
          rcases List.mem_append.mp hq' with h | h
          · exact hq q h
          · obtain ⟨z, -, hz⟩ := List.mem_map.mp h
            rw [← hz]
            exact hat1.2.1) hc hs _ hheap X'
      exact ⟨t, step t a1, b1⟩
    · exact h.elim
  · exact h.elim
end XSTEP4
