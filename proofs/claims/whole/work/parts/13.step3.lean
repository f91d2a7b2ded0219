/-! reads and writes of cells -/
theorem zcl_lt {ci : Nat} {r : vw_C} (h : zCl[ci]? = some r) : ci < 13 := by
  have := (List.getElem?_eq_some_iff.mp h).1
  simpa [zCl] using this
/-- what is known of each class -/
def zok (r : vw_C) : Prop := (∃ ty : Nat → FieldType, ∀ k, k < r.2.2 → parseFieldDescriptor (r.2.1 k).2.2.1 = some (ty k)) ∧ (∀ a, a < r.2.2 → ∀ b, b < r.2.2 → a ≠ b → (r.2.1 a).2.1 ≠ (r.2.1 b).2.1) ∧ ∀ w ∈ u_ws r.1 r.2.1 r.2.2, w ∈ zGood
theorem zcl_ok {ci : Nat} {r : vw_C} (h : zCl[ci]? = some r) : zok r := by
  have hlt := zcl_lt h
  match ci, hlt, h with
  | 0, _, h => cases h; exact ⟨⟨zY0, zY0_ok⟩, zN0, zL0⟩
  | 1, _, h => cases h; exact ⟨⟨zY1, zY1_ok⟩, zN1, zL1⟩
  | 2, _, h => cases h; exact ⟨⟨zY2, zY2_ok⟩, zN2, zL2⟩
  | 3, _, h => cases h; exact ⟨⟨zY3, zY3_ok⟩, zN3, zL3⟩
  | 4, _, h => cases h; exact ⟨⟨zY4, zY4_ok⟩, zN4, zL4⟩
  | 5, _, h => cases h; exact ⟨⟨zY5, zY5_ok⟩, zN5, zL5⟩
  | 6, _, h => cases h; exact ⟨⟨zY6, zY6_ok⟩, zN6, zL6⟩
  | 7, _, h => cases h; exact ⟨⟨zY7, zY7_ok⟩, zN7, zL7⟩
  | 8, _, h => cases h; exact ⟨⟨zY8, zY8_ok⟩, zN8, zL8⟩
  | 9, _, h => cases h; exact ⟨⟨zY9, zY9_ok⟩, zN9, zL9⟩
  | 10, _, h => cases h; exact ⟨⟨zY10, zY10_ok⟩, zN10, zL10⟩
  | 11, _, h => cases h; exact ⟨⟨zY11, zY11_ok⟩, zN11, zL11⟩
  | 12, _, h => cases h; exact ⟨⟨zY12, zY12_ok⟩, zN12, zL12⟩
theorem xAt_arr {G : xGl} {a tc : Nat} {x : vp_A} {H : Heap} (h7 : ¬ tc = 7) : xAt G a (.inl (tc, x)) H ↔ (H[a]? = some (vp_cell (G.2.1 tc) x) ∧ G.2.2.1.size ≤ a ∧ (tc = 1 → xbool x) ∧ tc < 7 ∧ ¬ tc = 3) := by
  unfold xAt
  dsimp only
  rw [if_neg h7]
theorem xAt_scr {G : xGl} {a : Nat} {x : vp_A} {H : Heap} (h : xAt G a (.inl (7, x)) H) : a = G.2.2.2.1.1 ∧ x = (G.2.2.2.1.2.1, .inl G.2.2.2.1.2.2) := h
theorem xfl_spec {ci j : Nat} (h : xfl ci j = true) : ∃ r : vw_C, zCl[ci]? = some r ∧ j < r.2.2 := by
  unfold xfl at h
  split at h
  · rename_i r hr; exact ⟨r, hr, by simpa using h⟩
  · cases h
theorem xflw_spec {own : String} {idx ci j : Nat} {r : vw_C} (hr : zCl[ci]? = some r) : xflw own idx ci j = [.fieldLink own idx (r.2.1 j).1 (r.2.1 j).2.1 (r.2.1 j).2.2.1] := by
  unfold xflw
  rw [hr]
theorem xfit_out {kd : Nat} {v : Value} {K : Prop} {d : String} (h : xfit kd v K) (hk : xkfit kd d = true) : K ∧ ∃ ty, parseFieldDescriptor d = some ty ∧ narrow ty v = v ∧ fits ty v = true := by
  unfold xkfit at hk
  unfold xfit at h
  split at h
  · split at hk
    all_goals first | cases hk | skip
    all_goals (rename_i h1; first | (exact ⟨h, _, h1, rfl, rfl⟩) | cases ‹(0 : Nat) = _›)
  · split at hk
    all_goals first | cases hk | skip
    all_goals first | contradiction | skip
    rename_i h1
    refine ⟨h.2, _, h1, ?_, ?_⟩
    · rcases h.1 with e | e <;> rw [e] <;> rfl
    · rcases h.1 with e | e <;> rw [e] <;> rfl
  · split at hk
    all_goals first | cases hk | skip
    all_goals first | contradiction | skip
    rename_i h1
    exact ⟨h, _, h1, rfl, rfl⟩
  · split at hk
    all_goals first | cases hk | skip
    all_goals first | contradiction | skip
    all_goals (rename_i h1; exact ⟨h, _, h1, rfl, rfl⟩)
  · exact h.elim
theorem vp_nar01 (x : Int32) : vp_nar .boolean x = 0 ∨ vp_nar .boolean x = 1 := by
  show (x &&& 1) = 0 ∨ (x &&& 1) = 1
  obtain ⟨j, hj, e⟩ := pk_andE x (m := 1) 1 (by decide)
  rw [e]
  rcases (show j = 0 ∨ j = 1 by omega) with rfl | rfl
  · exact Or.inl rfl
  · exact Or.inr rfl
theorem va_P1 {D : va_G} {cl : List vw_C} {q : Nat × va_E} {H : Heap} (h : va_at D cl q H) : va_P D cl [q] H := fun k x hk => by
  have h0 : k < 1 := (List.getElem?_eq_some_iff.mp hk).1
  rw [show k = 0 by omega] at hk
  cases hk
  exact h
section XSTEP3
variable {G : xGl} {p : Program} {l : Launch} {e : Env} {R : Room} {s : State} {m : MethodId} {args : Array Value} {below : List Frame} {meth : Method} {c : Code} {Q : State → Prop} {nL : Nat} {cc : ByteArray} {pc : Nat} {k : xK} {L : xL} {S : List Value} {M : xM} {u : xU} {own : String}

/-- reading a field: the value as the small machine has it -/
theorem st_get (hx : p.tables.exec = Jvm.exec) (hb : c.code = cc) (hown : s.vm.findClass own = some m.cls) (hts : ∀ w ∈ zGood, w.before args s = true) (hC : xCtx G s) {idx ci j kd : Nat} (hd : decode cc pc = .ok (.getfield idx, 3)) (hl : xfl ci j = true) (hw : ∀ w ∈ xflw own idx ci j, w ∈ zGood) (hk : ∀ L S M u, k L S M u → xGG G p l e R s m args below meth c Q nL (pc + 3) L S M u) (h : x1R S (fun a S => xfv M a ci j kd (fun v => k L (v :: S) M u))) : xGG G p l e R s m args below meth c Q nL pc L S M u := by
  obtain ⟨r, hr, hj⟩ := xfl_spec hl
  rw [xflw_spec hr] at hw
  have hlink := hts _ (hw _ List.mem_cons_self)
  obtain ⟨D, dA, H0, ⟨bS, LS, xsS⟩, sa, sv⟩ := G
  unfold x1R at h
  split at h
  · rename_i a S'
    have key : ∃ fs v, M a = some (.inr (ci, fs)) ∧ fs[j]? = some v ∧ k L (v :: S') M u := by
      unfold xfv at h
      split at h
      · unfold xgfL at h
        split at h
        · rename_i ci' fs hM
          obtain ⟨rfl, h⟩ := h
          split at h
          · rename_i x hx'; exact ⟨fs, _, hM, hx', h⟩
          · exact h.elim
        · exact h.elim
      · unfold xgfR at h
        split at h
        · rename_i ci' fs hM
          obtain ⟨rfl, h⟩ := h
          split at h
          · rename_i x hx'; exact ⟨fs, _, hM, hx', h⟩
          · exact h.elim
        · exact h.elim
      · unfold xgfI at h
        split at h
        · rename_i ci' fs hM
          obtain ⟨rfl, h⟩ := h
          split at h
          · rename_i x hx'; exact ⟨fs, _, hM, hx', h⟩
          · exact h.elim
        · exact h.elim
    obtain ⟨fs, v, hM, hv, hkk⟩ := key
    intro H locs ls cells slots hH hL hq hc hs
    obtain ⟨r', hr', ho, hlen, hba⟩ := hH.1 a _ hM (zcl_lt hr)
    have e : r' = r := Option.some.inj (hr'.symm.trans hr)
    subst e
    have hP : va_P D zCl [(a, .inr (ci, fs))] H := va_P1 ⟨r', hr, ho⟩
    exact va_get (D := D) (cl := zCl) (C := r'.1) (T := r'.2.1) (N := r'.2.2) hx hb hts (zcl_ok hr).2.2 hown hC.1 hP 0 rfl hr j hj hlink (fun _ h => h) hv hd (hk _ _ _ _ hkk H locs ls cells slots hH hL hq hc hs)
  · exact h.elim
theorem st_put (hx : p.tables.exec = Jvm.exec) (hb : c.code = cc) (hown : s.vm.findClass own = some m.cls) (hts : ∀ w ∈ zGood, w.before args s = true) (hC : xCtx G s) {ini : Bool} (hini : ini = true → meth.name = "<init>") {idx ci j kd : Nat} (hd : decode cc pc = .ok (.putfield idx, 3)) (hl : xfl ci j = true) (hl2 : xpl own ini ci j kd = true) (hw : ∀ w ∈ xflw own idx ci j, w ∈ zGood) (hk : ∀ L S M u, k L S M u → xGG G p l e R s m args below meth c Q nL (pc + 3) L S M u) (h : xVR S (fun a v S => xfit kd v (xpf M a ci j v (fun M => k L S M u)))) : xGG G p l e R s m args below meth c Q nL pc L S M u := by
  obtain ⟨r, hr, hj⟩ := xfl_spec hl
  rw [xflw_spec hr] at hw
  have hlink := hts _ (hw _ List.mem_cons_self)
  unfold xpl at hl2
  rw [hr] at hl2
  dsimp only at hl2
  rw [Bool.and_eq_true] at hl2
  obtain ⟨hkf, hfin⟩ := hl2
  obtain ⟨⟨ty0, hty⟩, hnm, hin⟩ := zcl_ok hr
  unfold xVR at h
  split at h
  · rename_i v a S'
    obtain ⟨h8, ty, hpd, hnar, hfits⟩ := xfit_out h hkf
    unfold xpf at h8
    split at h8
    · rename_i ci' fs hM
      obtain ⟨rfl, h7⟩ := h8
      intro H locs ls cells slots hH hL hq hc hs
      have hat := hH.1 a _ hM (zcl_lt hr)
      obtain ⟨r', hr', ho, hlen, hba⟩ := hat
      have e : r' = r := Option.some.inj (hr'.symm.trans hr)
      subst e
      obtain ⟨cell, q1, q2, q3, q4⟩ := ho
      have hK : va_K G.1 zCl (zTys G.2.1) s := by obtain ⟨D, dA, H0, ⟨bS, LS, xsS⟩, sa, sv⟩ := G; exact hC.1
      obtain ⟨hS, hfc, kC, hkC, hkind⟩ := hK.1 _ _ hr
      have hap := va_apart (own := own) hts hin ty0 hty hnm hK hr
      obtain ⟨cf, kf, fi, f, hi, hsl⟩ := hS j hj
      have hst := (u_facts hfc hkC (u_lays hts hin hj) hi).1
      have fin : ∀ H' : Heap, H'[a]? = some (cell.setSlot f.slot v) → H'.size = H.size → (∀ q, q ≠ a → H'[q]? = H[q]?) → W p l e R s m args below meth c H' (locs ++ [⟨a, f.slot⟩]) cells slots Q (F0 m (pc + 3) ls S') := by
        intro H' e1 e2 e3
        refine hk _ _ _ _ h7 H' _ ls cells slots (xH_set hH hM hba e2 e3 ?_) hL ?_ hc hs
        · intro _
          refine ⟨r', hr, ?_, by rw [List.length_set]; exact hlen, hba⟩
          rw [hsl] at e1
          exact t_OB.to (V := updV (vp_V fs) j v) ⟨_, e1, q2, q3, t_set q4 hap hj v⟩ (fun i _ => vp_updV_set (by rw [hlen]; exact hj) v i)
        · intro q hq'
          rcases List.mem_append.mp hq' with g | g
          · exact hq q g
          · rw [List.mem_singleton.mp g]; exact hba
      cases hfl : (r'.2.1 j).2.2.2 with
      | false =>
        have hlay := hts _ (hin _ (u_in_lay hj))
        unfold u_lay at hlay
        rw [if_neg (by rw [hfl]; decide)] at hlay
        have h6 := u_store hfc hkC hkind hlay hi hpd hnar hfits
        exact W.putK hx hb (f := f) ⟨hown, hlink, ⟨_, _, _, hi⟩, hst⟩ (by rw [q2]; exact h6) q1 q3 (by rw [hsl]; exact k2_hasslot (q4 j hj)) rfl rfl hd fin
      | true =>
        rw [hfl] at hfin
        simp only [Bool.not_true, Bool.false_or, Bool.and_eq_true, decide_eq_true_eq] at hfin
        have hlay := hts _ (hin _ (u_in_lay hj))
        unfold u_lay at hlay
        rw [if_pos hfl] at hlay
        have hcf : m.cls = cf := by
          obtain ⟨_, _, c', _, _, _, -, -, hf', -, -, -, hown2, -⟩ := Cond.laysFinal_spec hlay
          have e1 : c' = cf := by have := hi.symm.trans hf'; simp at this; exact this.1.symm
          rw [hfin.2] at hown2
          rw [← e1]; exact Option.some.inj (hown.symm.trans hown2)
        have h6 := u_fits hfc hkC hkind (Or.inr hlay) hi hpd hnar hfits
        exact W.putFinK hx hb hown hlink hi hst hcf (hini hfin.1) (by rw [q2]; exact h6) q1 q3 (by rw [hsl]; exact k2_hasslot (q4 j hj)) rfl rfl hd fin
    · exact h8.elim
  · exact h.elim
theorem st_baload (hx : p.tables.exec = Jvm.exec) (hb : c.code = cc) (hC : xCtx G s) (hd : decode cc pc = .ok (.baload, 1)) (hk : ∀ L S M u, k L S M u → xGG G p l e R s m args below meth c Q nL (pc + 1) L S M u) (h : xIR S (fun a i S => xaZ M a i (fun x => k L (.int x :: S) M u))) : xGG G p l e R s m args below meth c Q nL pc L S M u := by
  unfold xIR at h
  split at h
  · rename_i i a S'
    unfold xaZ at h
    split at h
    · rename_i tc n f hM
      obtain ⟨rfl, hin, h⟩ := h
      intro H locs ls cells slots hH hL hq hc hs
      have hat := (xAt_arr (by decide)).mp (hH.1 a _ hM)
      have hK : va_K G.1 zCl (zTys G.2.1) s := by obtain ⟨D, dA, H0, ⟨bS, LS, xsS⟩, sa, sv⟩ := G; exact hC.1
      have hlt : i.toNatClampNeg < n := Nat.not_le.mp fun q => hin (Or.inr q)
      exact W.zald (v := .int (f i.toNatClampNeg)) hx hb hat.1 ((hK.2 1 _ rfl).1 n (fun j => .int (f j))) (fun q => by cases q) (by show ¬ (i < 0 ∨ (arrV _ _ _).slots.size ≤ _); rw [arrV_size]; exact hin) (by show (arrV _ _ _).slots[_]? = _; rw [arrV_read _ _ hlt]) rfl rfl hd (hk _ _ _ _ h H locs ls cells slots hH hL hq hc hs)
    · exact h.elim
  · exact h.elim
theorem st_laload (hx : p.tables.exec = Jvm.exec) (hb : c.code = cc) (hC : xCtx G s) (hd : decode cc pc = .ok (.laload, 1)) (hk : ∀ L S M u, k L S M u → xGG G p l e R s m args below meth c Q nL (pc + 1) L S M u) (h : xIR S (fun a i S => xaL M a i (fun x => k L (.long x :: S) M u))) : xGG G p l e R s m args below meth c Q nL pc L S M u := by
  unfold xIR at h
  split at h
  · rename_i i a S'
    unfold xaL at h
    split at h
    · rename_i tc n f hM
      obtain ⟨rfl, hin, h⟩ := h
      intro H locs ls cells slots hH hL hq hc hs
      have hat := (xAt_arr (by decide)).mp (hH.1 a _ hM)
      have hK : va_K G.1 zCl (zTys G.2.1) s := by obtain ⟨D, dA, H0, ⟨bS, LS, xsS⟩, sa, sv⟩ := G; exact hC.1
      have hlt : i.toNatClampNeg < n := Nat.not_le.mp fun q => hin (Or.inr q)
      exact W.lald (v := .long (f i.toNatClampNeg)) hx hb hat.1 ((hK.2 2 _ rfl).1 n (fun j => .long (f j))) (fun q => by cases q) (by show ¬ (i < 0 ∨ (arrV _ _ _).slots.size ≤ _); rw [arrV_size]; exact hin) (by show (arrV _ _ _).slots[_]? = _; rw [arrV_read _ _ hlt]) rfl rfl hd (hk _ _ _ _ h H locs ls cells slots hH hL hq hc hs)
    · exact h.elim
  · exact h.elim
theorem st_iaload (hx : p.tables.exec = Jvm.exec) (hb : c.code = cc) (hC : xCtx G s) (hd : decode cc pc = .ok (.iaload, 1)) (hk : ∀ L S M u, k L S M u → xGG G p l e R s m args below meth c Q nL (pc + 1) L S M u) (h : xIR S (fun a i S => xaI M a i (fun x => k L (.int x :: S) M u))) : xGG G p l e R s m args below meth c Q nL pc L S M u := by
  unfold xIR at h
  split at h
  · rename_i i a S'
    unfold xaI at h
    split at h
    · rename_i tc n f hM
      obtain ⟨htc, hin, h⟩ := h
      intro H locs ls cells slots hH hL hq hc hs
      have hat := hH.1 a _ hM
      obtain ⟨D, dA, H0, ⟨bS, LS, xsS⟩, sa, sv⟩ := G
      have hlt : i.toNatClampNeg < n := Nat.not_le.mp fun q => hin (Or.inr q)
      rcases htc with rfl | rfl
      · have hat := (xAt_arr (by decide)).mp hat
        exact W.iald (v := .int (f i.toNatClampNeg)) hx hb hat.1 ((hC.1.2 0 _ rfl).1 n (fun j => .int (f j))) (fun q => by cases q) (by show ¬ (i < 0 ∨ (arrV _ _ _).slots.size ≤ _); rw [arrV_size]; exact hin) (by show (arrV _ _ _).slots[_]? = _; rw [arrV_read _ _ hlt]) rfl rfl hd (hk _ _ _ _ h H locs ls cells slots hH hL hq hc hs)
      · obtain ⟨ea, he⟩ := xAt_scr hat
        cases he
        obtain ⟨scr, g1, g2, g3, g4, g5⟩ := hC.2.1
        have ea : a = bS := ea
        subst ea
        have hlt0 : a < H0.size := (Array.getElem?_eq_some_iff.mp g1).1
        exact W.iald (v := .int (xsS i.toNatClampNeg)) hx hb (by rw [hH.2.2.1 a hlt0]; exact g1) g2 g3 (by rw [g4]; exact hin) (g5 _ hlt) rfl rfl hd (hk _ _ _ _ h H locs ls cells slots hH hL hq hc hs)
    · exact h.elim
  · exact h.elim
theorem st_aaload (hx : p.tables.exec = Jvm.exec) (hb : c.code = cc) (hC : xCtx G s) (hd : decode cc pc = .ok (.aaload, 1)) (hk : ∀ L S M u, k L S M u → xGG G p l e R s m args below meth c Q nL (pc + 1) L S M u) (h : xIR S (fun a i S => xaR M a i (fun x => k L (.ref x :: S) M u))) : xGG G p l e R s m args below meth c Q nL pc L S M u := by
  unfold xIR at h
  split at h
  · rename_i i a S'
    unfold xaR at h
    split at h
    · rename_i tc n f hM
      obtain ⟨htc, hin, h⟩ := h
      split at h
      · rename_i rr hrr
        intro H locs ls cells slots hH hL hq hc hs
        have hat := hH.1 a _ hM
        have hK : va_K G.1 zCl (zTys G.2.1) s := by obtain ⟨D, dA, H0, ⟨bS, LS, xsS⟩, sa, sv⟩ := G; exact hC.1
        have hlt : i.toNatClampNeg < n := Nat.not_le.mp fun q => hin (Or.inr q)
        have ev : va_rf (f i.toNatClampNeg) = .ref rr := by rw [hrr]; rfl
        rcases htc with rfl | rfl | rfl
        · have hat := (xAt_arr (by decide)).mp hat
          refine W.aald (v := .ref rr) (ty := .object "RingCouncil$Text") hx hb hat.1 ((hK.2 3 _ rfl).1 n (fun j => va_rf (f j))) rfl (fun q => by cases q) (by show ¬ (i < 0 ∨ (arrV _ _ _).slots.size ≤ _); rw [arrV_size]; exact hin) (by show (arrV _ _ _).slots[_]? = _; rw [arrV_read _ _ hlt, ev]) rfl rfl hd (hk _ _ _ _ h H locs ls cells slots hH hL hq hc hs)
        · have hat := (xAt_arr (by decide)).mp hat
          refine W.aald (v := .ref rr) (ty := .object "RingCouncil$Moment") hx hb hat.1 ((hK.2 4 _ rfl).1 n (fun j => va_rf (f j))) rfl (fun q => by cases q) (by show ¬ (i < 0 ∨ (arrV _ _ _).slots.size ≤ _); rw [arrV_size]; exact hin) (by show (arrV _ _ _).slots[_]? = _; rw [arrV_read _ _ hlt, ev]) rfl rfl hd (hk _ _ _ _ h H locs ls cells slots hH hL hq hc hs)
        · have hat := (xAt_arr (by decide)).mp hat
          refine W.aald (v := .ref rr) (ty := .array .int) hx hb hat.1 ((hK.2 5 _ rfl).1 n (fun j => va_rf (f j))) rfl (fun q => by cases q) (by show ¬ (i < 0 ∨ (arrV _ _ _).slots.size ≤ _); rw [arrV_size]; exact hin) (by show (arrV _ _ _).slots[_]? = _; rw [arrV_read _ _ hlt, ev]) rfl rfl hd (hk _ _ _ _ h H locs ls cells slots hH hL hq hc hs)
      · exact h.elim
    · exact h.elim
  · exact h.elim
theorem st_iastore (hx : p.tables.exec = Jvm.exec) (hb : c.code = cc) (hC : xCtx G s) (hd : decode cc pc = .ok (.iastore, 1)) (hk : ∀ L S M u, k L S M u → xGG G p l e R s m args below meth c Q nL (pc + 1) L S M u) (h : xIIR S (fun a i x S => xsI M a i x (fun M => k L S M u))) : xGG G p l e R s m args below meth c Q nL pc L S M u := by
  unfold xIIR at h
  split at h
  · rename_i x i a S'
    unfold xsI at h
    split at h
    · rename_i tc n f hM
      obtain ⟨rfl, hin, h⟩ := h
      intro H locs ls cells slots hH hL hq hc hs
      have hat := (xAt_arr (by decide)).mp (hH.1 a _ hM)
      have hK : va_K G.1 zCl (zTys G.2.1) s := by obtain ⟨D, dA, H0, ⟨bS, LS, xsS⟩, sa, sv⟩ := G; exact hC.1
      refine W.iast hx hb hat.1 ((hK.2 0 _ rfl).1 n (fun j => .int (f j))) (fun q => by cases q) (by show ¬ (i < 0 ∨ (arrV _ _ _).slots.size ≤ _); rw [arrV_size]; exact hin) rfl rfl hd fun H1 e z oq => ?_
      refine hk _ _ _ _ h H1 _ ls cells slots (xH_set hH hM hat.2.1 z oq ?_) hL (fun q hq' => by
          rcases List.mem_append.mp hq' with g | g
          · exact hq q g
          · rw [List.mem_singleton.mp g]; exact hat.2.1) hc hs
      refine (xAt_arr (by decide)).mpr ⟨?_, hat.2.1, (fun h9 => by cases h9), hat.2.2.2⟩
      rw [e, vp_cell_i, vp_cell_i, arrV_store]
      refine congrArg some (congrArg (arrV _ _) (funext fun q => ?_))
      by_cases hq9 : q = i.toNatClampNeg
      · subst hq9
        simp [updV, upd]
      · simp [updV, upd, hq9]
    · exact h.elim
  · exact h.elim
theorem st_bastore (hx : p.tables.exec = Jvm.exec) (hb : c.code = cc) (hC : xCtx G s) (hd : decode cc pc = .ok (.bastore, 1)) (hk : ∀ L S M u, k L S M u → xGG G p l e R s m args below meth c Q nL (pc + 1) L S M u) (h : xIIR S (fun a i x S => xsZ M a i x (fun M => k L S M u))) : xGG G p l e R s m args below meth c Q nL pc L S M u := by
  unfold xIIR at h
  split at h
  · rename_i x i a S'
    unfold xsZ at h
    split at h
    · rename_i tc n f hM
      obtain ⟨rfl, hin, h⟩ := h
      intro H locs ls cells slots hH hL hq hc hs
      have hat := (xAt_arr (by decide)).mp (hH.1 a _ hM)
      have hK : va_K G.1 zCl (zTys G.2.1) s := by obtain ⟨D, dA, H0, ⟨bS, LS, xsS⟩, sa, sv⟩ := G; exact hC.1
      refine W.zast hx hb hat.1 ((hK.2 1 _ rfl).1 n (fun j => .int (f j))) (fun q => by cases q) (by show ¬ (i < 0 ∨ (arrV _ _ _).slots.size ≤ _); rw [arrV_size]; exact hin) rfl rfl hd fun H1 e z oq => ?_
      refine hk _ _ _ _ h H1 _ ls cells slots (xH_set hH hM hat.2.1 z oq ?_) hL (fun q hq' => by
          rcases List.mem_append.mp hq' with g | g
          · exact hq q g
          · rw [List.mem_singleton.mp g]; exact hat.2.1) hc hs
      refine (xAt_arr (by decide)).mpr ⟨?_, hat.2.1, (fun _ => by
            obtain ⟨f', hf', h01⟩ := hat.2.2.1 rfl
            cases hf'
            refine ⟨_, rfl, fun j => ?_⟩
            unfold upd
            split
            · exact vp_nar01 x
            · exact h01 j), hat.2.2.2⟩
      rw [e, vp_cell_i, vp_cell_i, arrV_store]
      refine congrArg some (congrArg (arrV _ _) (funext fun q => ?_))
      by_cases hq9 : q = i.toNatClampNeg
      · subst hq9
        (simp [updV, upd, vp_nar]; try rfl)
      · simp [updV, upd, hq9]
    · exact h.elim
  · exact h.elim
theorem st_lastore (hx : p.tables.exec = Jvm.exec) (hb : c.code = cc) (hC : xCtx G s) (hd : decode cc pc = .ok (.lastore, 1)) (hk : ∀ L S M u, k L S M u → xGG G p l e R s m args below meth c Q nL (pc + 1) L S M u) (h : xLIR S (fun a i x S => xsL M a i x (fun M => k L S M u))) : xGG G p l e R s m args below meth c Q nL pc L S M u := by
  unfold xLIR at h
  split at h
  · rename_i x i a S'
    unfold xsL at h
    split at h
    · rename_i tc n f hM
      obtain ⟨rfl, hin, h⟩ := h
      intro H locs ls cells slots hH hL hq hc hs
      have hat := (xAt_arr (by decide)).mp (hH.1 a _ hM)
      have hK : va_K G.1 zCl (zTys G.2.1) s := by obtain ⟨D, dA, H0, ⟨bS, LS, xsS⟩, sa, sv⟩ := G; exact hC.1
      refine W.last hx hb hat.1 ((hK.2 2 _ rfl).1 n (fun j => .long (f j))) (fun q => by cases q) (by show ¬ (i < 0 ∨ (arrV _ _ _).slots.size ≤ _); rw [arrV_size]; exact hin) rfl rfl hd fun H1 e z oq => ?_
      refine hk _ _ _ _ h H1 _ ls cells slots (xH_set hH hM hat.2.1 z oq ?_) hL (fun q hq' => by
          rcases List.mem_append.mp hq' with g | g
          · exact hq q g
          · rw [List.mem_singleton.mp g]; exact hat.2.1) hc hs
      refine (xAt_arr (by decide)).mpr ⟨?_, hat.2.1, (fun h9 => by cases h9), hat.2.2.2⟩
      rw [e, vp_cell_l, vp_cell_l, arrV_store]
      refine congrArg some (congrArg (arrV _ _) (funext fun q => ?_))
      by_cases hq9 : q = i.toNatClampNeg
      · subst hq9
        simp [updV, vp_updL]
      · simp [updV, vp_updL, hq9]
    · exact h.elim
  · exact h.elim
theorem st_aastore (hx : p.tables.exec = Jvm.exec) (hb : c.code = cc) (hC : xCtx G s) (hd : decode cc pc = .ok (.aastore, 1)) (hk : ∀ L S M u, k L S M u → xGG G p l e R s m args below meth c Q nL (pc + 1) L S M u) (h : xRIR S (fun a i v S => xsR M a i v (fun M => k L S M u))) : xGG G p l e R s m args below meth c Q nL pc L S M u := by
  unfold xRIR at h
  split at h
  · rename_i v i a S'
    unfold xsR at h
    split at h
    · rename_i tc n f hM
      obtain ⟨htc, hin, ⟨fs, hV⟩, h⟩ := h
      intro H locs ls cells slots hH hL hq hc hs
      have hat := hH.1 a _ hM
      have hlt : i.toNatClampNeg < n := Nat.not_le.mp fun q => hin (Or.inr q)
      have h0 : ¬ i < 0 := fun q => hin (Or.inl q)
      have hK : va_K G.1 zCl (zTys G.2.1) s := by obtain ⟨D, dA, H0, ⟨bS, LS, xsS⟩, sa, sv⟩ := G; exact hC.1
      have hcl : ∃ (t0 : Nat) (r : vw_C), zCl[xcmp tc]? = some r ∧ (zTys G.2.1)[t0]? = some (G.2.1 tc, FieldType.object r.1) ∧ ¬ tc = 7 ∧ ¬ tc = 1 := by
        rcases htc with rfl | rfl
        · exact ⟨3, _, rfl, rfl, by decide, by decide⟩
        · exact ⟨4, _, rfl, rfl, by decide, by decide⟩
      obtain ⟨t0, r, hr, ht, hn7, hn1⟩ := hcl
      have hat := (xAt_arr hn7).mp hat
      obtain ⟨r', hr', ⟨cellV, g1, g2, g3, -⟩, -, -⟩ := hH.1 v _ hV (zcl_lt hr)
      have hcls := (hK.1 _ r hr).2
      obtain ⟨kA, comp, k1, k2, k3, -⟩ := (hK.2 t0 _ ht).2
      have hcomp : comp = G.1.1 (xcmp tc) := Option.some.inj (k3.symm.trans hcls.1)
      subst hcomp
      obtain ⟨kC, hkC, -⟩ := hcls.2
      refine W.aast hx hb hat.1 (fun q h => by cases h) (fun h => by cases h) k1 k2 rfl hkC ⟨h0, by show _ < (arrV _ _ _).slots.size; rw [arrV_size]; exact hlt⟩ g1 (fun q h => by rw [g3] at h; cases h) (by rw [g2]; exact hkC) (by rw [g2]; exact va_assign hcls) rfl rfl hd fun H1 e z oq => ?_
      refine hk _ _ _ _ h H1 _ ls cells slots (xH_set hH hM hat.2.1 z oq ?_) hL (fun q hq' => by
          rcases List.mem_append.mp hq' with g | g
          · exact hq q g
          · rw [List.mem_singleton.mp g]; exact hat.2.1) hc hs
      refine (xAt_arr hn7).mpr ⟨?_, hat.2.1, fun h9 => absurd h9 hn1, hat.2.2.2⟩
      rw [e, vp_cell_q, vp_cell_q, arrV_store]
      refine congrArg some (congrArg (arrV _ _) (funext fun q => ?_))
      by_cases hq9 : q = i.toNatClampNeg
      · subst hq9
        simp [updV, va_up, va_rf]
      · simp [updV, va_up, hq9]
    · exact h.elim
  · exact h.elim
theorem st_alen (hx : p.tables.exec = Jvm.exec) (hb : c.code = cc) (hC : xCtx G s) (hd : decode cc pc = .ok (.arraylength, 1)) (hk : ∀ L S M u, k L S M u → xGG G p l e R s m args below meth c Q nL (pc + 1) L S M u) (h : x1R S (fun a S => xlen M a (fun x => k L (.int x :: S) M u))) : xGG G p l e R s m args below meth c Q nL pc L S M u := by
  unfold x1R at h
  split at h
  · rename_i a S'
    unfold xlen at h
    split at h
    · rename_i tc x hM
      intro H locs ls cells slots hH hL hq hc hs
      have hat := hH.1 a _ hM
      obtain ⟨D, dA, H0, ⟨bS, LS, xsS⟩, sa, sv⟩ := G
      by_cases h7 : tc = 7
      · subst h7
        obtain ⟨ea, ex⟩ := xAt_scr hat
        subst ex
        obtain ⟨scr, g1, g2, g3, g4, g5⟩ := hC.2.1
        have ea : a = bS := ea
        subst ea
        have hlt0 : a < H0.size := (Array.getElem?_eq_some_iff.mp g1).1
        exact W.alen (n := Int32.ofNat LS) hx hb (by rw [hH.2.2.1 a hlt0]; exact g1) g2 (by rw [g4]) rfl rfl hd (hk _ _ _ _ h H locs ls cells slots hH hL hq hc hs)
      · have hat := (xAt_arr h7).mp hat
        have hty : ∃ (t0 : Nat) (ty : FieldType), (zTys dA)[t0]? = some (dA tc, ty) := by
          obtain ⟨htc, htc3⟩ := hat.2.2.2
          match tc, htc, htc3, h7 with
          | 0, _, _, _ => exact ⟨0, _, rfl⟩
          | 1, _, _, _ => exact ⟨1, _, rfl⟩
          | 2, _, _, _ => exact ⟨2, _, rfl⟩
          | 3, _, h3, _ => exact absurd rfl h3
          | 4, _, _, _ => exact ⟨3, _, rfl⟩
          | 5, _, _, _ => exact ⟨4, _, rfl⟩
          | 6, _, _, _ => exact ⟨5, _, rfl⟩
          | n + 7, h8, _, _ => omega
        obtain ⟨t0, ty, ht⟩ := hty
        exact va_alen (D := D) (cl := zCl) (ws := [(a, .inl (dA tc, x))]) hx hb hC.1 (va_P1 hat.1) 0 t0 rfl ht rfl hd (hk _ _ _ _ h H locs ls cells slots hH hL hq hc hs)
    · exact h.elim
  · exact h.elim
end XSTEP3
