/-! calls -/
def xPc (G : xGl) (vs : List Value) (M : xM) : Array Value → State → Prop := fun a U => a = vs.toArray ∧ xCtx G U ∧ xH G M U.heap
def xQc (G : xGl) (Q' : xQ) : Array Value → State → Outcome → State → Prop := fun _ _ oc t => ∃ v M', oc = .returned v ∧ Q' v M' ∧ xH G M' t.heap
def xRoom (d : Nat) (u : xU) : Room := { frames := d + 4, cells := u.1, slots := u.2, locals := 100 * d + 400 }
def xMet (G : xGl) (l : Launch) (d : Nat) (my : xMeth) (vs : List Value) (M : xM) (Q' : xQ) : Prop :=
  Met l my.1 (.code my.1 my.2.1 my.2.2.1 my.2.2.2.1 :: zGood) (xRoom d my.2.2.2.2.2.2) (xPc G vs M) (xQc G Q') my.2.2.2.2.2.2.1 my.2.2.2.2.2.2.2 (fun q => G.2.2.1.size ≤ q)
theorem xPc_blind (G : xGl) (vs : List Value) (M : xM) : FrameBlind (xPc G vs M) := fun a U g mk h => ⟨h.1, xCtx_same (s := U) (U := U.calling g mk a) rfl h.2.1, h.2.2⟩
theorem goodIn_z {ws : List Cond} (h : ∀ w ∈ ws, w ∈ zGood) : GoodIn zGood ws := fun w hw => ⟨h w hw, (zGood_in (h w hw)).2⟩
theorem xrk_out {rk : Nat} {K : List Value → xM → Prop} {v : Option Value} {M : xM} (h : xrk rk K v M) : K v.toList M := by
  unfold xrk at h
  split at h
  · unfold xrI at h
    split at h
    · exact h
    · exact h.elim
  · unfold xrV at h
    split at h
    · exact h
    · exact h.elim
  · unfold xrL at h
    split at h
    · exact h
    · exact h.elim
  · unfold xrR at h
    split at h
    · exact h
    · exact h.elim
theorem xsg_spec {y : MethodName} {n : Nat} (h : xsg y n = true) : y.cls ≠ "java/lang/invoke/MethodHandle" ∧ y.cls ≠ "java/lang/invoke/VarHandle" ∧ (parseMethodDescriptor y.desc).map (fun d => d.parameters.length) = some n := by
  simp only [xsg, Bool.and_eq_true, decide_eq_true_eq] at h
  exact ⟨h.1, h.2.1, h.2.2⟩
section XCALL
variable {G : xGl} {p : Program} {l : Launch} {e : Env} {R : Room} {s : State} {m : MethodId} {args : Array Value} {below : List Frame} {meth : Method} {c : Code} {Q : State → Prop} {nL : Nat} {cc : ByteArray} {pc : Nat} {k : xK} {L : xL} {S : List Value} {M : xM} {u : xU} {own : String}
/-- behind a call -/
theorem xcall_W {H : Heap} {locs : List Loc} {cells slots mc ms : Nat} {ls : Array Slot} {rest : List Value} {Q' : xQ} {av : Array Value} (hr : va_Run p l e R s m args below meth c H locs cells slots mc ms (F0 m pc ls S) rest (xQc G Q' av) (fun q => G.2.2.1.size ≤ q)) (hq : ∀ q ∈ locs, G.2.2.1.size ≤ q.base)
    (kk : ∀ (v : Option Value) (M' : xM) (H1 : Heap) (locs1 : List Loc), Q' v M' → xH G M' H1 → (∀ q ∈ locs1, G.2.2.1.size ≤ q.base) → W p l e R s m args below meth c H1 locs1 (cells + mc) (slots + ms) Q (F0 m (pc + 3) ls (v.toList ++ rest))) : W p l e R s m args below meth c H locs cells slots Q (F0 m pc ls S) := by
  intro T hT X
  obtain ⟨v, st₀, t, T', L', h0, X', hL, e1, e2, ⟨v', M', ho, hq', hh⟩, st⟩ := hr T hT X
  cases ho
  obtain ⟨t2, a1, b1⟩ := kk v M' T'.heap (locs ++ L') hq' (by rw [e1]; exact hh) (fun q hq9 => by
    rcases List.mem_append.mp hq9 with g | g
    · exact hq q g
    · exact hL q g) T' rfl X'
  exact ⟨t2, st t2 a1, b1⟩
theorem xtake_len {S : List Value} {n : Nat} {v : Value} {S' : List Value} (h : S.drop n = v :: S') : (S.take n).reverse.length = n := by
  have : n < S.length := by
    rcases Nat.lt_or_ge n S.length with q | q
    · exact q
    · rw [List.drop_eq_nil_of_le q] at h; cases h
  rw [List.length_reverse, List.length_take]
  omega
theorem st_virt (hx : p.tables.exec = Jvm.exec) (hb : c.code = cc) (hml : c.maxLocals = nL) (hown : s.vm.findClass own = some m.cls) (hts : ∀ w ∈ zGood, w.before args s = true) (hC : xCtx G s) {idx n ci rk d : Nat} {my : xMeth} {call : List Value → xM → xQ → Prop} (hd : decode cc pc = .ok (.invokevirtual idx, 3)) (hneed : my.2.2.2.2.2.2 = (0, 0)) (hsg : xsg my.1 n = true) (hci : ci < 13) (hcl : (zCl[ci]?).map (fun r => r.1) = some my.1.cls) (hcode : Cond.code my.1 my.2.1 my.2.2.1 my.2.2.2.1 ∈ zGood) (h40 : my.2.2.1 ≤ 40)
    (hw : ∀ w ∈ ([.methodLink own idx my.1, .instanceMethod my.1, .selects my.1.cls my.1 my.1, .initialized my.1.cls] : List Cond), w ∈ zGood) (hR : d + 5 ≤ R.frames ∧ 100 * d + 500 ≤ R.locals) (hcall : ∀ vs M Q', call vs M Q' → xMet G l d my vs M Q')
    (hk : ∀ L S M u, k L S M u → xGG G p l e R s m args below meth c Q nL (pc + 3) L S M u) (h : x1R (S.drop n) (fun b S' => xrm S' (xobj M b ci ∧ call (.ref b :: (S.take n).reverse) M (xrk rk (fun vs M => k L (vs ++ S') M u))))) : xGG G p l e R s m args below meth c Q nL pc L S M u := by
  unfold x1R at h
  split at h
  · rename_i b S' hS
    unfold xrm at h
    split at h
    · rename_i hrm
      have hrm' : (S'.map fun v => v.category).sum ≤ 8 := Nat.le_of_ble_eq_true hrm
      obtain ⟨⟨fs, hMb⟩, h⟩ := h
      have hM := hcall _ _ _ h
      obtain ⟨hs1, hs2, hs3⟩ := xsg_spec hsg
      intro H locs ls cells slots hH hL hq hc hs
      obtain ⟨r, hr, ⟨cellB, g1, g2, g3, -⟩, -, -⟩ := hH.1 b _ hMb hci
      have hr1 : r.1 = my.1.cls := by rw [hr] at hcl; exact Option.some.inj hcl
      have hK : va_K G.1 zCl (zTys G.2.1) s := by obtain ⟨D, dA, H0, ⟨bS, LS, xsS⟩, sa, sv⟩ := G; exact hC.1
      have hT : GoodIn zGood (wsV own idx my.1.cls my.1 (.code my.1 my.2.1 my.2.2.1 my.2.2.2.1 :: zGood)) := goodIn_z (fun w h9 => by
        unfold wsV at h9
        rcases List.mem_append.mp h9 with h9 | h9
        · exact hw w h9
        · rcases List.mem_cons.mp h9 with h9 | h9
          · rw [h9]; exact hcode
          · exact h9)
      have hn0 : my.2.2.2.2.2.2.1 = 0 := by rw [hneed]
      have hn1 : my.2.2.2.2.2.2.2 = 0 := by rw [hneed]
      refine xcall_W (va_runV (As := (S.take n).reverse) (rest := S') (C := my.1.cls) ⟨hx, hb, hml, hown, hts⟩ hM (cwV n hts hT rfl rfl rfl ⟨rfl, hs1, hs2, hs3⟩ ⟨by show d + 4 + 1 ≤ _; omega, by show 8 + (my.2.2.1 + 11) + (100 * d + 400) ≤ _; omega⟩) ⟨xPc_blind G _ M, ⟨cellB, g1, by rw [g3]; rfl, by rw [g2, ← hr1]; exact (hK.1 ci r hr).2.1⟩, fun U hU hW => ⟨rfl, xCtx_warm hW hC, by rw [hU]; exact hH⟩⟩ rfl (xtake_len hS) hL.2.1 (by rw [List.reverse_reverse, ← hS, List.take_append_drop]) (lv_room hrm') hd ⟨by omega, by omega⟩) hq (fun v M' H1 locs1 hv hH1 hq1 => ?_)
      exact hk _ _ _ _ (xrk_out hv) H1 locs1 ls _ _ hH1 hL hq1 (by omega) (by omega)
    · exact h.elim
  · exact h.elim
theorem st_stat (hx : p.tables.exec = Jvm.exec) (hb : c.code = cc) (hml : c.maxLocals = nL) (hown : s.vm.findClass own = some m.cls) (hts : ∀ w ∈ zGood, w.before args s = true) (hC : xCtx G s) {idx n rk d : Nat} {my : xMeth} {call : List Value → xM → xQ → Prop} (hd : decode cc pc = .ok (.invokestatic idx, 3)) (hneed : my.2.2.2.2.2.2 = (0, 0)) (hsg : xsg my.1 n = true) (hcode : Cond.code my.1 my.2.1 my.2.2.1 my.2.2.2.1 ∈ zGood) (h40 : my.2.2.1 ≤ 40)
    (hw1 : Cond.static my.1 ∈ zGood) (hw2 : Cond.initialized my.1.cls ∈ zGood) (hlk : (Cond.methodLink own idx my.1 ∈ zGood ∧ my.1.cls = own) ∨ Cond.methodLinkNest own idx my.1 "RingCouncil" ∈ zNest) (hR : d + 5 ≤ R.frames ∧ 100 * d + 500 ≤ R.locals) (hcall : ∀ vs M Q', call vs M Q' → xMet G l d my vs M Q')
    (hk : ∀ L S M u, k L S M u → xGG G p l e R s m args below meth c Q nL (pc + 3) L S M u) (h : xstk n S (xrm (S.drop n) (call (S.take n).reverse M (xrk rk (fun vs M => k L (vs ++ S.drop n) M u))))) : xGG G p l e R s m args below meth c Q nL pc L S M u := by
  unfold xstk at h
  split at h
  · rename_i hle
    have hle' : n ≤ S.length := Nat.le_of_ble_eq_true hle
    unfold xrm at h
    split at h
    · rename_i hrm
      have hrm' : ((S.drop n).map fun v => v.category).sum ≤ 8 := Nat.le_of_ble_eq_true hrm
      have hM := hcall _ _ _ h
      obtain ⟨hs1, hs2, hs3⟩ := xsg_spec hsg
      intro H locs ls cells slots hH hL hq hc hs
      have hn0 : my.2.2.2.2.2.2.1 = 0 := by rw [hneed]
      have hn1 : my.2.2.2.2.2.2.2 = 0 := by rw [hneed]
      have hlen : (S.take n).reverse.length = n := by rw [List.length_reverse, List.length_take]; omega
      have hG : GoodIn zGood (.code my.1 my.2.1 my.2.2.1 my.2.2.2.1 :: zGood) := goodIn_z (fun w h9 => by
        rcases List.mem_cons.mp h9 with h9 | h9
        · rw [h9]; exact hcode
        · exact h9)
      have hrun : va_Run p l e R s m args below meth c H locs cells slots my.2.2.2.2.2.2.1 my.2.2.2.2.2.2.2 (F0 m pc ls S) (S.drop n) (xQc G (xrk rk (fun vs M => k L (vs ++ S.drop n) M u)) (S.take n).reverse.toArray) (fun q => G.2.2.1.size ≤ q) := by
        rcases hlk with ⟨hlk, hcl⟩ | hlk
        · have hT : GoodIn zGood (wsS own idx my.1 (.code my.1 my.2.1 my.2.2.1 my.2.2.2.1 :: zGood)) := goodIn_z (fun w h9 => by
            unfold wsS at h9
            rcases List.mem_append.mp h9 with h9 | h9
            · simp only [List.mem_cons, List.not_mem_nil, or_false] at h9
              rcases h9 with rfl | rfl | rfl
              · exact hlk
              · exact hw1
              · rw [← hcl]; exact hw2
            · exact (hG w h9).1)
          exact va_runS (As := (S.take n).reverse) (rest := S.drop n) ⟨hx, hb, hml, hown, hts⟩ hM (cwS n hts hT rfl rfl rfl ⟨hcl, hs1, hs2, hs3⟩ ⟨by show d + 4 + 1 ≤ _; omega, by show 8 + (my.2.2.1 + 11) + (100 * d + 400) ≤ _; omega⟩) ⟨xPc_blind G _ M, fun U hU hW => ⟨rfl, xCtx_warm hW hC, by rw [hU]; exact hH⟩⟩ rfl hlen hL.2.1 (by rw [List.reverse_reverse, List.take_append_drop]) (lv_room hrm') hd ⟨by omega, by omega⟩
        · have hnw : va_Nw (.methodLinkNest own idx my.1 "RingCouncil") s := by obtain ⟨D, dA, H0, ⟨bS, LS, xsS⟩, sa, sv⟩ := G; exact hC.2.2.1 _ hlk
          exact va_runSN (As := (S.take n).reverse) (rest := S.drop n) (host := "RingCouncil") ⟨hx, hb, hml, hown, hts⟩ hM ⟨va_cnB n hts hG rfl rfl rfl hnw (hts _ hw2) ⟨hs1, hs2, hs3⟩ ⟨by show d + 4 + 1 ≤ _; omega, by show 8 + (my.2.2.1 + 11) + (100 * d + 400) ≤ _; omega⟩, hts _ hw1, trivial⟩ ⟨xPc_blind G _ M, fun U hU hW => ⟨rfl, xCtx_warm hW hC, by rw [hU]; exact hH⟩⟩ rfl hlen hL.2.1 (by rw [List.reverse_reverse, List.take_append_drop]) (lv_room hrm') hd ⟨by omega, by omega⟩
      refine xcall_W hrun hq (fun v M' H1 locs1 hv hH1 hq1 => ?_)
      exact hk _ _ _ _ (xrk_out hv) H1 locs1 ls _ _ hH1 hL hq1 (by omega) (by omega)
    · exact h.elim
  · exact h.elim
theorem st_spec (hx : p.tables.exec = Jvm.exec) (hb : c.code = cc) (hml : c.maxLocals = nL) (hown : s.vm.findClass own = some m.cls) (hts : ∀ w ∈ zGood, w.before args s = true) (hC : xCtx G s) {idx n nc ns d : Nat} {my : xMeth} {call : List Value → xM → xQ → Prop} (hd : decode cc pc = .ok (.invokespecial idx, 3)) (hneed : my.2.2.2.2.2.2 = (nc, ns)) (hret : my.2.2.2.1 = none) (hnm : my.1.name = "<init>") (hsg : xsg my.1 n = true) (hcode : Cond.code my.1 my.2.1 my.2.2.1 my.2.2.2.1 ∈ zGood) (h40 : my.2.2.1 ≤ 40)
    (hw1 : Cond.instanceMethod my.1 ∈ zGood) (hw2 : Cond.initialized my.1.cls ∈ zGood) (hlk : Cond.methodLink own idx my.1 ∈ zGood ∨ Cond.methodLinkNest own idx my.1 "RingCouncil" ∈ zNest) (hR : d + 5 ≤ R.frames ∧ 100 * d + 500 ≤ R.locals) (hcall : ∀ vs M Q', call vs M Q' → xMet G l d my vs M Q')
    (hk : ∀ L S M u, k L S M u → xGG G p l e R s m args below meth c Q nL (pc + 3) L S M u) (h : x1R (S.drop n) (fun b S' => xrm S' (nc ≤ u.1 ∧ ns ≤ u.2 ∧ call (.ref b :: (S.take n).reverse) M (xrV (fun M => k L S' M (u.1 - nc, u.2 - ns)))))) : xGG G p l e R s m args below meth c Q nL pc L S M u := by
  unfold x1R at h
  split at h
  · rename_i b S' hS
    unfold xrm at h
    split at h
    · rename_i hrm
      have hrm' : (S'.map fun v => v.category).sum ≤ 8 := Nat.le_of_ble_eq_true hrm
      obtain ⟨hu1, hu2, h⟩ := h
      have hM := hcall _ _ _ h
      obtain ⟨hs1, hs2, hs3⟩ := xsg_spec hsg
      obtain ⟨y, bytes, maxL, ret, pcs, bs, nd⟩ := my
      dsimp only at *
      subst hret
      subst hneed
      intro H locs ls cells slots hH hL hq hc hs
      have hG : GoodIn zGood (.code y bytes maxL none :: zGood) := goodIn_z (fun w h9 => by
        rcases List.mem_cons.mp h9 with h9 | h9
        · rw [h9]; exact hcode
        · exact h9)
      have hrun : va_Run p l e R s m args below meth c H locs cells slots nc ns (F0 m pc ls S) S' (xQc G (xrV (fun M => k L S' M (u.1 - nc, u.2 - ns))) (.ref b :: (S.take n).reverse).toArray) (fun q => G.2.2.1.size ≤ q) := by
        rcases hlk with hlk | hlk
        · exact va_runI (As := (S.take n).reverse) (rest := S') ⟨hx, hb, hml, hown, hts⟩ hM ⟨callB_of n hts hG rfl rfl rfl (hts _ hw2) (hts _ hlk) ⟨hs1, hs2, hs3⟩ ⟨by show d + 4 + 1 ≤ _; omega, by show 8 + (maxL + 11) + (100 * d + 400) ≤ _; omega⟩, hnm, hts _ hw1⟩ ⟨xPc_blind G _ M, fun U hU hW => ⟨rfl, xCtx_warm hW hC, by rw [hU]; exact hH⟩⟩ rfl (xtake_len hS) hL.2.1 (by rw [List.reverse_reverse, ← hS, List.take_append_drop]) (lv_room hrm') hd ⟨by omega, by omega⟩
        · have hnw : va_Nw (.methodLinkNest own idx y "RingCouncil") s := by obtain ⟨D, dA, H0, ⟨bS, LS, xsS⟩, sa, sv⟩ := G; exact hC.2.2.1 _ hlk
          exact va_runIN (As := (S.take n).reverse) (rest := S') (host := "RingCouncil") ⟨hx, hb, hml, hown, hts⟩ hM ⟨va_cnB n hts hG rfl rfl rfl hnw (hts _ hw2) ⟨hs1, hs2, hs3⟩ ⟨by show d + 4 + 1 ≤ _; omega, by show 8 + (maxL + 11) + (100 * d + 400) ≤ _; omega⟩, hnm, hts _ hw1⟩ ⟨xPc_blind G _ M, fun U hU hW => ⟨rfl, xCtx_warm hW hC, by rw [hU]; exact hH⟩⟩ rfl (xtake_len hS) hL.2.1 (by rw [List.reverse_reverse, ← hS, List.take_append_drop]) (lv_room hrm') hd ⟨by omega, by omega⟩
      refine xcall_W hrun hq (fun v M' H1 locs1 hv hH1 hq1 => ?_)
      unfold xrV at hv
      split at hv
      · exact hk _ _ _ _ hv H1 locs1 ls _ _ hH1 hL hq1 (by dsimp only; omega) (by dsimp only; omega)
      · exact hv.elim
    · exact h.elim
  · exact h.elim
end XCALL
