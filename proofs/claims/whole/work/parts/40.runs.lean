/-! the reference's side of holds, states, bad, suspects -/
def frS (kd : Nat → Int32) : Nat → List Nat
  | 0 => []
  | n + 1 => if kd n = 1 then frS kd n ++ [n] else frS kd n
theorem frS_len (kd : Nat → Int32) : ∀ n, (frS kd n).length = cntL kd n
  | 0 => rfl
  | n + 1 => by
    unfold frS cntL
    by_cases e : kd n = 1
    · rw [if_pos e, if_pos e, List.length_append, List.length_singleton, frS_len kd n]
    · rw [if_neg e, if_neg e, frS_len kd n]; rfl
theorem frS_c {kd kd' : Nat → Int32} : ∀ n, (∀ i, i < n → kd i = kd' i) → frS kd n = frS kd' n
  | 0, _ => rfl
  | n + 1, h => by
    unfold frS
    rw [frS_c n (fun i hi => h i (by omega)), h n (by omega)]
theorem frS_lt {kd : Nat → Int32} : ∀ (n j r : Nat), (frS kd n)[j]? = some r → r < n ∧ kd r = 1
  | 0, j, r, h => by rw [show frS kd 0 = [] from rfl, List.getElem?_nil] at h; exact nomatch h
  | n + 1, j, r, h => by
    unfold frS at h
    by_cases e : kd n = 1
    · rw [if_pos e] at h
      rcases gt_app h with h | ⟨_, h⟩
      · have := frS_lt n j r h
        exact ⟨by omega, this.2⟩
      · rw [h]; exact ⟨by omega, e⟩
    · rw [if_neg e] at h
      have := frS_lt n j r h
      exact ⟨by omega, this.2⟩
theorem frS_ne {kd : Nat → Int32} : ∀ (n i j r r' : Nat), (frS kd n)[i]? = some r → (frS kd n)[j]? = some r' → i ≠ j → r ≠ r'
  | 0, i, j, r, r', h, _, _ => by rw [show frS kd 0 = [] from rfl, List.getElem?_nil] at h; exact nomatch h
  | n + 1, i, j, r, r', h, h', hne => by
    unfold frS at h h'
    by_cases e : kd n = 1
    · rw [if_pos e] at h h'
      rcases gt_app h with h | ⟨e1, h⟩
      · rcases gt_app h' with h' | ⟨e2, h'⟩
        · exact frS_ne n i j r r' h h' hne
        · have := frS_lt n i r h
          omega
      · rcases gt_app h' with h' | ⟨e2, h'⟩
        · have := frS_lt n j r' h'
          omega
        · omega
    · rw [if_neg e] at h h'
      exact frS_ne n i j r r' h h' hne
def frN (kd : Nat → Int32) (R j : Nat) : Nat := (frS kd R).getD j 0
theorem frN_e {kd : Nat → Int32} {R j : Nat} (h : j < cntL kd R) : (frS kd R)[j]? = some (frN kd R j) := by
  rw [← frS_len] at h
  obtain ⟨p, hp⟩ := gt_some h
  unfold frN
  rw [List.getD_eq_getElem?_getD, hp]
  rfl
def kd3 (R : Nat) (kd : Nat → Int32) : Nat → Int32 := fun i => if i < R ∧ kd i = 1 then 3 else kd i
def kdN (R : Nat) (kd : Nat → Int32) : Nat → Int32 := fun i => if i < R ∧ kd i = 1 then 0 else kd i
section PU
variable {nx : (Nat → Int32) → Nat → Nat → Int32} {W : Nat}
theorem bfI_all {nx : Nat → Nat → Int32} {ft : (Nat → Int32) → Bool} {k W : Nat} {P : bE → Prop} (hP : ∀ w, w < W → P (nx w, k, w)) : ∀ (m w : Nat) (acc acc' : List bE), m + w = W → (∀ e, e ∈ acc → P e) → bfI nx ft k m w acc = some acc' → ∀ e, e ∈ acc' → P e
  | 0, w, acc, acc', _, ha, h => by
    have h : acc = acc' := Option.some.inj h
    rw [← h]; exact ha
  | m + 1, w, acc, acc', hm, ha, h => by
    unfold bfI at h
    have nxt := bfI_all (nx := nx) (ft := ft) (k := k) (W := W) hP m (w + 1)
    split at h
    · split at h
      · exact nxt acc acc' (by omega) ha h
      · split at h
        · exact nomatch h
        · refine nxt _ acc' (by omega) (fun e he => ?_) h
          rw [List.mem_append, List.mem_singleton] at he
          rcases he with he | he
          · exact ha e he
          · rw [he]; exact hP w (by omega)
    · exact nxt acc acc' (by omega) ha h
theorem bfO_all {ft : (Nat → Int32) → Bool} {P : bE → Prop} : ∀ (L : List bE) (k : Nat) (acc acc' : List bE), (∀ (i : Nat) (e : bE), L[i]? = some e → ∀ w, w < W → P (nx e.1 w, k + i, w)) → (∀ e, e ∈ acc → P e) → bfO nx ft W L k acc = some acc' → ∀ e, e ∈ acc' → P e
  | [], k, acc, acc', _, ha, h => by
    have h : acc = acc' := Option.some.inj h
    rw [← h]; exact ha
  | a :: L, k, acc, acc', hP, ha, h => by
    unfold bfO at h
    cases hb : bfI (nx a.1) ft k W 0 acc with
    | none => rw [hb] at h; exact nomatch h
    | some acc2 =>
      rw [hb] at h
      refine bfO_all L (k + 1) acc2 acc' (fun i e he w hw => ?_) (bfI_all (hP 0 a rfl) W 0 acc acc2 (by omega) ha hb) h
      have := hP (i + 1) e he w hw
      rw [show k + (i + 1) = k + 1 + i by omega] at this
      exact this
theorem bfL_s {ft : Nat → (Nat → Int32) → Bool} {b : Nat → Int32} {h : Nat} : bfL nx ft W b (h + 1) = (match bfL nx ft W b h with | none => none | some L => bfO nx (ft h) W L 0 []) := rfl
theorem bfL_none {ft : Nat → (Nat → Int32) → Bool} {b : Nat → Int32} {h : Nat} (hn : bfL nx ft W b h = none) : ∀ j, bfL nx ft W b (h + j) = none
  | 0 => hn
  | j + 1 => by
    rw [show h + (j + 1) = h + j + 1 by omega, bfL_s, bfL_none hn j]
theorem bfL_nil {ft : Nat → (Nat → Int32) → Bool} {b : Nat → Int32} {h : Nat} (hn : bfL nx ft W b h = some []) : ∀ j, bfL nx ft W b (h + j) = some []
  | 0 => hn
  | j + 1 => by
    rw [show h + (j + 1) = h + j + 1 by omega, bfL_s, bfL_nil hn j]
    rfl
/-- rows of level h, their parents and doings -/
def lvP (R W : Nat) (h N : Nat) (e : bE) : Prop := rk e.1 ∧ cn R e.1 ∧ e.1 0 = nI h ∧ (0 < h → e.2.1 < N ∧ e.2.2 < W)
def lvN (o : Option (List bE)) : List bE := match o with
  | none => []
  | some L => L
theorem bfL_P {ft : Nat → (Nat → Int32) → Bool} {b : Nat → Int32} {R : Nat} (hb : rk b ∧ cn R b ∧ b 0 = nI 0) (hx : ∀ f w, w < W → rk f → cn R f → rk (nx f w) ∧ cn R (nx f w) ∧ nx f w 0 = f 0 + 1) : ∀ (h : Nat) (L : List bE), bfL nx ft W b h = some L → ∀ e, e ∈ L → lvP R W h (lvN (bfL nx ft W b (h - 1))).length e
  | 0, L, hL => by
    have hL : [(b, 0, 0)] = L := Option.some.inj hL
    intro e he
    rw [← hL, List.mem_singleton] at he
    rw [he]
    exact ⟨hb.1, hb.2.1, hb.2.2, fun a => absurd a (Nat.lt_irrefl 0)⟩
  | h + 1, L, hL => by
    rw [bfL_s] at hL
    cases hp : bfL nx ft W b h with
    | none => rw [hp] at hL; exact nomatch hL
    | some L0 =>
      rw [hp] at hL
      rw [show h + 1 - 1 = h by omega, hp]
      refine bfO_all L0 0 [] L (fun i e he w hw => ?_) (fun e he => absurd he List.not_mem_nil) hL
      have := bfL_P (ft := ft) (b := b) hb hx h L0 hp e (List.mem_of_getElem? he)
      have g := hx e.1 w hw this.1 this.2.1
      refine ⟨g.1, g.2.1, ?_, fun _ => ⟨?_, hw⟩⟩
      · show nx e.1 w 0 = _
        rw [g.2.2, this.2.2.1]
        exact nI_1 h
      · show 0 + i < L0.length
        have := gt_lt he
        omega
end PU
section NX
variable {R : Nat} {l : List (Nat × Term)} {A B kd fs : Nat → Int32} {fr : Nat → Nat} {m g : Nat} {f : Nat → Int32} {w : Nat}
theorem nxS_0 : nxS R l A kd fs fr m g f w 0 = f 0 + 1 := cr_0
theorem nxS_rk (hR : R ≤ 9) (hl : lieV A) (hg : g ≤ 2) (hf : rk f) : rk (nxS R l A kd fs fr m g f w) := cr_rk hR (fun i hi => kpS_iv hf hi) (fun i hi => lfW_iv (lfS_iv hl (by omega)) m (fun j hj => dgP_iv hg (by omega))) (fun i hi => lfW_iv (rtS_iv hl (by omega)) m (fun j hj => dgP_iv hg (by omega)))
theorem nxS_cn (hf : cn R f) : cn R (nxS R l A kd fs fr m g f w) := cr_cn (fun i hi hR => by
  unfold kpS
  rw [if_neg (by omega)]
  exact (hf i hi hR).1)
theorem lfW_c {v f f' : Nat → Int32} {i : Nat} : ∀ k, f i = f' i → lfW fr v f k i = lfW fr v f' k i
  | 0, h => h
  | k + 1, h => by
    unfold lfW
    by_cases e : i = fr k
    · rw [e, upd_s, upd_s]
    · rw [upd_n e, upd_n e]; exact lfW_c k h
theorem plW_c {v f f' : Nat → Bool} {i : Nat} : ∀ k, f i = f' i → plW fr v f k i = plW fr v f' k i
  | 0, h => h
  | k + 1, h => by
    unfold plW updB
    split
    · rfl
    · exact plW_c k h
theorem nxS_A (h : ∀ j, 10 ≤ j → j < 170 → A j = B j) (hR : R ≤ 9) (hl : lieV A) (hg : g ≤ 2) : nxS R l A kd fs fr m g = nxS R l B kd fs fr m g := by
  funext f w
  unfold nxS
  rw [crS_A h hR (fun i hi => lfW_iv (lfS_iv hl (by omega)) m (fun j hj => dgP_iv hg (by omega))) (fun i hi => lfW_iv (rtS_iv hl (by omega)) m (fun j hj => dgP_iv hg (by omega)))]
  refine cr_c (fun i hi => rfl) (fun i hi => lfW_c m ?_) (fun i hi => lfW_c m ?_) (fun i hi => plW_c m ?_)
  · unfold lfS; rw [h (40 + 3 * i) (by omega) (by omega)]
  · unfold rtS; rw [h (41 + 3 * i) (by omega) (by omega)]
  · unfold plS; rw [h (42 + 3 * i) (by omega) (by omega)]
end NX
/-- the runs of all liars -/
def runL (R : Nat) (s : fS) (g : Nat) : Nat → Option (List bE) := bfL (nxS R (rulL s.1 s.2.2.1) s.1.1 (kd3 R (kdB s.1)) (fsB s.1) (frN (kdB s.1) R) (cntL (kdB s.1) R) g) (fun _ _ => true) (dgW g (cntL (kdB s.1) R)) (beginRow (fsB s.1))
def fbS (p : (Nat → Int32) → Bool) : List bE → Nat → Int32
  | [], _ => -1
  | e :: L, k => if p e.1 = true then fbS p L (k + 1) else nI k
def oneR (R : Nat) (s : fS) (f : Nat → Int32) : Bool := oneS R (rulL s.1 s.2.2.1) (kd3 R (kdB s.1)) (fsB s.1) f R 0 (-1)
def oHolds (R : Nat) (n v : Int32) (s : fS) : Int32 × fS := (if runB R n v s = true then (match runL R s (cN v) (cN n) with
    | none => -2
    | some L => if 0 ≤ fbS (oneR R s) L 0 then 0 else 1) else -1, s)
def oStates (R : Nat) (n v : Int32) (s : fS) : Int32 × fS := (if runB R n v s = true then (match runL R s (cN v) (cN n) with
    | none => -2
    | some L => nI L.length) else -1, s)
def parE (L : List bE) (k : Nat) : Nat := match L[k]? with
  | none => 0
  | some e => e.2.1
def doE (L : List bE) (k : Nat) : Nat := match L[k]? with
  | none => 0
  | some e => e.2.2
/-- m steps back from the state k of hour h -/
def wkS (lv : Nat → List bE) : Nat → Nat → Nat → Nat
  | 0, _, k => k
  | m + 1, h, k => wkS lv m (h - 1) (parE (lv h) k)
def oBad (R : Nat) (n v i j w : Int32) (s : fS) : Int32 × fS := (if (runB R n v s && (ivB i 0 (n - 1) && (ivB j 0 (nI (cntL (kdB s.1) R) - 1) && ivB w 0 (nI 2)))) = true then (match runL R s (cN v) (cN n) with
    | none => -2
    | some L => if 0 ≤ fbS (oneR R s) L 0 then dgP (cN v) (dgO (cN v) (cntL (kdB s.1) R) (doE (lvN (runL R s (cN v) (cN i + 1))) (wkS (fun h => lvN (runL R s (cN v) h)) (cN n - (cN i + 1)) (cN n) (cN (fbS (oneR R s) L 0)))) (cN j)) (cN w) else -3) else -3, s)
/-- the runs if one, or none, is the liar -/
def kdL (R : Nat) (s : fS) (o : Option Nat) : Nat → Int32 := match o with
  | none => kdN R (kdB s.1)
  | some r => upd (kdN R (kdB s.1)) r 3
def mL (o : Option Nat) : Nat := match o with
  | none => 0
  | some _ => 1
def frL (o : Option Nat) : Nat → Nat := match o with
  | none => fun _ => 0
  | some r => fun _ => r
def canL (R : Nat) (s : fS) (g : Nat) (o : Option Nat) : Nat → Option (List bE) := bfL (nxS R (rulL s.1 s.2.2.1) s.1.1 (kdL R s o) (fsB s.1) (frL o) (mL o) g) (fun h => ftS s.1.1 (s.1.1 4) (170 + 2 * h)) (dgW g (mL o)) (beginRow (fsB s.1))
def canS (R : Nat) (s : fS) (g : Nat) (o : Option Nat) : Bool := match canL R s g o (cN (s.1.1 3)) with
  | none => true
  | some [] => false
  | some (_ :: _) => true
def suS (R : Nat) (s : fS) (g : Nat) : Nat → Nat → Int32 → Int32
  | 0, _, a => a
  | m + 1, i, a => if nI i = s.1.1 4 then suS R s g m (i + 1) a else if canS R s g (some i) = true then suS R s g m (i + 1) (a ||| (nI 1 <<< (nI i &&& 31))) else suS R s g m (i + 1) a
def oSuspects (R : Nat) (v : Int32) (s : fS) : Int32 × fS := (if (ivB v 0 (nI 2) && decide (¬ s.1.1 3 = 0)) = true then suS R s (cN v) R 0 (if canS R s (cN v) none = true then nI 512 else nI 0) else -1, s)
section BF3
variable {sa : Nat → Nat} {d : Nat} {Q : xQ} {q : Nat} {M0 M : xM} {σ : mS} {R : Nat} {s : fS}
theorem ftS_m1 {A : Nat → Int32} {x : Nat} : ftS A (-1) x = fun _ => true := by
  funext f
  unfold ftS
  rw [if_pos (by decide)]
theorem beg_all (ho : okF R s) : rk (beginRow (fsB s.1)) ∧ cn R (beginRow (fsB s.1)) ∧ beginRow (fsB s.1) 0 = nI 0 := ⟨beg_ok ho, beg_cn (fun i hi hR => (ho.2.2.1.2.2.1 i hi).2.2.1 hR), rfl⟩
/-- ready for a search: what was told, the kinds, who is free -/
def rdy (σ : mS) (s : aS) (kd : Nat → Int32) (fr : Nat → Nat) (m g : Nat) : Prop := (∀ i, i < 9 → σ.2.2.1 9 i = fsB s i ∧ σ.2.2.1 10 i = kd i) ∧ σ.1 36 = nI g ∧ σ.1 35 = nI m ∧ ∀ j, j < m → σ.2.2.1 18 j = nI (fr j)
theorem rdy_sm {S : List Nat} {σ' : mS} {kd : Nat → Int32} {fr : Nat → Nat} {m g : Nat} (h : sm S σ σ') (h9 : 9 ∉ S) (h10 : 10 ∉ S) (h18 : 18 ∉ S) (hr : rdy σ s.1 kd fr m g) : rdy σ' s.1 kd fr m g := by
  unfold rdy
  rw [h.1, h.2.2 9 h9, h.2.2 10 h10, h.2.2 18 h18]
  exact hr
theorem q_beginRuns (hm : mR R σ s) (h : ∀ σ', sm [12, 13] σ σ' → lvR σ' 0 [(beginRow (fsB s.1), 0, 0)] → Q none (mM q M0 σ')) : xEv xP (xprim sa) (d + 2) m_M_beginRuns [.ref q] (mM q M0 σ) Q := by
  refine t_M_beginRuns ?_
  simp (disch := omega) only [↓i01, ↓i02, ↓xrI_mk, ↓xrV_mk, ↓xrL_mk, ↓xrR_mk, ↓mg_0, ↓mg_1, ↓mp_2, ↓mg_2, ↓mg_3, ↓mg_4, ↓mp_5, ↓mg_5, ↓mp_6, ↓mg_6, ↓mp_7, ↓mg_7, ↓mp_8, ↓mg_8, ↓mp_9, ↓mg_9, ↓mp_10, ↓mg_10, ↓mp_11, ↓mg_11, ↓mp_12, ↓mg_12, ↓mp_13, ↓mg_13, ↓mp_14, ↓mg_14, ↓mp_15, ↓mg_15, ↓mp_16, ↓mg_16, ↓mg_17, ↓mp_18, ↓mg_18, ↓mp_19, ↓mg_19, ↓mp_20, ↓mg_20, ↓mp_21, ↓mg_21, ↓mg_22, ↓mg_23, ↓mg_24, ↓mg_25, ↓mg_26, ↓mg_27, ↓mg_28, ↓mg_29, ↓mg_30, ↓mg_31, ↓mg_32, ↓mg_33, ↓mg_34, ↓mp_35, ↓mg_35, ↓mp_36, ↓mg_36, ↓mg_37, ↓mg_38, ↓mg_39, ↓ma_1, ↓ms_1, ↓ma_2, ↓ms_2, ↓ma_3, ↓ms_3, ↓ma_4, ↓ms_4, ↓ma_5, ↓ms_5, ↓ma_6, ↓ms_6, ↓ma_9, ↓ms_9, ↓ma_10, ↓ms_10, ↓ma_11, ↓ms_11, ↓ma_12, ↓ms_12, ↓ma_13, ↓ms_13, ↓ma_14, ↓ms_14, ↓ma_15, ↓ms_15, ↓ma_16, ↓ms_16, ↓ma_17, ↓ms_17, ↓ma_18, ↓ms_18, ↓ma_19, ↓ms_19, ↓ma_20, ↓ms_20, ↓ma_21, ↓ms_21, ↓mo_q', ↓ma_L, ↓ms_L, ↓ma_Z, ↓ms_Z, mF_1, mF_2, mWd_1, mWd_w, mWd_2, mA_1, mA_w, mA_a, mA_v, mV_1, mV_w, mV_a, mV_v, mA_mA, mV_mV, mF_mF, nI_add, nI_cl, vpi, i01, i02, i10, i11, ↓reduceIte, not_true_eq_false, not_false_eq_true, and_true, true_and, ne_eq, Nat.reduceAdd, Nat.reduceMul, Nat.reduceSub, Nat.reduceEqDiff, reduceCtorEq, Nat.add_zero, Nat.zero_add, n0p, ite_true, ite_false, if_true, if_false, nlT, nlF, nleT, nleF, neT, neF, n0F, n0T, pk_sub, pk_mul, nIm1, nIm2, nlZ, nleZ, upd_s, upd_n, pk_uLs, pk_uLn, nar_0, nar_1, nar_n0, nar_n1]
  refine c_M_begin rfl (by decide) (by decide) (fun e => absurd e (by decide)) ?_
  simp (disch := omega) only [↓i01, ↓i02, ↓xrI_mk, ↓xrV_mk, ↓xrL_mk, ↓xrR_mk, ↓mg_0, ↓mg_1, ↓mp_2, ↓mg_2, ↓mg_3, ↓mg_4, ↓mp_5, ↓mg_5, ↓mp_6, ↓mg_6, ↓mp_7, ↓mg_7, ↓mp_8, ↓mg_8, ↓mp_9, ↓mg_9, ↓mp_10, ↓mg_10, ↓mp_11, ↓mg_11, ↓mp_12, ↓mg_12, ↓mp_13, ↓mg_13, ↓mp_14, ↓mg_14, ↓mp_15, ↓mg_15, ↓mp_16, ↓mg_16, ↓mg_17, ↓mp_18, ↓mg_18, ↓mp_19, ↓mg_19, ↓mp_20, ↓mg_20, ↓mp_21, ↓mg_21, ↓mg_22, ↓mg_23, ↓mg_24, ↓mg_25, ↓mg_26, ↓mg_27, ↓mg_28, ↓mg_29, ↓mg_30, ↓mg_31, ↓mg_32, ↓mg_33, ↓mg_34, ↓mp_35, ↓mg_35, ↓mp_36, ↓mg_36, ↓mg_37, ↓mg_38, ↓mg_39, ↓ma_1, ↓ms_1, ↓ma_2, ↓ms_2, ↓ma_3, ↓ms_3, ↓ma_4, ↓ms_4, ↓ma_5, ↓ms_5, ↓ma_6, ↓ms_6, ↓ma_9, ↓ms_9, ↓ma_10, ↓ms_10, ↓ma_11, ↓ms_11, ↓ma_12, ↓ms_12, ↓ma_13, ↓ms_13, ↓ma_14, ↓ms_14, ↓ma_15, ↓ms_15, ↓ma_16, ↓ms_16, ↓ma_17, ↓ms_17, ↓ma_18, ↓ms_18, ↓ma_19, ↓ms_19, ↓ma_20, ↓ms_20, ↓ma_21, ↓ms_21, ↓mo_q', ↓ma_L, ↓ms_L, ↓ma_Z, ↓ms_Z, mF_1, mF_2, mWd_1, mWd_w, mWd_2, mA_1, mA_w, mA_a, mA_v, mV_1, mV_w, mV_a, mV_v, mA_mA, mV_mV, mF_mF, nI_add, nI_cl, vpi, i01, i02, i10, i11, ↓reduceIte, not_true_eq_false, not_false_eq_true, and_true, true_and, ne_eq, Nat.reduceAdd, Nat.reduceMul, Nat.reduceSub, Nat.reduceEqDiff, reduceCtorEq, Nat.add_zero, Nat.zero_add, n0p, ite_true, ite_false, if_true, if_false, nlT, nlF, nleT, nleF, neT, neF, n0F, n0T, pk_sub, pk_mul, nIm1, nIm2, nlZ, nleZ, upd_s, upd_n, pk_uLs, pk_uLn, nar_0, nar_1, nar_n0, nar_n1]
  refine h _ (sm_t (sm_A (by decide)) (sm_A (by decide))) ⟨?_, (by show 1 ≤ 2000; omega), fun k e he => ?_⟩
  · show upd (σ.2.2.1 13) 0 (nI 1) 0 = _
    rw [upd_s]; rfl
  · rcases k with _ | k
    · have he : (beginRow (fsB s.1), 0, 0) = e := Option.some.inj he
      subst he
      refine ⟨fun j hj => ?_, fun a => absurd a (Nat.lt_irrefl 0)⟩
      show upd (lay (σ.2.2.1 12) 0 29 (beginRow (fun i => σ.2.2.1 1 (20 + i)))) 29 (nI 0) (30 * (2000 * 0 + 0) + j) = _
      rw [show 30 * (2000 * 0 + 0) + j = 0 + j by omega, upd_n (by omega), lay_in hj, beg_c (g := fsB s.1) (fun i hi => hm.2.1.1 (20 + i) (by omega) (by omega))]
    · rw [show [(beginRow (fsB s.1), 0, 0)][k + 1]? = none from rfl] at he; exact nomatch he
/-- one hour of a search, by the state -/
theorem q_findNext (hm : mR R σ s) (ho : okF R s) {kd : Nat → Int32} {fr : Nat → Nat} {m g : Nat} (hy : rdy σ s.1 kd fr m g) (hg2 : g ≤ 2) (hm2 : m ≤ 2) (hfr : ∀ j, j < m → fr j < R ∧ kd (fr j) = 3) (hdi : ∀ i j, i < m → j < m → i ≠ j → fr i ≠ fr j) {h : Nat} (hh : h < 8) {rv : Int32} {x : Nat} (hrv : rv = -1 ∨ ∃ r, r < R ∧ rv = nI r) (hx : x < 189) (hx2 : x ≠ 1 ∧ x ≠ 2) {Ls : Nat → List bE} (hL : ∀ j, j ≤ h → lvR σ j (Ls j)) (hrows : ∀ e, e ∈ Ls h → rk e.1 ∧ e.1 0 = nI h)
    (h1 : ∀ σ' L', bfO (nxS R (rulL s.1 s.2.2.1) s.1.1 kd (fsB s.1) fr m g) (ftS s.1.1 rv x) (dgW g m) (Ls h) 0 [] = some L' → mR R σ' s → rdy σ' s.1 kd fr m g → (∀ j, j ≤ h → lvR σ' j (Ls j)) → lvR σ' (h + 1) L' → Q (some (.int 1)) (mM q M0 σ'))
    (h0 : bfO (nxS R (rulL s.1 s.2.2.1) s.1.1 kd (fsB s.1) fr m g) (ftS s.1.1 rv x) (dgW g m) (Ls h) 0 [] = none → ∀ σ', mR R σ' s → Q (some (.int 0)) (mM q M0 σ')) : xEv xP (xprim sa) (d + 6) m_M_findNext [.ref q, .int (nI h), .int rv, .int (nI x)] (mM q M0 σ) Q := by
  have hAB : ∀ j, 10 ≤ j → j < 170 → σ.2.2.1 1 j = s.1.1 j := fun j h1 h2 => hm.2.1.1 j (by omega) (by omega)
  have e1 : nxS R (rulL s.1 s.2.2.1) (σ.2.2.1 1) kd (fsB s.1) fr m g = nxS R (rulL s.1 s.2.2.1) s.1.1 kd (fsB s.1) fr m g := nxS_A hAB ho.2.1 (lie_of hm ho) hg2
  have e2 : ftS (σ.2.2.1 1) rv x = ftS s.1.1 rv x := by
    funext f
    unfold ftS
    rw [hm.2.1.1 x (by omega) (by omega), hm.2.1.1 (x + 1) (by omega) (by omega)]
  refine c_M_findNext hm.1 ho.1 ho.2.1 (rul_of hm ho) rfl (lie_of hm ho) (fun i hi => (hy.1 i hi).2) (fun i hi => (hy.1 i hi).1) (fs_ok ho) hy.2.1 hg2 hy.2.2.1 hm2 (fun j hj => ⟨hy.2.2.2 j hj, hfr j hj⟩) hdi hh hrv hx hL hrows (fun τ L' hb hk hl1 hl2 => ?_) (fun hb τ hk => ?_)
  · rw [e1, e2] at hb
    exact h1 τ L' hb (mR_kp (kp_sm hk (by decide)) hm) (rdy_sm hk (by decide) (by decide) (by decide) hy) hl1 hl2
  · rw [e1, e2] at hb
    exact h0 hb τ (mR_kp (kp_sm hk (by decide)) hm)
theorem kp_mF {σ : mS} {j : Nat} {v : Int32} (h : j = 35 ∨ j = 36) : kp σ (mF σ j v) := by
  refine ⟨?_, fun _ _ _ => rfl⟩
  rcases h with rfl | rfl
  · exact ⟨rfl, rfl, rfl, rfl⟩
  · exact ⟨rfl, rfl, rfl, rfl⟩
theorem kp_mA {σ : mS} {k : Nat} {f : Nat → Int32} (h : 5 ≤ k) : kp σ (mA σ k f) := ⟨⟨rfl, rfl, rfl, rfl⟩, fun j h1 h4 => by
  show (if j = k then f else _) = _
  rw [if_neg (by omega)]⟩
theorem nx_all (ho : okF R s) {kd : Nat → Int32} {fr : Nat → Nat} {m g W : Nat} (hg2 : g ≤ 2) : ∀ (f : Nat → Int32) (w : Nat), w < W → rk f → cn R f → rk (nxS R (rulL s.1 s.2.2.1) s.1.1 kd (fsB s.1) fr m g f w) ∧ cn R (nxS R (rulL s.1 s.2.2.1) s.1.1 kd (fsB s.1) fr m g f w) ∧ nxS R (rulL s.1 s.2.2.1) s.1.1 kd (fsB s.1) fr m g f w 0 = f 0 + 1 := fun f w _ hf hc => ⟨nxS_rk ho.2.1 ho.2.2.1.2.2.2.1 hg2 hf, nxS_cn hc, nxS_0⟩
/-- findRuns -/
theorem q_findRuns (hm : mR R σ s) (ho : okF R s) {n g : Nat} (hn : n ≤ 6) (hg2 : g ≤ 2) (hli : cntL (kdB s.1) R ≤ 2)
    (h1 : ∀ σ' L', runL R s g n = some L' → mR R σ' s → rdy σ' s.1 (kd3 R (kdB s.1)) (frN (kdB s.1) R) (cntL (kdB s.1) R) g → (∀ j, j ≤ n → lvR σ' j (lvN (runL R s g j))) → Q (some (.int 1)) (mM q M0 σ'))
    (h0 : runL R s g n = none → ∀ σ', mR R σ' s → Q (some (.int 0)) (mM q M0 σ')) : xEv xP (xprim sa) (d + 7) m_M_findRuns [.ref q, .int (nI n), .int (nI g)] (mM q M0 σ) Q := by
  have h9 := ho.2.1
  have h3 := ho.1
  refine t_M_findRuns ⟨mo_q, q_asTold hm (fun τ hmτ ht hk => ?_)⟩
  simp (disch := omega) only [↓i01, ↓i02, ↓xrI_mk, ↓xrV_mk, ↓xrL_mk, ↓xrR_mk, ↓mg_0, ↓mg_1, ↓mp_2, ↓mg_2, ↓mg_3, ↓mg_4, ↓mp_5, ↓mg_5, ↓mp_6, ↓mg_6, ↓mp_7, ↓mg_7, ↓mp_8, ↓mg_8, ↓mp_9, ↓mg_9, ↓mp_10, ↓mg_10, ↓mp_11, ↓mg_11, ↓mp_12, ↓mg_12, ↓mp_13, ↓mg_13, ↓mp_14, ↓mg_14, ↓mp_15, ↓mg_15, ↓mp_16, ↓mg_16, ↓mg_17, ↓mp_18, ↓mg_18, ↓mp_19, ↓mg_19, ↓mp_20, ↓mg_20, ↓mp_21, ↓mg_21, ↓mg_22, ↓mg_23, ↓mg_24, ↓mg_25, ↓mg_26, ↓mg_27, ↓mg_28, ↓mg_29, ↓mg_30, ↓mg_31, ↓mg_32, ↓mg_33, ↓mg_34, ↓mp_35, ↓mg_35, ↓mp_36, ↓mg_36, ↓mg_37, ↓mg_38, ↓mg_39, ↓ma_1, ↓ms_1, ↓ma_2, ↓ms_2, ↓ma_3, ↓ms_3, ↓ma_4, ↓ms_4, ↓ma_5, ↓ms_5, ↓ma_6, ↓ms_6, ↓ma_9, ↓ms_9, ↓ma_10, ↓ms_10, ↓ma_11, ↓ms_11, ↓ma_12, ↓ms_12, ↓ma_13, ↓ms_13, ↓ma_14, ↓ms_14, ↓ma_15, ↓ms_15, ↓ma_16, ↓ms_16, ↓ma_17, ↓ms_17, ↓ma_18, ↓ms_18, ↓ma_19, ↓ms_19, ↓ma_20, ↓ms_20, ↓ma_21, ↓ms_21, ↓mo_q', ↓ma_L, ↓ms_L, ↓ma_Z, ↓ms_Z, mF_1, mF_2, mWd_1, mWd_w, mWd_2, mA_1, mA_w, mA_a, mA_v, mV_1, mV_w, mV_a, mV_v, mA_mA, mV_mV, mF_mF, nI_add, nI_cl, vpi, i01, i02, i10, i11, ↓reduceIte, not_true_eq_false, not_false_eq_true, and_true, true_and, ne_eq, Nat.reduceAdd, Nat.reduceMul, Nat.reduceSub, Nat.reduceEqDiff, reduceCtorEq, Nat.add_zero, Nat.zero_add, n0p, ite_true, ite_false, if_true, if_false, nlT, nlF, nleT, nleF, neT, neF, n0F, n0T, pk_sub, pk_mul, nIm1, nIm2, nlZ, nleZ, upd_s, upd_n, pk_uLs, pk_uLn, nar_0, nar_1, nar_n0, nar_n1]
  have hmono : ∀ i, i ≤ R → (frS (kdB s.1) i).length ≤ cntL (kdB s.1) R := by
    intro i hi
    rw [frS_len]
    have : ∀ (m i : Nat), cntL (kdB s.1) i ≤ cntL (kdB s.1) (i + m) := by
      intro m
      induction m with
      | zero => exact fun i => Nat.le_refl _
      | succ m ih =>
        intro i
        refine Nat.le_trans (ih i) ?_
        show _ ≤ cntL (kdB s.1) (i + m) + _
        exact Nat.le_add_right _ _
    have := this (R - i) i
    rw [show i + (R - i) = R by omega] at this
    exact this
  -- the hours
  have hours : ∀ (m h : Nat), m + h = n → ∀ τ : mS, mR R τ s → rdy τ s.1 (kd3 R (kdB s.1)) (frN (kdB s.1) R) (cntL (kdB s.1) R) g → (∃ L, runL R s g h = some L) → (∀ j, j ≤ h → lvR τ j (lvN (runL R s g j))) → K_M_findRuns sa (d + 6) Q 7 [some (.ref q), some (.int (nI n)), none, some (.int (nI h))] [] (mM q M0 τ) (0, 0) := by
    intro m
    induction m with
    | zero =>
      intro h hh τ hm' hy ⟨L, hL⟩ hl
      refine t_M_findRuns_7 ?_
      simp (disch := omega) only [↓i01, ↓i02, ↓xrI_mk, ↓xrV_mk, ↓xrL_mk, ↓xrR_mk, ↓mg_0, ↓mg_1, ↓mp_2, ↓mg_2, ↓mg_3, ↓mg_4, ↓mp_5, ↓mg_5, ↓mp_6, ↓mg_6, ↓mp_7, ↓mg_7, ↓mp_8, ↓mg_8, ↓mp_9, ↓mg_9, ↓mp_10, ↓mg_10, ↓mp_11, ↓mg_11, ↓mp_12, ↓mg_12, ↓mp_13, ↓mg_13, ↓mp_14, ↓mg_14, ↓mp_15, ↓mg_15, ↓mp_16, ↓mg_16, ↓mg_17, ↓mp_18, ↓mg_18, ↓mp_19, ↓mg_19, ↓mp_20, ↓mg_20, ↓mp_21, ↓mg_21, ↓mg_22, ↓mg_23, ↓mg_24, ↓mg_25, ↓mg_26, ↓mg_27, ↓mg_28, ↓mg_29, ↓mg_30, ↓mg_31, ↓mg_32, ↓mg_33, ↓mg_34, ↓mp_35, ↓mg_35, ↓mp_36, ↓mg_36, ↓mg_37, ↓mg_38, ↓mg_39, ↓ma_1, ↓ms_1, ↓ma_2, ↓ms_2, ↓ma_3, ↓ms_3, ↓ma_4, ↓ms_4, ↓ma_5, ↓ms_5, ↓ma_6, ↓ms_6, ↓ma_9, ↓ms_9, ↓ma_10, ↓ms_10, ↓ma_11, ↓ms_11, ↓ma_12, ↓ms_12, ↓ma_13, ↓ms_13, ↓ma_14, ↓ms_14, ↓ma_15, ↓ms_15, ↓ma_16, ↓ms_16, ↓ma_17, ↓ms_17, ↓ma_18, ↓ms_18, ↓ma_19, ↓ms_19, ↓ma_20, ↓ms_20, ↓ma_21, ↓ms_21, ↓mo_q', ↓ma_L, ↓ms_L, ↓ma_Z, ↓ms_Z, mF_1, mF_2, mWd_1, mWd_w, mWd_2, mA_1, mA_w, mA_a, mA_v, mV_1, mV_w, mV_a, mV_v, mA_mA, mV_mV, mF_mF, nI_add, nI_cl, vpi, i01, i02, i10, i11, ↓reduceIte, not_true_eq_false, not_false_eq_true, and_true, true_and, ne_eq, Nat.reduceAdd, Nat.reduceMul, Nat.reduceSub, Nat.reduceEqDiff, reduceCtorEq, Nat.add_zero, Nat.zero_add, n0p, ite_true, ite_false, if_true, if_false, nlT, nlF, nleT, nleF, neT, neF, n0F, n0T, pk_sub, pk_mul, nIm1, nIm2, nlZ, nleZ, upd_s, upd_n, pk_uLs, pk_uLn, nar_0, nar_1, nar_n0, nar_n1]
      have e : h = n := by omega
      subst e
      exact h1 τ L hL hm' hy hl
    | succ m ih =>
      intro h hh τ hm' hy ⟨L, hL⟩ hl
      refine t_M_findRuns_7 ?_
      simp (disch := omega) only [↓i01, ↓i02, ↓xrI_mk, ↓xrV_mk, ↓xrL_mk, ↓xrR_mk, ↓mg_0, ↓mg_1, ↓mp_2, ↓mg_2, ↓mg_3, ↓mg_4, ↓mp_5, ↓mg_5, ↓mp_6, ↓mg_6, ↓mp_7, ↓mg_7, ↓mp_8, ↓mg_8, ↓mp_9, ↓mg_9, ↓mp_10, ↓mg_10, ↓mp_11, ↓mg_11, ↓mp_12, ↓mg_12, ↓mp_13, ↓mg_13, ↓mp_14, ↓mg_14, ↓mp_15, ↓mg_15, ↓mp_16, ↓mg_16, ↓mg_17, ↓mp_18, ↓mg_18, ↓mp_19, ↓mg_19, ↓mp_20, ↓mg_20, ↓mp_21, ↓mg_21, ↓mg_22, ↓mg_23, ↓mg_24, ↓mg_25, ↓mg_26, ↓mg_27, ↓mg_28, ↓mg_29, ↓mg_30, ↓mg_31, ↓mg_32, ↓mg_33, ↓mg_34, ↓mp_35, ↓mg_35, ↓mp_36, ↓mg_36, ↓mg_37, ↓mg_38, ↓mg_39, ↓ma_1, ↓ms_1, ↓ma_2, ↓ms_2, ↓ma_3, ↓ms_3, ↓ma_4, ↓ms_4, ↓ma_5, ↓ms_5, ↓ma_6, ↓ms_6, ↓ma_9, ↓ms_9, ↓ma_10, ↓ms_10, ↓ma_11, ↓ms_11, ↓ma_12, ↓ms_12, ↓ma_13, ↓ms_13, ↓ma_14, ↓ms_14, ↓ma_15, ↓ms_15, ↓ma_16, ↓ms_16, ↓ma_17, ↓ms_17, ↓ma_18, ↓ms_18, ↓ma_19, ↓ms_19, ↓ma_20, ↓ms_20, ↓ma_21, ↓ms_21, ↓mo_q', ↓ma_L, ↓ms_L, ↓ma_Z, ↓ms_Z, mF_1, mF_2, mWd_1, mWd_w, mWd_2, mA_1, mA_w, mA_a, mA_v, mV_1, mV_w, mV_a, mV_v, mA_mA, mV_mV, mF_mF, nI_add, nI_cl, vpi, i01, i02, i10, i11, ↓reduceIte, not_true_eq_false, not_false_eq_true, and_true, true_and, ne_eq, Nat.reduceAdd, Nat.reduceMul, Nat.reduceSub, Nat.reduceEqDiff, reduceCtorEq, Nat.add_zero, Nat.zero_add, n0p, ite_true, ite_false, if_true, if_false, nlT, nlF, nleT, nleF, neT, neF, n0F, n0T, pk_sub, pk_mul, nIm1, nIm2, nlZ, nleZ, upd_s, upd_n, pk_uLs, pk_uLn, nar_0, nar_1, nar_n0, nar_n1]
      have hP := bfL_P (beg_all ho) (nx_all ho hg2) h L hL
      have eL : lvN (runL R s g h) = L := by rw [hL]; rfl
      have es : ∀ o, bfO (nxS R (rulL s.1 s.2.2.1) s.1.1 (kd3 R (kdB s.1)) (fsB s.1) (frN (kdB s.1) R) (cntL (kdB s.1) R) g) (ftS s.1.1 (-1) 0) (dgW g (cntL (kdB s.1) R)) (lvN (runL R s g h)) 0 [] = o → runL R s g (h + 1) = o := by
        intro o ho'
        rw [ftS_m1, eL] at ho'
        unfold runL at hL ⊢
        rw [bfL_s, hL]
        exact ho'
      refine q_findNext hm' ho hy hg2 hli (fun j hj => ?_) (fun i j hi hj hne => ?_) (by omega) (Or.inl rfl) (by omega) (by omega) hl (fun e he => ?_) (fun τ2 L2 hb hm2 hy2 l1 l2 => ?_) (fun hb τ2 hm2 => ?_)
      · have := frS_lt R j _ (frN_e hj)
        exact ⟨this.1, if_pos this⟩
      · exact frS_ne R i j _ _ (frN_e hi) (frN_e hj) hne
      · rw [eL] at he
        exact ⟨(hP e he).1, (hP e he).2.2.1⟩
      · have e2 := es _ hb
        simp (disch := omega) only [↓i01, ↓i02, ↓xrI_mk, ↓xrV_mk, ↓xrL_mk, ↓xrR_mk, ↓mg_0, ↓mg_1, ↓mp_2, ↓mg_2, ↓mg_3, ↓mg_4, ↓mp_5, ↓mg_5, ↓mp_6, ↓mg_6, ↓mp_7, ↓mg_7, ↓mp_8, ↓mg_8, ↓mp_9, ↓mg_9, ↓mp_10, ↓mg_10, ↓mp_11, ↓mg_11, ↓mp_12, ↓mg_12, ↓mp_13, ↓mg_13, ↓mp_14, ↓mg_14, ↓mp_15, ↓mg_15, ↓mp_16, ↓mg_16, ↓mg_17, ↓mp_18, ↓mg_18, ↓mp_19, ↓mg_19, ↓mp_20, ↓mg_20, ↓mp_21, ↓mg_21, ↓mg_22, ↓mg_23, ↓mg_24, ↓mg_25, ↓mg_26, ↓mg_27, ↓mg_28, ↓mg_29, ↓mg_30, ↓mg_31, ↓mg_32, ↓mg_33, ↓mg_34, ↓mp_35, ↓mg_35, ↓mp_36, ↓mg_36, ↓mg_37, ↓mg_38, ↓mg_39, ↓ma_1, ↓ms_1, ↓ma_2, ↓ms_2, ↓ma_3, ↓ms_3, ↓ma_4, ↓ms_4, ↓ma_5, ↓ms_5, ↓ma_6, ↓ms_6, ↓ma_9, ↓ms_9, ↓ma_10, ↓ms_10, ↓ma_11, ↓ms_11, ↓ma_12, ↓ms_12, ↓ma_13, ↓ms_13, ↓ma_14, ↓ms_14, ↓ma_15, ↓ms_15, ↓ma_16, ↓ms_16, ↓ma_17, ↓ms_17, ↓ma_18, ↓ms_18, ↓ma_19, ↓ms_19, ↓ma_20, ↓ms_20, ↓ma_21, ↓ms_21, ↓mo_q', ↓ma_L, ↓ms_L, ↓ma_Z, ↓ms_Z, mF_1, mF_2, mWd_1, mWd_w, mWd_2, mA_1, mA_w, mA_a, mA_v, mV_1, mV_w, mV_a, mV_v, mA_mA, mV_mV, mF_mF, nI_add, nI_cl, vpi, i01, i02, i10, i11, ↓reduceIte, not_true_eq_false, not_false_eq_true, and_true, true_and, ne_eq, Nat.reduceAdd, Nat.reduceMul, Nat.reduceSub, Nat.reduceEqDiff, reduceCtorEq, Nat.add_zero, Nat.zero_add, n0p, ite_true, ite_false, if_true, if_false, nlT, nlF, nleT, nleF, neT, neF, n0F, n0T, pk_sub, pk_mul, nIm1, nIm2, nlZ, nleZ, upd_s, upd_n, pk_uLs, pk_uLn, nar_0, nar_1, nar_n0, nar_n1]
        refine ih (h + 1) (by omega) τ2 hm2 hy2 ⟨L2, e2⟩ (fun j hj => ?_)
        by_cases ej : j = h + 1
        · rw [ej, e2]; exact l2
        · exact l1 j (by omega)
      · have e2 := es _ hb
        simp (disch := omega) only [↓i01, ↓i02, ↓xrI_mk, ↓xrV_mk, ↓xrL_mk, ↓xrR_mk, ↓mg_0, ↓mg_1, ↓mp_2, ↓mg_2, ↓mg_3, ↓mg_4, ↓mp_5, ↓mg_5, ↓mp_6, ↓mg_6, ↓mp_7, ↓mg_7, ↓mp_8, ↓mg_8, ↓mp_9, ↓mg_9, ↓mp_10, ↓mg_10, ↓mp_11, ↓mg_11, ↓mp_12, ↓mg_12, ↓mp_13, ↓mg_13, ↓mp_14, ↓mg_14, ↓mp_15, ↓mg_15, ↓mp_16, ↓mg_16, ↓mg_17, ↓mp_18, ↓mg_18, ↓mp_19, ↓mg_19, ↓mp_20, ↓mg_20, ↓mp_21, ↓mg_21, ↓mg_22, ↓mg_23, ↓mg_24, ↓mg_25, ↓mg_26, ↓mg_27, ↓mg_28, ↓mg_29, ↓mg_30, ↓mg_31, ↓mg_32, ↓mg_33, ↓mg_34, ↓mp_35, ↓mg_35, ↓mp_36, ↓mg_36, ↓mg_37, ↓mg_38, ↓mg_39, ↓ma_1, ↓ms_1, ↓ma_2, ↓ms_2, ↓ma_3, ↓ms_3, ↓ma_4, ↓ms_4, ↓ma_5, ↓ms_5, ↓ma_6, ↓ms_6, ↓ma_9, ↓ms_9, ↓ma_10, ↓ms_10, ↓ma_11, ↓ms_11, ↓ma_12, ↓ms_12, ↓ma_13, ↓ms_13, ↓ma_14, ↓ms_14, ↓ma_15, ↓ms_15, ↓ma_16, ↓ms_16, ↓ma_17, ↓ms_17, ↓ma_18, ↓ms_18, ↓ma_19, ↓ms_19, ↓ma_20, ↓ms_20, ↓ma_21, ↓ms_21, ↓mo_q', ↓ma_L, ↓ms_L, ↓ma_Z, ↓ms_Z, mF_1, mF_2, mWd_1, mWd_w, mWd_2, mA_1, mA_w, mA_a, mA_v, mV_1, mV_w, mV_a, mV_v, mA_mA, mV_mV, mF_mF, nI_add, nI_cl, vpi, i01, i02, i10, i11, ↓reduceIte, not_true_eq_false, not_false_eq_true, and_true, true_and, ne_eq, Nat.reduceAdd, Nat.reduceMul, Nat.reduceSub, Nat.reduceEqDiff, reduceCtorEq, Nat.add_zero, Nat.zero_add, n0p, ite_true, ite_false, if_true, if_false, nlT, nlF, nleT, nleF, neT, neF, n0F, n0T, pk_sub, pk_mul, nIm1, nIm2, nlZ, nleZ, upd_s, upd_n, pk_uLs, pk_uLn, nar_0, nar_1, nar_n0, nar_n1]
        have := bfL_none e2 (n - (h + 1))
        rw [show h + 1 + (n - (h + 1)) = n by omega] at this
        exact h0 this τ2 hm2
  -- who is free
  have seat : ∀ (m i : Nat), m + i = R → ∀ τ : mS, mR R τ s → (∀ j, j < 9 → τ.2.2.1 9 j = fsB s.1 j ∧ τ.2.2.1 10 j = kd3 i (kdB s.1) j) → τ.1 36 = nI g → τ.1 35 = nI (frS (kdB s.1) i).length → (∀ j r, (frS (kdB s.1) i)[j]? = some r → τ.2.2.1 18 j = nI r) → K_M_findRuns sa (d + 6) Q 1 [some (.ref q), some (.int (nI n)), none, some (.int (nI i))] [] (mM q M0 τ) (0, 0) := by
    intro m
    induction m with
    | zero =>
      intro i hi τ hm' ht' e36 e35 e18
      refine t_M_findRuns_1 ?_
      simp (disch := omega) only [↓i01, ↓i02, ↓xrI_mk, ↓xrV_mk, ↓xrL_mk, ↓xrR_mk, ↓mg_0, ↓mg_1, ↓mp_2, ↓mg_2, ↓mg_3, ↓mg_4, ↓mp_5, ↓mg_5, ↓mp_6, ↓mg_6, ↓mp_7, ↓mg_7, ↓mp_8, ↓mg_8, ↓mp_9, ↓mg_9, ↓mp_10, ↓mg_10, ↓mp_11, ↓mg_11, ↓mp_12, ↓mg_12, ↓mp_13, ↓mg_13, ↓mp_14, ↓mg_14, ↓mp_15, ↓mg_15, ↓mp_16, ↓mg_16, ↓mg_17, ↓mp_18, ↓mg_18, ↓mp_19, ↓mg_19, ↓mp_20, ↓mg_20, ↓mp_21, ↓mg_21, ↓mg_22, ↓mg_23, ↓mg_24, ↓mg_25, ↓mg_26, ↓mg_27, ↓mg_28, ↓mg_29, ↓mg_30, ↓mg_31, ↓mg_32, ↓mg_33, ↓mg_34, ↓mp_35, ↓mg_35, ↓mp_36, ↓mg_36, ↓mg_37, ↓mg_38, ↓mg_39, ↓ma_1, ↓ms_1, ↓ma_2, ↓ms_2, ↓ma_3, ↓ms_3, ↓ma_4, ↓ms_4, ↓ma_5, ↓ms_5, ↓ma_6, ↓ms_6, ↓ma_9, ↓ms_9, ↓ma_10, ↓ms_10, ↓ma_11, ↓ms_11, ↓ma_12, ↓ms_12, ↓ma_13, ↓ms_13, ↓ma_14, ↓ms_14, ↓ma_15, ↓ms_15, ↓ma_16, ↓ms_16, ↓ma_17, ↓ms_17, ↓ma_18, ↓ms_18, ↓ma_19, ↓ms_19, ↓ma_20, ↓ms_20, ↓ma_21, ↓ms_21, ↓mo_q', ↓ma_L, ↓ms_L, ↓ma_Z, ↓ms_Z, mF_1, mF_2, mWd_1, mWd_w, mWd_2, mA_1, mA_w, mA_a, mA_v, mV_1, mV_w, mV_a, mV_v, mA_mA, mV_mV, mF_mF, nI_add, nI_cl, vpi, i01, i02, i10, i11, ↓reduceIte, not_true_eq_false, not_false_eq_true, and_true, true_and, ne_eq, Nat.reduceAdd, Nat.reduceMul, Nat.reduceSub, Nat.reduceEqDiff, reduceCtorEq, Nat.add_zero, Nat.zero_add, n0p, ite_true, ite_false, if_true, if_false, nlT, nlF, nleT, nleF, neT, neF, n0F, n0T, pk_sub, pk_mul, nIm1, nIm2, nlZ, nleZ, upd_s, upd_n, pk_uLs, pk_uLn, nar_0, nar_1, nar_n0, nar_n1, hm'.1]
      have ei : i = R := by omega
      subst ei
      refine q_beginRuns hm' (fun τ2 s2 l2 => ?_)
      rw [xrV_mk]
      refine hours n 0 (by omega) τ2 (mR_kp (kp_sm s2 (by decide)) hm') ?_ ⟨_, rfl⟩ (fun j hj => ?_)
      · refine rdy_sm s2 (by decide) (by decide) (by decide) ⟨ht', e36, ?_, fun j hj => e18 j _ (frN_e hj)⟩
        rw [e35, frS_len]
      · rw [show j = 0 by omega]; exact l2
    | succ m ih =>
      intro i hi τ hm' ht' e36 e35 e18
      refine t_M_findRuns_1 ?_
      have e10 := (ht' i (by omega)).2
      have e10' : kd3 i (kdB s.1) i = kdB s.1 i := if_neg (by omega)
      rw [e10'] at e10
      have hlen := hmono (i + 1) (by omega)
      have hlen0 := hmono i (by omega)
      simp (disch := omega) only [↓i01, ↓i02, ↓xrI_mk, ↓xrV_mk, ↓xrL_mk, ↓xrR_mk, ↓mg_0, ↓mg_1, ↓mp_2, ↓mg_2, ↓mg_3, ↓mg_4, ↓mp_5, ↓mg_5, ↓mp_6, ↓mg_6, ↓mp_7, ↓mg_7, ↓mp_8, ↓mg_8, ↓mp_9, ↓mg_9, ↓mp_10, ↓mg_10, ↓mp_11, ↓mg_11, ↓mp_12, ↓mg_12, ↓mp_13, ↓mg_13, ↓mp_14, ↓mg_14, ↓mp_15, ↓mg_15, ↓mp_16, ↓mg_16, ↓mg_17, ↓mp_18, ↓mg_18, ↓mp_19, ↓mg_19, ↓mp_20, ↓mg_20, ↓mp_21, ↓mg_21, ↓mg_22, ↓mg_23, ↓mg_24, ↓mg_25, ↓mg_26, ↓mg_27, ↓mg_28, ↓mg_29, ↓mg_30, ↓mg_31, ↓mg_32, ↓mg_33, ↓mg_34, ↓mp_35, ↓mg_35, ↓mp_36, ↓mg_36, ↓mg_37, ↓mg_38, ↓mg_39, ↓ma_1, ↓ms_1, ↓ma_2, ↓ms_2, ↓ma_3, ↓ms_3, ↓ma_4, ↓ms_4, ↓ma_5, ↓ms_5, ↓ma_6, ↓ms_6, ↓ma_9, ↓ms_9, ↓ma_10, ↓ms_10, ↓ma_11, ↓ms_11, ↓ma_12, ↓ms_12, ↓ma_13, ↓ms_13, ↓ma_14, ↓ms_14, ↓ma_15, ↓ms_15, ↓ma_16, ↓ms_16, ↓ma_17, ↓ms_17, ↓ma_18, ↓ms_18, ↓ma_19, ↓ms_19, ↓ma_20, ↓ms_20, ↓ma_21, ↓ms_21, ↓mo_q', ↓ma_L, ↓ms_L, ↓ma_Z, ↓ms_Z, mF_1, mF_2, mWd_1, mWd_w, mWd_2, mA_1, mA_w, mA_a, mA_v, mV_1, mV_w, mV_a, mV_v, mA_mA, mV_mV, mF_mF, nI_add, nI_cl, vpi, i01, i02, i10, i11, ↓reduceIte, not_true_eq_false, not_false_eq_true, and_true, true_and, ne_eq, Nat.reduceAdd, Nat.reduceMul, Nat.reduceSub, Nat.reduceEqDiff, reduceCtorEq, Nat.add_zero, Nat.zero_add, n0p, ite_true, ite_false, if_true, if_false, nlT, nlF, nleT, nleF, neT, neF, n0F, n0T, pk_sub, pk_mul, nIm1, nIm2, nlZ, nleZ, upd_s, upd_n, pk_uLs, pk_uLn, nar_0, nar_1, nar_n0, nar_n1, hm'.1, e10]
      by_cases e : kdB s.1 i = 1
      · have e' : kdB s.1 i = nI 1 := e
        have ef : frS (kdB s.1) (i + 1) = frS (kdB s.1) i ++ [i] := if_pos e
        have hl1 : (frS (kdB s.1) (i + 1)).length = (frS (kdB s.1) i).length + 1 := by rw [ef, List.length_append, List.length_singleton]
        rw [if_pos e']
        simp (disch := omega) only [↓i01, ↓i02, ↓xrI_mk, ↓xrV_mk, ↓xrL_mk, ↓xrR_mk, ↓mg_0, ↓mg_1, ↓mp_2, ↓mg_2, ↓mg_3, ↓mg_4, ↓mp_5, ↓mg_5, ↓mp_6, ↓mg_6, ↓mp_7, ↓mg_7, ↓mp_8, ↓mg_8, ↓mp_9, ↓mg_9, ↓mp_10, ↓mg_10, ↓mp_11, ↓mg_11, ↓mp_12, ↓mg_12, ↓mp_13, ↓mg_13, ↓mp_14, ↓mg_14, ↓mp_15, ↓mg_15, ↓mp_16, ↓mg_16, ↓mg_17, ↓mp_18, ↓mg_18, ↓mp_19, ↓mg_19, ↓mp_20, ↓mg_20, ↓mp_21, ↓mg_21, ↓mg_22, ↓mg_23, ↓mg_24, ↓mg_25, ↓mg_26, ↓mg_27, ↓mg_28, ↓mg_29, ↓mg_30, ↓mg_31, ↓mg_32, ↓mg_33, ↓mg_34, ↓mp_35, ↓mg_35, ↓mp_36, ↓mg_36, ↓mg_37, ↓mg_38, ↓mg_39, ↓ma_1, ↓ms_1, ↓ma_2, ↓ms_2, ↓ma_3, ↓ms_3, ↓ma_4, ↓ms_4, ↓ma_5, ↓ms_5, ↓ma_6, ↓ms_6, ↓ma_9, ↓ms_9, ↓ma_10, ↓ms_10, ↓ma_11, ↓ms_11, ↓ma_12, ↓ms_12, ↓ma_13, ↓ms_13, ↓ma_14, ↓ms_14, ↓ma_15, ↓ms_15, ↓ma_16, ↓ms_16, ↓ma_17, ↓ms_17, ↓ma_18, ↓ms_18, ↓ma_19, ↓ms_19, ↓ma_20, ↓ms_20, ↓ma_21, ↓ms_21, ↓mo_q', ↓ma_L, ↓ms_L, ↓ma_Z, ↓ms_Z, mF_1, mF_2, mWd_1, mWd_w, mWd_2, mA_1, mA_w, mA_a, mA_v, mV_1, mV_w, mV_a, mV_v, mA_mA, mV_mV, mF_mF, nI_add, nI_cl, vpi, i01, i02, i10, i11, ↓reduceIte, not_true_eq_false, not_false_eq_true, and_true, true_and, ne_eq, Nat.reduceAdd, Nat.reduceMul, Nat.reduceSub, Nat.reduceEqDiff, reduceCtorEq, Nat.add_zero, Nat.zero_add, n0p, ite_true, ite_false, if_true, if_false, nlT, nlF, nleT, nleF, neT, neF, n0F, n0T, pk_sub, pk_mul, nIm1, nIm2, nlZ, nleZ, upd_s, upd_n, pk_uLs, pk_uLn, nar_0, nar_1, nar_n0, nar_n1, e35]
        refine ih (i + 1) (by omega) _ (mR_kp (kp_t (kp_t (kp_mA (k := 18) (by omega)) (kp_mF (Or.inl rfl))) (kp_mA (k := 10) (by omega))) hm') (fun j hj => ⟨(ht' j hj).1, ?_⟩) e36 ?_ (fun j r hr => ?_)
        · show upd (τ.2.2.1 10) i (nI 3) j = _
          by_cases ej : j = i
          · rw [ej, upd_s]; exact (if_pos ⟨by omega, e⟩ : kd3 (i + 1) (kdB s.1) i = 3).symm
          · rw [upd_n ej, (ht' j hj).2]
            unfold kd3
            by_cases ek : j < i ∧ kdB s.1 j = 1
            · rw [if_pos ek, if_pos ⟨by omega, ek.2⟩]
            · rw [if_neg ek, if_neg (fun a => ek ⟨by omega, a.2⟩)]
        · show nI _ = _
          rw [hl1]
        · rw [ef] at hr
          show upd (τ.2.2.1 18) (frS (kdB s.1) i).length (nI i) j = _
          rcases gt_app hr with hr | ⟨e1, e2⟩
          · have := gt_lt hr
            rw [upd_n (by omega)]; exact e18 j r hr
          · rw [e1, e2, upd_s]
      · have e' : ¬ kdB s.1 i = nI 1 := e
        have ef : frS (kdB s.1) (i + 1) = frS (kdB s.1) i := if_neg e
        rw [if_neg e']
        refine ih (i + 1) (by omega) τ hm' (fun j hj => ⟨(ht' j hj).1, ?_⟩) e36 (by rw [ef]; exact e35) (by rw [ef]; exact e18)
        rw [(ht' j hj).2]
        unfold kd3
        by_cases ek : j < i ∧ kdB s.1 j = 1
        · rw [if_pos ek, if_pos ⟨by omega, ek.2⟩]
        · rw [if_neg ek, if_neg (fun a => ?_)]
          by_cases ej : j = i
          · rw [ej] at a; exact e a.2
          · exact ek ⟨by omega, a.2⟩
  refine seat R 0 (by omega) _ (mR_kp (kp_t (kp_mF (Or.inr rfl)) (kp_mF (Or.inl rfl))) hmτ) (fun j hj => ?_) rfl rfl (fun j r hr => ?_)
  · have := ht j hj
    refine ⟨this.1, this.2.trans ?_⟩
    exact (if_neg (by omega) : kd3 0 (kdB s.1) j = kdB s.1 j).symm
  · rw [show frS (kdB s.1) 0 = [] from rfl, List.getElem?_nil] at hr; exact nomatch hr
theorem q_firstBad (hm : mR R σ s) (ho : okF R s) {n : Nat} (hn : n ≤ 8) {L : List bE} {fr : Nat → Nat} {m g : Nat} (hy : rdy σ s.1 (kd3 R (kdB s.1)) fr m g) (hL : lvR σ n L) (hr : ∀ e, e ∈ L → rk e.1 ∧ e.1 0 = nI n) (h : ∀ σ', sm [6, 8] σ σ' → Q (some (.int (fbS (oneR R s) L 0))) (mM q M0 σ')) : xEv xP (xprim sa) (d + 7) m_M_firstBad [.ref q, .int (nI n)] (mM q M0 σ) Q := by
  refine t_M_firstBad ?_
  have loop : ∀ (rest : List bE) (k : Nat) (τ : mS), L.drop k = rest → k ≤ L.length → sm [6, 8] σ τ → fbS (oneR R s) L 0 = fbS (oneR R s) rest k → K_M_firstBad sa (d + 6) Q 1 [some (.ref q), some (.int (nI n)), some (.int (nI k))] [] (mM q M0 τ) (0, 0) := by
    intro rest
    induction rest with
    | nil =>
      intro k τ hk hkl hs he
      refine t_M_firstBad_1 ?_
      have l := lvR_sm hs (by decide) (by decide) (by decide) (by decide) hL
      have e13 := l.1
      have h2 := l.2.1
      have := drop_nil hk
      simp (disch := omega) only [↓i01, ↓i02, ↓xrI_mk, ↓xrV_mk, ↓xrL_mk, ↓xrR_mk, ↓mg_0, ↓mg_1, ↓mp_2, ↓mg_2, ↓mg_3, ↓mg_4, ↓mp_5, ↓mg_5, ↓mp_6, ↓mg_6, ↓mp_7, ↓mg_7, ↓mp_8, ↓mg_8, ↓mp_9, ↓mg_9, ↓mp_10, ↓mg_10, ↓mp_11, ↓mg_11, ↓mp_12, ↓mg_12, ↓mp_13, ↓mg_13, ↓mp_14, ↓mg_14, ↓mp_15, ↓mg_15, ↓mp_16, ↓mg_16, ↓mg_17, ↓mp_18, ↓mg_18, ↓mp_19, ↓mg_19, ↓mp_20, ↓mg_20, ↓mp_21, ↓mg_21, ↓mg_22, ↓mg_23, ↓mg_24, ↓mg_25, ↓mg_26, ↓mg_27, ↓mg_28, ↓mg_29, ↓mg_30, ↓mg_31, ↓mg_32, ↓mg_33, ↓mg_34, ↓mp_35, ↓mg_35, ↓mp_36, ↓mg_36, ↓mg_37, ↓mg_38, ↓mg_39, ↓ma_1, ↓ms_1, ↓ma_2, ↓ms_2, ↓ma_3, ↓ms_3, ↓ma_4, ↓ms_4, ↓ma_5, ↓ms_5, ↓ma_6, ↓ms_6, ↓ma_9, ↓ms_9, ↓ma_10, ↓ms_10, ↓ma_11, ↓ms_11, ↓ma_12, ↓ms_12, ↓ma_13, ↓ms_13, ↓ma_14, ↓ms_14, ↓ma_15, ↓ms_15, ↓ma_16, ↓ms_16, ↓ma_17, ↓ms_17, ↓ma_18, ↓ms_18, ↓ma_19, ↓ms_19, ↓ma_20, ↓ms_20, ↓ma_21, ↓ms_21, ↓mo_q', ↓ma_L, ↓ms_L, ↓ma_Z, ↓ms_Z, mF_1, mF_2, mWd_1, mWd_w, mWd_2, mA_1, mA_w, mA_a, mA_v, mV_1, mV_w, mV_a, mV_v, mA_mA, mV_mV, mF_mF, nI_add, nI_cl, vpi, i01, i02, i10, i11, ↓reduceIte, not_true_eq_false, not_false_eq_true, and_true, true_and, ne_eq, Nat.reduceAdd, Nat.reduceMul, Nat.reduceSub, Nat.reduceEqDiff, reduceCtorEq, Nat.add_zero, Nat.zero_add, n0p, ite_true, ite_false, if_true, if_false, nlT, nlF, nleT, nleF, neT, neF, n0F, n0T, pk_sub, pk_mul, nIm1, nIm2, nlZ, nleZ, upd_s, upd_n, pk_uLs, pk_uLn, nar_0, nar_1, nar_n0, nar_n1, e13]
      have := h τ hs
      rw [he] at this
      exact this
    | cons e rest ih =>
      intro k τ hk hkl hs he
      obtain ⟨g1, g2, g3⟩ := drop_cons hk
      have l := lvR_sm hs (by decide) (by decide) (by decide) (by decide) hL
      have e13 := l.1
      have h2 := l.2.1
      have hm' := mR_kp (kp_sm hs (by decide)) hm
      have hy' := rdy_sm hs (by decide) (by decide) (by decide) hy
      have hre := hr e (List.mem_of_getElem? g1)
      refine t_M_firstBad_1 ?_
      simp (disch := omega) only [↓i01, ↓i02, ↓xrI_mk, ↓xrV_mk, ↓xrL_mk, ↓xrR_mk, ↓mg_0, ↓mg_1, ↓mp_2, ↓mg_2, ↓mg_3, ↓mg_4, ↓mp_5, ↓mg_5, ↓mp_6, ↓mg_6, ↓mp_7, ↓mg_7, ↓mp_8, ↓mg_8, ↓mp_9, ↓mg_9, ↓mp_10, ↓mg_10, ↓mp_11, ↓mg_11, ↓mp_12, ↓mg_12, ↓mp_13, ↓mg_13, ↓mp_14, ↓mg_14, ↓mp_15, ↓mg_15, ↓mp_16, ↓mg_16, ↓mg_17, ↓mp_18, ↓mg_18, ↓mp_19, ↓mg_19, ↓mp_20, ↓mg_20, ↓mp_21, ↓mg_21, ↓mg_22, ↓mg_23, ↓mg_24, ↓mg_25, ↓mg_26, ↓mg_27, ↓mg_28, ↓mg_29, ↓mg_30, ↓mg_31, ↓mg_32, ↓mg_33, ↓mg_34, ↓mp_35, ↓mg_35, ↓mp_36, ↓mg_36, ↓mg_37, ↓mg_38, ↓mg_39, ↓ma_1, ↓ms_1, ↓ma_2, ↓ms_2, ↓ma_3, ↓ms_3, ↓ma_4, ↓ms_4, ↓ma_5, ↓ms_5, ↓ma_6, ↓ms_6, ↓ma_9, ↓ms_9, ↓ma_10, ↓ms_10, ↓ma_11, ↓ms_11, ↓ma_12, ↓ms_12, ↓ma_13, ↓ms_13, ↓ma_14, ↓ms_14, ↓ma_15, ↓ms_15, ↓ma_16, ↓ms_16, ↓ma_17, ↓ms_17, ↓ma_18, ↓ms_18, ↓ma_19, ↓ms_19, ↓ma_20, ↓ms_20, ↓ma_21, ↓ms_21, ↓mo_q', ↓ma_L, ↓ms_L, ↓ma_Z, ↓ms_Z, mF_1, mF_2, mWd_1, mWd_w, mWd_2, mA_1, mA_w, mA_a, mA_v, mV_1, mV_w, mV_a, mV_v, mA_mA, mV_mV, mF_mF, nI_add, nI_cl, vpi, i01, i02, i10, i11, ↓reduceIte, not_true_eq_false, not_false_eq_true, and_true, true_and, ne_eq, Nat.reduceAdd, Nat.reduceMul, Nat.reduceSub, Nat.reduceEqDiff, reduceCtorEq, Nat.add_zero, Nat.zero_add, n0p, ite_true, ite_false, if_true, if_false, nlT, nlF, nleT, nleF, neT, neF, n0F, n0T, pk_sub, pk_mul, nIm1, nIm2, nlZ, nleZ, upd_s, upd_n, pk_uLs, pk_uLn, nar_0, nar_1, nar_n0, nar_n1, e13]
      refine c_M_stateAt ?_
      simp (disch := omega) only [↓i01, ↓i02, ↓xrI_mk, ↓xrV_mk, ↓xrL_mk, ↓xrR_mk, ↓mg_0, ↓mg_1, ↓mp_2, ↓mg_2, ↓mg_3, ↓mg_4, ↓mp_5, ↓mg_5, ↓mp_6, ↓mg_6, ↓mp_7, ↓mg_7, ↓mp_8, ↓mg_8, ↓mp_9, ↓mg_9, ↓mp_10, ↓mg_10, ↓mp_11, ↓mg_11, ↓mp_12, ↓mg_12, ↓mp_13, ↓mg_13, ↓mp_14, ↓mg_14, ↓mp_15, ↓mg_15, ↓mp_16, ↓mg_16, ↓mg_17, ↓mp_18, ↓mg_18, ↓mp_19, ↓mg_19, ↓mp_20, ↓mg_20, ↓mp_21, ↓mg_21, ↓mg_22, ↓mg_23, ↓mg_24, ↓mg_25, ↓mg_26, ↓mg_27, ↓mg_28, ↓mg_29, ↓mg_30, ↓mg_31, ↓mg_32, ↓mg_33, ↓mg_34, ↓mp_35, ↓mg_35, ↓mp_36, ↓mg_36, ↓mg_37, ↓mg_38, ↓mg_39, ↓ma_1, ↓ms_1, ↓ma_2, ↓ms_2, ↓ma_3, ↓ms_3, ↓ma_4, ↓ms_4, ↓ma_5, ↓ms_5, ↓ma_6, ↓ms_6, ↓ma_9, ↓ms_9, ↓ma_10, ↓ms_10, ↓ma_11, ↓ms_11, ↓ma_12, ↓ms_12, ↓ma_13, ↓ms_13, ↓ma_14, ↓ms_14, ↓ma_15, ↓ms_15, ↓ma_16, ↓ms_16, ↓ma_17, ↓ms_17, ↓ma_18, ↓ms_18, ↓ma_19, ↓ms_19, ↓ma_20, ↓ms_20, ↓ma_21, ↓ms_21, ↓mo_q', ↓ma_L, ↓ms_L, ↓ma_Z, ↓ms_Z, mF_1, mF_2, mWd_1, mWd_w, mWd_2, mA_1, mA_w, mA_a, mA_v, mV_1, mV_w, mV_a, mV_v, mA_mA, mV_mV, mF_mF, nI_add, nI_cl, vpi, i01, i02, i10, i11, ↓reduceIte, not_true_eq_false, not_false_eq_true, and_true, true_and, ne_eq, Nat.reduceAdd, Nat.reduceMul, Nat.reduceSub, Nat.reduceEqDiff, reduceCtorEq, Nat.add_zero, Nat.zero_add, n0p, ite_true, ite_false, if_true, if_false, nlT, nlF, nleT, nleF, neT, neF, n0F, n0T, pk_sub, pk_mul, nIm1, nIm2, nlZ, nleZ, upd_s, upd_n, pk_uLs, pk_uLn, nar_0, nar_1, nar_n0, nar_n1]
      refine c_M_areOne (kd := kd3 R (kdB s.1)) (fs := fsB s.1) (f := e.1) hm'.1 ho.2.1 (kr := 12) (x := 30 * (2000 * n + k)) rfl (by decide) (by show _ ≤ 540000; omega) (by decide) (fun i hi => (hy'.1 i hi).2) (fun i hi => (hy'.1 i hi).1) (l.2.2 k e g1).1 (rb_of hre.1 (by rw [hre.2, nI_i (by omega)]; omega)) (rul_of hm' ho) (fs_ok ho) (fun τ2 s2 => ?_)
      rw [xrI_mk]
      have hs2 := sm_t hs s2
      rw [show fbS (oneR R s) (e :: rest) k = (if oneR R s e.1 = true then fbS (oneR R s) rest (k + 1) else nI k) from rfl] at he
      by_cases eo : oneR R s e.1 = true
      · rw [if_pos eo] at he
        rw [if_pos (show oneS R (rulL s.1 s.2.2.1) (kd3 R (kdB s.1)) (fsB s.1) e.1 R 0 (-1) = true from eo), if_pos (by decide)]
        exact ih (k + 1) τ2 g2 (by omega) hs2 he
      · rw [if_neg eo] at he
        rw [if_neg (show ¬ oneS R (rulL s.1 s.2.2.1) (kd3 R (kdB s.1)) (fsB s.1) e.1 R 0 (-1) = true from eo), if_neg (by decide)]
        have := h τ2 hs2
        rw [he] at this
        exact this
  exact loop L 0 σ rfl (Nat.zero_le _) sm_r rfl
theorem fbS_rng {p : (Nat → Int32) → Bool} : ∀ (L : List bE) (k : Nat), fbS p L k = -1 ∨ ∃ j, k ≤ j ∧ j < k + L.length ∧ fbS p L k = nI j
  | [], k => Or.inl rfl
  | e :: L, k => by
    unfold fbS
    by_cases ep : p e.1 = true
    · rw [if_pos ep]
      rcases fbS_rng (p := p) L (k + 1) with h | ⟨j, h1, h2, h3⟩
      · exact Or.inl h
      · exact Or.inr ⟨j, by omega, by rw [List.length_cons]; omega, h3⟩
    · rw [if_neg ep]
      exact Or.inr ⟨k, Nat.le_refl _, by rw [List.length_cons]; omega, rfl⟩
theorem run_of {n v : Int32} (hr : runB R n v s = true) : ∃ a b : Nat, a ≤ 6 ∧ n = nI a ∧ b ≤ 2 ∧ v = nI b ∧ cntL (kdB s.1) R ≤ 2 := by
  unfold runB at hr
  simp only [Bool.and_eq_true, ivB_i, decide_eq_true_eq] at hr
  obtain ⟨h1, h2, h3⟩ := hr
  obtain ⟨a, ha, ea⟩ := nI_rng h1.1 h1.2 (by omega)
  obtain ⟨b, hb, eb⟩ := nI_rng h2.1 h2.2 (by omega)
  exact ⟨a, b, ha, ea, hb, eb, h3⟩
theorem lvN_P (ho : okF R s) {g : Nat} (hg2 : g ≤ 2) {h : Nat} {L : List bE} (hL : runL R s g h = some L) : ∀ e, e ∈ L → lvP R (dgW g (cntL (kdB s.1) R)) h (lvN (runL R s g (h - 1))).length e := bfL_P (beg_all ho) (nx_all ho hg2) h L hL
theorem op_M_holds (hm : mR R σ s) (ho : okF R s) {n v : Int32} (h : ∀ σ', mR R σ' (oHolds R n v s).2 → Q (some (.int (oHolds R n v s).1)) (mM q M0 σ')) : xEv xP (xprim sa) (d + 8) m_M_holds [.ref q, .int n, .int v] (mM q M0 σ) Q := by
  unfold oHolds at h
  dsimp only at h
  refine t_M_holds ⟨mo_q, q_areRuns hm ho ?_⟩
  rw [xrI_mk]
  by_cases hr : runB R n v s = true
  · rw [if_pos hr] at h
    rw [if_pos hr, if_pos (by decide)]
    obtain ⟨a, b, ha, rfl, hb, rfl, hl⟩ := run_of hr
    rw [show cN (nI a) = a from nI_cl (by omega), show cN (nI b) = b from nI_cl (by omega)] at h
    refine ⟨mo_q, q_findRuns hm ho ha hb hl (fun τ L hL hmτ hy hlv => ?_) (fun hn τ hmτ => ?_)⟩
    · rw [hL] at h
      dsimp only at h
      have hv : lvR τ a L := by
        have := hlv a (Nat.le_refl _)
        rw [hL] at this
        exact this
      simp (disch := omega) only [↓i01, ↓i02, ↓xrI_mk, ↓xrV_mk, ↓xrL_mk, ↓xrR_mk, ↓mg_0, ↓mg_1, ↓mp_2, ↓mg_2, ↓mg_3, ↓mg_4, ↓mp_5, ↓mg_5, ↓mp_6, ↓mg_6, ↓mp_7, ↓mg_7, ↓mp_8, ↓mg_8, ↓mp_9, ↓mg_9, ↓mp_10, ↓mg_10, ↓mp_11, ↓mg_11, ↓mp_12, ↓mg_12, ↓mp_13, ↓mg_13, ↓mp_14, ↓mg_14, ↓mp_15, ↓mg_15, ↓mp_16, ↓mg_16, ↓mg_17, ↓mp_18, ↓mg_18, ↓mp_19, ↓mg_19, ↓mp_20, ↓mg_20, ↓mp_21, ↓mg_21, ↓mg_22, ↓mg_23, ↓mg_24, ↓mg_25, ↓mg_26, ↓mg_27, ↓mg_28, ↓mg_29, ↓mg_30, ↓mg_31, ↓mg_32, ↓mg_33, ↓mg_34, ↓mp_35, ↓mg_35, ↓mp_36, ↓mg_36, ↓mg_37, ↓mg_38, ↓mg_39, ↓ma_1, ↓ms_1, ↓ma_2, ↓ms_2, ↓ma_3, ↓ms_3, ↓ma_4, ↓ms_4, ↓ma_5, ↓ms_5, ↓ma_6, ↓ms_6, ↓ma_9, ↓ms_9, ↓ma_10, ↓ms_10, ↓ma_11, ↓ms_11, ↓ma_12, ↓ms_12, ↓ma_13, ↓ms_13, ↓ma_14, ↓ms_14, ↓ma_15, ↓ms_15, ↓ma_16, ↓ms_16, ↓ma_17, ↓ms_17, ↓ma_18, ↓ms_18, ↓ma_19, ↓ms_19, ↓ma_20, ↓ms_20, ↓ma_21, ↓ms_21, ↓mo_q', ↓ma_L, ↓ms_L, ↓ma_Z, ↓ms_Z, mF_1, mF_2, mWd_1, mWd_w, mWd_2, mA_1, mA_w, mA_a, mA_v, mV_1, mV_w, mV_a, mV_v, mA_mA, mV_mV, mF_mF, nI_add, nI_cl, vpi, i01, i02, i10, i11, ↓reduceIte, not_true_eq_false, not_false_eq_true, and_true, true_and, ne_eq, Nat.reduceAdd, Nat.reduceMul, Nat.reduceSub, Nat.reduceEqDiff, reduceCtorEq, Nat.add_zero, Nat.zero_add, n0p, ite_true, ite_false, if_true, if_false, nlT, nlF, nleT, nleF, neT, neF, n0F, n0T, pk_sub, pk_mul, nIm1, nIm2, nlZ, nleZ, upd_s, upd_n, pk_uLs, pk_uLn, nar_0, nar_1, nar_n0, nar_n1]
      refine q_firstBad hmτ ho (by omega) hy hv (fun e he => ?_) (fun τ2 s2 => ?_)
      · have := lvN_P ho hb hL e he
        exact ⟨this.1, this.2.2.1⟩
      · rw [xrI_mk]
        have := h τ2 (mR_kp (kp_sm s2 (by decide)) hmτ)
        by_cases e0 : 0 ≤ fbS (oneR R s) L 0
        · rw [if_pos e0] at this
          rw [if_pos e0]
          exact this
        · rw [if_neg e0] at this
          rw [if_neg e0]
          exact this
    · rw [hn] at h
      simp (disch := omega) only [↓i01, ↓i02, ↓xrI_mk, ↓xrV_mk, ↓xrL_mk, ↓xrR_mk, ↓mg_0, ↓mg_1, ↓mp_2, ↓mg_2, ↓mg_3, ↓mg_4, ↓mp_5, ↓mg_5, ↓mp_6, ↓mg_6, ↓mp_7, ↓mg_7, ↓mp_8, ↓mg_8, ↓mp_9, ↓mg_9, ↓mp_10, ↓mg_10, ↓mp_11, ↓mg_11, ↓mp_12, ↓mg_12, ↓mp_13, ↓mg_13, ↓mp_14, ↓mg_14, ↓mp_15, ↓mg_15, ↓mp_16, ↓mg_16, ↓mg_17, ↓mp_18, ↓mg_18, ↓mp_19, ↓mg_19, ↓mp_20, ↓mg_20, ↓mp_21, ↓mg_21, ↓mg_22, ↓mg_23, ↓mg_24, ↓mg_25, ↓mg_26, ↓mg_27, ↓mg_28, ↓mg_29, ↓mg_30, ↓mg_31, ↓mg_32, ↓mg_33, ↓mg_34, ↓mp_35, ↓mg_35, ↓mp_36, ↓mg_36, ↓mg_37, ↓mg_38, ↓mg_39, ↓ma_1, ↓ms_1, ↓ma_2, ↓ms_2, ↓ma_3, ↓ms_3, ↓ma_4, ↓ms_4, ↓ma_5, ↓ms_5, ↓ma_6, ↓ms_6, ↓ma_9, ↓ms_9, ↓ma_10, ↓ms_10, ↓ma_11, ↓ms_11, ↓ma_12, ↓ms_12, ↓ma_13, ↓ms_13, ↓ma_14, ↓ms_14, ↓ma_15, ↓ms_15, ↓ma_16, ↓ms_16, ↓ma_17, ↓ms_17, ↓ma_18, ↓ms_18, ↓ma_19, ↓ms_19, ↓ma_20, ↓ms_20, ↓ma_21, ↓ms_21, ↓mo_q', ↓ma_L, ↓ms_L, ↓ma_Z, ↓ms_Z, mF_1, mF_2, mWd_1, mWd_w, mWd_2, mA_1, mA_w, mA_a, mA_v, mV_1, mV_w, mV_a, mV_v, mA_mA, mV_mV, mF_mF, nI_add, nI_cl, vpi, i01, i02, i10, i11, ↓reduceIte, not_true_eq_false, not_false_eq_true, and_true, true_and, ne_eq, Nat.reduceAdd, Nat.reduceMul, Nat.reduceSub, Nat.reduceEqDiff, reduceCtorEq, Nat.add_zero, Nat.zero_add, n0p, ite_true, ite_false, if_true, if_false, nlT, nlF, nleT, nleF, neT, neF, n0F, n0T, pk_sub, pk_mul, nIm1, nIm2, nlZ, nleZ, upd_s, upd_n, pk_uLs, pk_uLn, nar_0, nar_1, nar_n0, nar_n1]
      exact h τ hmτ
  · rw [if_neg hr] at h
    rw [if_neg hr, if_neg (by decide)]
    exact h σ hm
theorem op_M_states (hm : mR R σ s) (ho : okF R s) {n v : Int32} (h : ∀ σ', mR R σ' (oStates R n v s).2 → Q (some (.int (oStates R n v s).1)) (mM q M0 σ')) : xEv xP (xprim sa) (d + 8) m_M_states [.ref q, .int n, .int v] (mM q M0 σ) Q := by
  unfold oStates at h
  dsimp only at h
  refine t_M_states ⟨mo_q, q_areRuns hm ho ?_⟩
  rw [xrI_mk]
  by_cases hr : runB R n v s = true
  · rw [if_pos hr] at h
    rw [if_pos hr, if_pos (by decide)]
    obtain ⟨a, b, ha, rfl, hb, rfl, hl⟩ := run_of hr
    rw [show cN (nI a) = a from nI_cl (by omega), show cN (nI b) = b from nI_cl (by omega)] at h
    refine ⟨mo_q, q_findRuns hm ho ha hb hl (fun τ L hL hmτ hy hlv => ?_) (fun hn τ hmτ => ?_)⟩
    · rw [hL] at h
      dsimp only at h
      have hv : lvR τ a L := by
        have := hlv a (Nat.le_refl _)
        rw [hL] at this
        exact this
      have e13 : τ.2.2.1 13 a = nI L.length := hv.1
      simp (disch := omega) only [↓i01, ↓i02, ↓xrI_mk, ↓xrV_mk, ↓xrL_mk, ↓xrR_mk, ↓mg_0, ↓mg_1, ↓mp_2, ↓mg_2, ↓mg_3, ↓mg_4, ↓mp_5, ↓mg_5, ↓mp_6, ↓mg_6, ↓mp_7, ↓mg_7, ↓mp_8, ↓mg_8, ↓mp_9, ↓mg_9, ↓mp_10, ↓mg_10, ↓mp_11, ↓mg_11, ↓mp_12, ↓mg_12, ↓mp_13, ↓mg_13, ↓mp_14, ↓mg_14, ↓mp_15, ↓mg_15, ↓mp_16, ↓mg_16, ↓mg_17, ↓mp_18, ↓mg_18, ↓mp_19, ↓mg_19, ↓mp_20, ↓mg_20, ↓mp_21, ↓mg_21, ↓mg_22, ↓mg_23, ↓mg_24, ↓mg_25, ↓mg_26, ↓mg_27, ↓mg_28, ↓mg_29, ↓mg_30, ↓mg_31, ↓mg_32, ↓mg_33, ↓mg_34, ↓mp_35, ↓mg_35, ↓mp_36, ↓mg_36, ↓mg_37, ↓mg_38, ↓mg_39, ↓ma_1, ↓ms_1, ↓ma_2, ↓ms_2, ↓ma_3, ↓ms_3, ↓ma_4, ↓ms_4, ↓ma_5, ↓ms_5, ↓ma_6, ↓ms_6, ↓ma_9, ↓ms_9, ↓ma_10, ↓ms_10, ↓ma_11, ↓ms_11, ↓ma_12, ↓ms_12, ↓ma_13, ↓ms_13, ↓ma_14, ↓ms_14, ↓ma_15, ↓ms_15, ↓ma_16, ↓ms_16, ↓ma_17, ↓ms_17, ↓ma_18, ↓ms_18, ↓ma_19, ↓ms_19, ↓ma_20, ↓ms_20, ↓ma_21, ↓ms_21, ↓mo_q', ↓ma_L, ↓ms_L, ↓ma_Z, ↓ms_Z, mF_1, mF_2, mWd_1, mWd_w, mWd_2, mA_1, mA_w, mA_a, mA_v, mV_1, mV_w, mV_a, mV_v, mA_mA, mV_mV, mF_mF, nI_add, nI_cl, vpi, i01, i02, i10, i11, ↓reduceIte, not_true_eq_false, not_false_eq_true, and_true, true_and, ne_eq, Nat.reduceAdd, Nat.reduceMul, Nat.reduceSub, Nat.reduceEqDiff, reduceCtorEq, Nat.add_zero, Nat.zero_add, n0p, ite_true, ite_false, if_true, if_false, nlT, nlF, nleT, nleF, neT, neF, n0F, n0T, pk_sub, pk_mul, nIm1, nIm2, nlZ, nleZ, upd_s, upd_n, pk_uLs, pk_uLn, nar_0, nar_1, nar_n0, nar_n1, e13]
      exact h τ hmτ
    · rw [hn] at h
      simp (disch := omega) only [↓i01, ↓i02, ↓xrI_mk, ↓xrV_mk, ↓xrL_mk, ↓xrR_mk, ↓mg_0, ↓mg_1, ↓mp_2, ↓mg_2, ↓mg_3, ↓mg_4, ↓mp_5, ↓mg_5, ↓mp_6, ↓mg_6, ↓mp_7, ↓mg_7, ↓mp_8, ↓mg_8, ↓mp_9, ↓mg_9, ↓mp_10, ↓mg_10, ↓mp_11, ↓mg_11, ↓mp_12, ↓mg_12, ↓mp_13, ↓mg_13, ↓mp_14, ↓mg_14, ↓mp_15, ↓mg_15, ↓mp_16, ↓mg_16, ↓mg_17, ↓mp_18, ↓mg_18, ↓mp_19, ↓mg_19, ↓mp_20, ↓mg_20, ↓mp_21, ↓mg_21, ↓mg_22, ↓mg_23, ↓mg_24, ↓mg_25, ↓mg_26, ↓mg_27, ↓mg_28, ↓mg_29, ↓mg_30, ↓mg_31, ↓mg_32, ↓mg_33, ↓mg_34, ↓mp_35, ↓mg_35, ↓mp_36, ↓mg_36, ↓mg_37, ↓mg_38, ↓mg_39, ↓ma_1, ↓ms_1, ↓ma_2, ↓ms_2, ↓ma_3, ↓ms_3, ↓ma_4, ↓ms_4, ↓ma_5, ↓ms_5, ↓ma_6, ↓ms_6, ↓ma_9, ↓ms_9, ↓ma_10, ↓ms_10, ↓ma_11, ↓ms_11, ↓ma_12, ↓ms_12, ↓ma_13, ↓ms_13, ↓ma_14, ↓ms_14, ↓ma_15, ↓ms_15, ↓ma_16, ↓ms_16, ↓ma_17, ↓ms_17, ↓ma_18, ↓ms_18, ↓ma_19, ↓ms_19, ↓ma_20, ↓ms_20, ↓ma_21, ↓ms_21, ↓mo_q', ↓ma_L, ↓ms_L, ↓ma_Z, ↓ms_Z, mF_1, mF_2, mWd_1, mWd_w, mWd_2, mA_1, mA_w, mA_a, mA_v, mV_1, mV_w, mV_a, mV_v, mA_mA, mV_mV, mF_mF, nI_add, nI_cl, vpi, i01, i02, i10, i11, ↓reduceIte, not_true_eq_false, not_false_eq_true, and_true, true_and, ne_eq, Nat.reduceAdd, Nat.reduceMul, Nat.reduceSub, Nat.reduceEqDiff, reduceCtorEq, Nat.add_zero, Nat.zero_add, n0p, ite_true, ite_false, if_true, if_false, nlT, nlF, nleT, nleF, neT, neF, n0F, n0T, pk_sub, pk_mul, nIm1, nIm2, nlZ, nleZ, upd_s, upd_n, pk_uLs, pk_uLn, nar_0, nar_1, nar_n0, nar_n1]
      exact h τ hmτ
  · rw [if_neg hr] at h
    rw [if_neg hr, if_neg (by decide)]
    exact h σ hm
end BF3
