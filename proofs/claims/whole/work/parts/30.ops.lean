/-! the calls, as functions of the state; the reference's side of those that set -/
def ivB (v lo hi : Int32) : Bool := decide (lo ≤ v) && decide (v ≤ hi)
theorem ivB_t {v lo hi : Int32} (h : iv v lo hi) : ivB v lo hi = true := by
  unfold ivB
  rw [decide_eq_true h.1, decide_eq_true h.2]
  rfl
theorem ivB_f {v lo hi : Int32} (h : ¬ iv v lo hi) : ivB v lo hi = false := by
  unfold ivB
  by_cases h1 : lo ≤ v
  · rw [decide_eq_true h1, decide_eq_false (fun h2 => h ⟨h1, h2⟩)]; rfl
  · rw [decide_eq_false h1]; rfl
theorem ivB_i {v lo hi : Int32} : ivB v lo hi = true ↔ iv v lo hi := by
  constructor
  · intro h
    by_cases g : iv v lo hi
    · exact g
    · rw [ivB_f g] at h; exact nomatch h
  · exact ivB_t
def rmB (R : Nat) (v : Int32) : Bool := ivB v 0 (nI (R - 1))
theorem rmB_i {R : Nat} {v : Int32} (h3 : 3 ≤ R) (h9 : R ≤ 9) : rmB R v = true ↔ ∃ r, r < R ∧ v = nI r := by
  unfold rmB
  rw [ivB_i]
  constructor
  · intro h
    obtain ⟨r, hr, e⟩ := nI_rng h.1 h.2 (by omega)
    exact ⟨r, by omega, e⟩
  · intro ⟨r, hr, e⟩
    rw [e]
    exact ⟨nI_pos' (by omega), nI_le (by omega) (by omega)⟩
theorem rmB_t {R r : Nat} (h3 : 3 ≤ R) (h9 : R ≤ 9) (hr : r < R) : rmB R (nI r) = true := (rmB_i h3 h9).mpr ⟨r, hr, rfl⟩
theorem rmB_f {R : Nat} {v : Int32} (h3 : 3 ≤ R) (h9 : R ≤ 9) (h : ¬ rm R v) : rmB R v = false := by
  cases e : rmB R v
  · rfl
  · exact absurd ((rmB_i h3 h9).mp e) h
/-- other settings -/
def uB (s : fS) (g : Nat → Int32) : fS := ((g, s.1.2), s.2)
def cN (v : Int32) : Nat := v.toNatClampNeg
def z01 (b : Int32) : Int32 := if b = 0 then 0 else 1
def oElder (R : Nat) (v k f : Int32) (s : fS) : Int32 × fS := if (rmB R v && (ivB k 0 (nI 2) && ivB f 0 (nI 9))) = true then (1, uB s (upd (upd s.1.1 (10 + cN v) k) (20 + cN v) f)) else (0, s)
def oStuck (R : Nat) (v b : Int32) (s : fS) : Int32 × fS := if rmB R v = true then (1, uB s (upd s.1.1 (30 + cN v) (z01 b))) else (0, s)
def oLies (R : Nat) (v x y b : Int32) (s : fS) : Int32 × fS := if (rmB R v && (ivB x (-1) (nI 99) && ivB y (-1) (nI 99))) = true then (1, uB s (upd (upd (upd s.1.1 (40 + 3 * cN v) x) (40 + 3 * cN v + 1) y) (40 + 3 * cN v + 2) (z01 b))) else (0, s)
def oBar (v b : Int32) (s : fS) : Int32 × fS := if ivB v 0 (nI 99) = true then (1, uB s (upd s.1.1 (70 + cN v) (z01 b))) else (0, s)
def oEnd (v : Int32) (s : fS) : Int32 × fS := if ivB v 0 (nI s.2.2.2.2.1) = true then (v, (s.1, s.2.1, s.2.2.1, s.2.2.2.1, cN v, s.2.2.2.2.2)) else (-1, s)
def oFault (v : Int32) (s : fS) : Int32 × fS := (if v = 0 then s.2.2.2.2.2.1 else if v = nI 1 then s.2.2.2.2.2.2 else -1, s)
def oBy (v : Int32) (s : fS) : Int32 × fS := if ivB v (-1) (s.1.1 0 - 1) = true then (1, uB s (upd s.1.1 1 v)) else (0, s)
def oStart (s : fS) : Int32 × fS := (s.1.2.1 0, ((s.1.1, beginRow (fun i => s.1.1 (20 + i)), []), s.2))
def oUndo (s : fS) : Int32 × fS := match s.1.2.2 with
  | [] => (-1, s)
  | g :: P => (g 0, ((s.1.1, g, P), s.2))
def tellB (B : Nat → Int32) (r n : Nat) (x y : Int32) : Nat → Int32 := upd (upd (upd (upd B 4 (nI r)) (170 + 2 * n) x) (171 + 2 * n) y) 3 (nI (n + 1))
def oTold (R : Nat) (v x y : Int32) (s : fS) : Int32 × fS := if (rmB R v && (ivB x (-1) (nI 99) && ivB y (-1) (nI 99))) = true then
    (if s.1.1 4 = v then (if s.1.1 3 = nI 8 then (-1, s) else (nI (cN (s.1.1 3) + 1), uB s (tellB s.1.1 (cN v) (cN (s.1.1 3)) x y))) else (nI 1, uB s (tellB s.1.1 (cN v) 0 x y))) else (-1, s)
def oForget (s : fS) : Int32 × fS := (s.1.1 3, uB s (upd (upd s.1.1 3 0) 4 (-1)))
def oImage (s : fS) : Int32 × fS := (s.1.2.1 0, (s.1, s.1, s.2.2))
def oBack (s : fS) : Int32 × fS := (s.2.1.2.1 0, (s.2.1, s.2))
theorem rA_u {A : Nat → Int32} {s : aS} {j : Nat} {v : Int32} (h : rA A s) (hj : j < 190) (hj2 : j ≠ 2) : rA (upd A j v) (upd s.1 j v, s.2) := by
  refine ⟨fun i hi hi2 => ?_, ?_, fun e he => ?_, fun i g hg e he => ?_⟩
  · by_cases e : i = j
    · subst e; rw [upd_s]; exact upd_s.symm
    · rw [upd_n e]; exact (h.1 i hi hi2).trans (upd_n e).symm
  · rw [upd_n (Ne.symm hj2)]; exact h.2.1
  · rw [upd_n (by omega)]; exact h.2.2.1 e he
  · rw [upd_n (by omega)]; exact h.2.2.2 i g hg e he
theorem mR_A {R : Nat} {σ : mS} {s : fS} {A : Nat → Int32} {a : aS} (hm : mR R σ s) (h : rA A a) (h0 : a.1 0 = s.1.1 0) : mR R (mA σ 1 A) (a, s.2) := by
  refine ⟨hm.1, h, hm.2.2.1, ?_, hm.2.2.2.2⟩
  show ∀ t : Nat, (t : Int) < (a.1 0).toInt → _
  rw [h0]
  exact hm.2.2.2.1
section OM1
variable {sa : Nat → Nat} {d : Nat} {Q : xQ} {q : Nat} {M0 M : xM} {σ : mS} {R : Nat} {s : fS}
theorem op_M_elder (hm : mR R σ s) (ho : okF R s) {v k f : Int32} (h : ∀ σ', mR R σ' (oElder R v k f s).2 → Q (some (.int (oElder R v k f s).1)) (mM q M0 σ')) : xEv xP (xprim sa) (d + 3) m_M_elder [.ref q, .int v, .int k, .int f] (mM q M0 σ) Q := by
  unfold oElder at h
  refine c_M_elder hm.1 ho.1 ho.2.1 (fun r hr e h2 h3 => ?_) (fun hn => ?_)
  · subst e
    rw [rmB_t ho.1 ho.2.1 hr, ivB_t h2, ivB_t h3, if_pos (show (true && (true && true)) = true from rfl)] at h
    have hc : cN (nI r) = r := nI_cl (by have := ho.2.1; omega)
    have h9 := ho.2.1
    rw [hc] at h
    exact h _ (mR_A (a := (_, s.1.2)) hm (rA_u (rA_u hm.2.1 (by omega) (by omega)) (by omega) (by omega)) (by dsimp only; rw [upd_n (by omega), upd_n (by omega)]))
  · rw [if_neg (fun a => ?_)] at h
    · exact h _ hm
    · simp only [Bool.and_eq_true, rmB_i ho.1 ho.2.1, ivB_i] at a
      exact hn a
theorem op_M_stuck (hm : mR R σ s) (ho : okF R s) {v b : Int32} (h : ∀ σ', mR R σ' (oStuck R v b s).2 → Q (some (.int (oStuck R v b s).1)) (mM q M0 σ')) : xEv xP (xprim sa) (d + 3) m_M_stuck [.ref q, .int v, .int b] (mM q M0 σ) Q := by
  unfold oStuck at h
  refine c_M_stuck hm.1 ho.1 ho.2.1 (fun r hr e => ?_) (fun hn => ?_)
  · subst e
    have h9 := ho.2.1
    have hc : cN (nI r) = r := nI_cl (by omega)
    rw [rmB_t ho.1 ho.2.1 hr, if_pos rfl, hc] at h
    exact h _ (mR_A (a := (_, s.1.2)) hm (rA_u hm.2.1 (by omega) (by omega)) (by dsimp only; rw [upd_n (by omega)]))
  · rw [rmB_f ho.1 ho.2.1 hn, if_neg (by decide)] at h
    exact h _ hm
theorem op_M_lies (hm : mR R σ s) (ho : okF R s) {v x y b : Int32} (h : ∀ σ', mR R σ' (oLies R v x y b s).2 → Q (some (.int (oLies R v x y b s).1)) (mM q M0 σ')) : xEv xP (xprim sa) (d + 3) m_M_lies [.ref q, .int v, .int x, .int y, .int b] (mM q M0 σ) Q := by
  unfold oLies at h
  refine c_M_lies hm.1 ho.1 ho.2.1 (fun r hr e h2 h3 => ?_) (fun hn => ?_)
  · subst e
    have h9 := ho.2.1
    have hc : cN (nI r) = r := nI_cl (by omega)
    rw [rmB_t ho.1 ho.2.1 hr, ivB_t h2, ivB_t h3, if_pos (show (true && (true && true)) = true from rfl), hc] at h
    exact h _ (mR_A (a := (_, s.1.2)) hm (rA_u (rA_u (rA_u hm.2.1 (by omega) (by omega)) (by omega) (by omega)) (by omega) (by omega)) (by dsimp only; rw [upd_n (by omega), upd_n (by omega), upd_n (by omega)]))
  · rw [if_neg (fun a => ?_)] at h
    · exact h _ hm
    · simp only [Bool.and_eq_true, rmB_i ho.1 ho.2.1, ivB_i] at a
      exact hn a
theorem op_M_bar (hm : mR R σ s) {v b : Int32} (h : ∀ σ', mR R σ' (oBar v b s).2 → Q (some (.int (oBar v b s).1)) (mM q M0 σ')) : xEv xP (xprim sa) (d + 2) m_M_bar [.ref q, .int v, .int b] (mM q M0 σ) Q := by
  unfold oBar at h
  refine c_M_bar (fun r hr e => ?_) (fun hn => ?_)
  · subst e
    have hc : cN (nI r) = r := nI_cl (by omega)
    rw [ivB_t ⟨nI_pos' (by omega), nI_le (by omega) (by omega)⟩, if_pos rfl, hc] at h
    exact h _ (mR_A (a := (_, s.1.2)) hm (rA_u hm.2.1 (by omega) (by omega)) (by dsimp only; rw [upd_n (by omega)]))
  · have hn' : ¬ iv v 0 (nI 99) := by
      intro hi
      obtain ⟨r, hr, e⟩ := nI_rng hi.1 hi.2 (by omega)
      exact hn ⟨r, by omega, e⟩
    rw [ivB_f hn', if_neg (by decide)] at h
    exact h _ hm
theorem op_M_end (hm : mR R σ s) (ho : okF R s) {v : Int32} (h : ∀ σ', mR R σ' (oEnd v s).2 → Q (some (.int (oEnd v s).1)) (mM q M0 σ')) : xEv xP (xprim sa) (d + 2) m_M_end [.ref q, .int v] (mM q M0 σ) Q := by
  unfold oEnd at h
  have e5 := hm.2.2.2.2.1
  refine c_M_end (fun hi => ?_) (fun hn => ?_)
  · rw [e5] at hi
    rw [ivB_t hi, if_pos rfl] at h
    have h300 := ho.2.2.2.2.2.1
    obtain ⟨r, hr, rfl⟩ := nI_rng hi.1 hi.2 (by omega)
    have hc : cN (nI r) = r := nI_cl (by omega)
    rw [hc] at h
    refine h _ ⟨?_, hm.2.1, hm.2.2.1, hm.2.2.2.1, ?_, fun j hj => hm.2.2.2.2.2.1 j (by show j < _; have : j < r := hj; omega), ?_, ?_⟩
    · exact hm.1
    · rfl
    · exact hm.2.2.2.2.2.2.1
    · exact hm.2.2.2.2.2.2.2
  · rw [e5] at hn
    rw [ivB_f hn, if_neg (by decide)] at h
    exact h _ hm
theorem op_M_fault (hm : mR R σ s) {v : Int32} (h : ∀ σ', mR R σ' (oFault v s).2 → Q (some (.int (oFault v s).1)) (mM q M0 σ')) : xEv xP (xprim sa) (d + 1) m_M_fault [.ref q, .int v] (mM q M0 σ) Q := by
  refine c_M_fault ?_
  rw [hm.2.2.2.2.2.2.1, hm.2.2.2.2.2.2.2]
  exact h _ hm
theorem op_M_by (hm : mR R σ s) {v : Int32} (h : ∀ σ', mR R σ' (oBy v s).2 → Q (some (.int (oBy v s).1)) (mM q M0 σ')) : xEv xP (xprim sa) (d + 2) m_M_by [.ref q, .int v] (mM q M0 σ) Q := by
  unfold oBy at h
  have e0 : σ.2.2.1 1 0 = s.1.1 0 := hm.2.1.1 0 (by omega) (by omega)
  refine c_M_by (fun hi => ?_) (fun hn => ?_)
  · rw [e0] at hi
    rw [ivB_t hi, if_pos rfl] at h
    exact h _ (mR_A (a := (_, s.1.2)) hm (rA_u hm.2.1 (by omega) (by omega)) (by dsimp only; rw [upd_n (by omega)]))
  · rw [e0] at hn
    rw [ivB_f hn, if_neg (by decide)] at h
    exact h _ hm
theorem op_M_forget (hm : mR R σ s) (h : ∀ σ', mR R σ' (oForget s).2 → Q (some (.int (oForget s).1)) (mM q M0 σ')) : xEv xP (xprim sa) (d + 1) m_M_forget [.ref q] (mM q M0 σ) Q := by
  refine c_M_forget ?_
  rw [hm.2.1.1 3 (by omega) (by omega)]
  exact h _ (mR_A (a := (_, s.1.2)) hm (rA_u (rA_u hm.2.1 (by omega) (by omega)) (by omega) (by omega)) (by dsimp only; rw [upd_n (by omega), upd_n (by omega)]))
end OM1
