/-! tokens of a tape: b its bytes, n how many; a token: its place, its sort, the place behind it, its number -/
def isDg (c : Nat) : Bool := decide (48 ≤ c) && decide (c ≤ 57)
def isLt (c : Nat) : Bool := (decide (97 ≤ c) && decide (c ≤ 122)) || (decide (65 ≤ c) && decide (c ≤ 90))
def isBl (c : Nat) : Bool := decide (c = 32) || decide (c = 10)
def spanS (p : Nat → Bool) (b : Nat → Nat) : Nat → Nat → Nat
  | 0, x => x
  | m + 1, x => if p (b x) = true then spanS p b m (x + 1) else x
/-- where the run of such bytes ends -/
def spE (p : Nat → Bool) (b : Nat → Nat) (n x : Nat) : Nat := spanS p b (n - x) x
theorem spE_y {p : Nat → Bool} {b : Nat → Nat} {n x : Nat} (h : x < n) (hp : p (b x) = true) : spE p b n x = spE p b n (x + 1) := by
  unfold spE
  rw [show n - x = n - (x + 1) + 1 by omega]
  show (if p (b x) = true then _ else _) = _
  rw [if_pos hp]
theorem spE_n {p : Nat → Bool} {b : Nat → Nat} {n x : Nat} (h : ¬ (x < n ∧ p (b x) = true)) : spE p b n x = x := by
  unfold spE
  by_cases e : x < n
  · rw [show n - x = n - (x + 1) + 1 by omega]
    show (if p (b x) = true then _ else _) = _
    rw [if_neg (fun a => h ⟨e, a⟩)]
  · rw [show n - x = 0 by omega]
    rfl
theorem spE_r {p : Nat → Bool} {b : Nat → Nat} {n : Nat} : ∀ (m x : Nat), m = n - x → x ≤ n → x ≤ spE p b n x ∧ spE p b n x ≤ n ∧ (∀ y, x ≤ y → y < spE p b n x → p (b y) = true) ∧ ¬ (spE p b n x < n ∧ p (b (spE p b n x)) = true)
  | 0, x, hm, hx => by
    have e : spE p b n x = x := spE_n (by omega)
    rw [e]
    exact ⟨Nat.le_refl _, hx, fun y h1 h2 => by omega, by omega⟩
  | m + 1, x, hm, hx => by
    by_cases hp : p (b x) = true
    · have e := spE_y (p := p) (b := b) (n := n) (x := x) (by omega) hp
      have ih := spE_r (p := p) (b := b) (n := n) m (x + 1) (by omega) (by omega)
      rw [e]
      refine ⟨by omega, ih.2.1, fun y h1 h2 => ?_, ih.2.2.2⟩
      by_cases ey : y = x
      · rw [ey]; exact hp
      · exact ih.2.2.1 y (by omega) h2
    · have e : spE p b n x = x := spE_n (fun a => hp a.2)
      rw [e]
      exact ⟨Nat.le_refl _, hx, fun y h1 h2 => by omega, fun a => hp a.2⟩
def nvS (b : Nat → Nat) : Nat → Nat → Nat → Nat
  | 0, _, v => v
  | m + 1, x, v => if isDg (b x) = true then nvS b m (x + 1) (if 9999 < v then v else v * 10 + (b x - 48)) else v
def kwL (k : Nat) : List Nat := match k with
  | 400 => [107, 101, 101, 112]
  | 401 => [108, 101, 102, 116]
  | 402 => [114, 105, 103, 104, 116]
  | 403 => [119, 111, 114, 100]
  | 404 => [114, 111, 112, 101]
  | 405 => [105, 102]
  | 406 => [101, 110, 100]
  | 407 => [111, 114]
  | 408 => [97, 110, 100]
  | 409 => [110, 111, 116]
  | 410 => [109, 101]
  | 411 => [107, 101, 112, 116]
  | 412 => [103, 111, 116, 108, 101, 102, 116]
  | 413 => [103, 111, 116, 114, 105, 103, 104, 116]
  | 414 => [98, 101, 108, 108]
  | 415 => [104, 111, 117, 114]
  | 416 => [102, 105, 114, 115, 116]
  | 417 => [114, 111, 111, 109, 115]
  | _ => []
def mtB (b : Nat → Nat) : Nat → List Nat → Bool
  | _, [] => true
  | x, c :: w => decide (b x = c) && mtB b (x + 1) w
/-- the word of len bytes from x on is w -/
def isW (b : Nat → Nat) (x len : Nat) (w : List Nat) : Bool := decide (len = w.length) && mtB b x w
def kwF (b : Nat → Nat) (x len : Nat) : Nat → Nat → Nat
  | 0, _ => 3
  | m + 1, k => if isW b x len (kwL k) = true then k else kwF b x len m (k + 1)
def kwOf (b : Nat → Nat) (x len : Nat) : Nat := kwF b x len 18 400
theorem mtB_inj {b : Nat → Nat} : ∀ (w w' : List Nat) (x : Nat), w.length = w'.length → mtB b x w = true → mtB b x w' = true → w = w'
  | [], [], _, _, _, _ => rfl
  | [], _ :: _, _, h, _, _ => nomatch h
  | _ :: _, [], _, h, _, _ => nomatch h
  | c :: w, c' :: w', x, h, h1, h2 => by
    unfold mtB at h1 h2
    rw [Bool.and_eq_true, decide_eq_true_eq] at h1 h2
    have := mtB_inj w w' (x + 1) (Nat.succ.inj h) h1.2 h2.2
    rw [this, ← h1.1, ← h2.1]
theorem isW_inj {b : Nat → Nat} {x len : Nat} {w w' : List Nat} (h : isW b x len w = true) (h' : isW b x len w' = true) : w = w' := by
  unfold isW at h h'
  rw [Bool.and_eq_true, decide_eq_true_eq] at h h'
  exact mtB_inj w w' x (by omega) h.2 h'.2
theorem kwL_inj : ∀ k k' : Fin 18, kwL (400 + k.val) = kwL (400 + k'.val) → k = k' := by decide
theorem kwF_r {b : Nat → Nat} {x len : Nat} : ∀ (m k : Nat), (kwF b x len m k = 3 ∧ ∀ j, k ≤ j → j < k + m → isW b x len (kwL j) = false) ∨ (k ≤ kwF b x len m k ∧ kwF b x len m k < k + m ∧ isW b x len (kwL (kwF b x len m k)) = true)
  | 0, k => Or.inl ⟨rfl, fun j h1 h2 => by omega⟩
  | m + 1, k => by
    unfold kwF
    by_cases e : isW b x len (kwL k) = true
    · rw [if_pos e]
      exact Or.inr ⟨Nat.le_refl _, by omega, e⟩
    · rw [if_neg e]
      rcases kwF_r (b := b) (x := x) (len := len) m (k + 1) with ⟨h1, h2⟩ | ⟨h1, h2, h3⟩
      · refine Or.inl ⟨h1, fun j g1 g2 => ?_⟩
        by_cases ej : j = k
        · rw [ej]
          cases hh : isW b x len (kwL k)
          · rfl
          · exact absurd hh e
        · exact h2 j (by omega) (by omega)
      · exact Or.inr ⟨by omega, by omega, h3⟩
theorem kwOf_r {b : Nat → Nat} {x len : Nat} : kwOf b x len = 3 ∨ (400 ≤ kwOf b x len ∧ kwOf b x len < 418) := by
  rcases kwF_r (b := b) (x := x) (len := len) 18 400 with ⟨h1, _⟩ | ⟨h1, h2, _⟩
  · exact Or.inl h1
  · exact Or.inr ⟨h1, h2⟩
theorem kwOf_i {b : Nat → Nat} {x len k : Nat} (h1 : 400 ≤ k) (h2 : k < 418) : kwOf b x len = k ↔ isW b x len (kwL k) = true := by
  rcases kwF_r (b := b) (x := x) (len := len) 18 400 with ⟨g1, g2⟩ | ⟨g1, g2, g3⟩
  · constructor
    · intro e
      unfold kwOf at e
      omega
    · intro e
      rw [g2 k h1 (by omega)] at e
      exact nomatch e
  · constructor
    · intro e
      rw [← e]; exact g3
    · intro e
      have := isW_inj e g3
      have := kwL_inj ⟨k - 400, by omega⟩ ⟨kwF b x len 18 400 - 400, by omega⟩ (by
        show kwL (400 + (k - 400)) = kwL (400 + (kwF b x len 18 400 - 400))
        rw [show 400 + (k - 400) = k by omega, show 400 + (kwF b x len 18 400 - 400) = kwF b x len 18 400 by omega]
        exact this)
      have := congrArg Fin.val this
      have : k - 400 = kwF b x len 18 400 - 400 := this
      unfold kwOf
      omega
def knS (c : Nat) : Bool := decide (c = 60 ∨ c = 62 ∨ c = 61 ∨ c = 35 ∨ c = 43 ∨ c = 45 ∨ c = 42 ∨ c = 47 ∨ c = 40 ∨ c = 41 ∨ c = 59 ∨ c = 44 ∨ c = 63 ∨ c = 58)
def lxT (b : Nat → Nat) (n p : Nat) : Nat × Nat × Nat × Nat :=
  if n ≤ p then (p, 0, p, 0) else if isDg (b p) = true then (p, 1, spE isDg b n p, nvS b (n - p) p 0)
  else if isLt (b p) = true then (p, kwOf b p (spE isLt b n p - p), spE isLt b n p, 0)
  else if (b p = 60 ∨ b p = 62) ∧ p + 1 < n ∧ b (p + 1) = 61 then (p, if b p = 60 then 4 else 5, p + 2, 0)
  else (p, if knS (b p) = true then b p else 3, p + 1, 0)
def lxS (b : Nat → Nat) (n x : Nat) : Nat × Nat × Nat × Nat := lxT b n (spE isBl b n x)
def lxI (b : Nat → Nat) (n : Nat) : Nat → Nat × Nat × Nat × Nat
  | 0 => lxS b n 0
  | i + 1 => lxS b n (lxI b n i).2.2.1
/-- the tokens' places, sorts, ends, numbers -/
def tkP (b : Nat → Nat) (n i : Nat) : Nat := (lxI b n i).1
def tkT (b : Nat → Nat) (n i : Nat) : Nat := (lxI b n i).2.1
def tkE (b : Nat → Nat) (n i : Nat) : Nat := (lxI b n i).2.2.1
def tkV (b : Nat → Nat) (n i : Nat) : Nat := (lxI b n i).2.2.2
theorem lxT_p {b : Nat → Nat} {n p : Nat} : (lxT b n p).1 = p := by
  unfold lxT
  repeat' split
  all_goals rfl
theorem lxT_e {b : Nat → Nat} {n p : Nat} (hp : p ≤ n) : p ≤ (lxT b n p).2.2.1 ∧ (lxT b n p).2.2.1 ≤ n ∧ ((lxT b n p).2.1 ≠ 0 → p < (lxT b n p).2.2.1) := by
  unfold lxT
  by_cases h1 : n ≤ p
  · rw [if_pos h1]
    exact ⟨Nat.le_refl _, hp, fun a => absurd rfl a⟩
  · rw [if_neg h1]
    by_cases h2 : isDg (b p) = true
    · rw [if_pos h2]
      have := spE_r (p := isDg) (b := b) (n := n) _ (p + 1) rfl (by omega)
      rw [← spE_y (x := p) (by omega) h2] at this
      dsimp only
      exact ⟨by omega, this.2.1, fun _ => by omega⟩
    · rw [if_neg h2]
      by_cases h3 : isLt (b p) = true
      · rw [if_pos h3]
        have := spE_r (p := isLt) (b := b) (n := n) _ (p + 1) rfl (by omega)
        rw [← spE_y (x := p) (by omega) h3] at this
        dsimp only
        exact ⟨by omega, this.2.1, fun _ => by omega⟩
      · rw [if_neg h3]
        by_cases h4 : (b p = 60 ∨ b p = 62) ∧ p + 1 < n ∧ b (p + 1) = 61
        · rw [if_pos h4]
          dsimp only
          exact ⟨by omega, by omega, fun _ => by omega⟩
        · rw [if_neg h4]
          dsimp only
          exact ⟨by omega, by omega, fun _ => by omega⟩
theorem lxS_e {b : Nat → Nat} {n x : Nat} (hx : x ≤ n) : x ≤ (lxS b n x).1 ∧ (lxS b n x).1 ≤ (lxS b n x).2.2.1 ∧ (lxS b n x).2.2.1 ≤ n ∧ ((lxS b n x).2.1 ≠ 0 → (lxS b n x).1 < (lxS b n x).2.2.1) := by
  unfold lxS
  have h1 := spE_r (p := isBl) (b := b) (n := n) _ x rfl hx
  have h2 := lxT_e (b := b) h1.2.1
  rw [lxT_p]
  exact ⟨h1.1, h2⟩
theorem tk_e {b : Nat → Nat} {n : Nat} : ∀ i, tkP b n i ≤ tkE b n i ∧ tkE b n i ≤ n ∧ (tkT b n i ≠ 0 → tkP b n i < tkE b n i)
  | 0 => (lxS_e (Nat.zero_le n)).2
  | i + 1 => (lxS_e (tk_e i).2.1).2
theorem tk_s {b : Nat → Nat} {n i : Nat} : tkE b n i ≤ tkP b n (i + 1) := (lxS_e (tk_e i).2.1).1
/-- so many tokens, so many bytes -/
theorem tk_i {b : Nat → Nat} {n i : Nat} (h : i ≤ tkP b n i) (ht : tkT b n i ≠ 0) : i + 1 ≤ tkP b n (i + 1) := by
  have h1 := (tk_e (b := b) (n := n) i).2.2 ht
  have h2 := tk_s (b := b) (n := n) (i := i)
  omega
theorem tk_n {b : Nat → Nat} {n i : Nat} (h : i ≤ tkP b n i) : i ≤ n := by
  have h1 := tk_e (b := b) (n := n) i
  omega
theorem knS_i {c : Nat} : knS c = true ↔ (c = 60 ∨ c = 62 ∨ c = 61 ∨ c = 35 ∨ c = 43 ∨ c = 45 ∨ c = 42 ∨ c = 47 ∨ c = 40 ∨ c = 41 ∨ c = 59 ∨ c = 44 ∨ c = 63 ∨ c = 58) := decide_eq_true_iff
/-- a word as a number -/
def wdN (b : Nat → Nat) (x : Nat) : Nat → Nat
  | 0 => 0
  | k + 1 => wdN b x k * 256 + b (x + k)
def wdL : List Nat → Nat → Nat
  | [], a => a
  | c :: w, a => wdL w (a * 256 + c)
theorem wdL_pos : ∀ (w : List Nat) (a : Nat), 0 < a → 0 < wdL w a
  | [], a, h => h
  | c :: w, a, h => wdL_pos w _ (by omega)
theorem wdN_s {b : Nat → Nat} {x : Nat} : ∀ k, wdN b x (k + 1) = b x * 256 ^ k + wdN b (x + 1) k
  | 0 => by
    show 0 * 256 + b (x + 0) = b x * 1 + 0
    rw [Nat.add_zero]; omega
  | k + 1 => by
    show wdN b x (k + 1) * 256 + b (x + (k + 1)) = b x * 256 ^ (k + 1) + (wdN b (x + 1) k * 256 + b (x + 1 + k))
    rw [wdN_s k, show x + (k + 1) = x + 1 + k by omega, Nat.add_mul, Nat.pow_succ, Nat.mul_assoc]
    omega
theorem wdN_lt {b : Nat → Nat} {x : Nat} : ∀ k, (∀ j, j < k → b (x + j) < 256) → wdN b x k < 256 ^ k
  | 0, _ => by show 0 < 1; omega
  | k + 1, h => by
    have h1 := wdN_lt k (fun j hj => h j (by omega))
    have h2 := h k (by omega)
    show wdN b x k * 256 + b (x + k) < 256 ^ (k + 1)
    rw [Nat.pow_succ]
    omega
/-- spelled from the end: the last byte first -/
theorem wdN_i {b : Nat → Nat} {x : Nat} : ∀ (k : Nat) (w : List Nat), (∀ j, j < k → 0 < b (x + j) ∧ b (x + j) < 256) → (∀ c, c ∈ w → 0 < c ∧ c < 256) → (wdN b x k = wdL w.reverse.reverse 0 → k = w.length ∧ ∀ j c, w[j]? = some c → b (x + j) = c) := by
  intro k
  induction k with
  | zero =>
    intro w hb hw h
    rw [List.reverse_reverse] at h
    cases w with
    | nil => exact ⟨rfl, fun j c hc => by rw [List.getElem?_nil] at hc; exact nomatch hc⟩
    | cons c w =>
      have h : 0 = wdL w (0 * 256 + c) := h
      have := wdL_pos w (0 * 256 + c) (by have := hw c (List.mem_cons_self); omega)
      omega
  | succ k ih =>
    intro w hb hw h
    rw [List.reverse_reverse] at h
    -- the list has a last one
    rcases List.eq_nil_or_concat w with rfl | ⟨w', c, rfl⟩
    · have h : wdN b x k * 256 + b (x + k) = 0 := h
      have := hb k (by omega)
      omega
    · have app : ∀ (u : List Nat) (a : Nat), wdL (u ++ [c]) a = wdL u a * 256 + c := by
        intro u
        induction u with
        | nil => exact fun a => rfl
        | cons d u ihu => exact fun a => ihu _
      have hcm : c ∈ w' ++ [c] := by simp
      have hc := hw c (by simp)
      rw [List.concat_eq_append, app] at h
      have h : wdN b x k * 256 + b (x + k) = wdL w' 0 * 256 + c := h
      have hbk := hb k (by omega)
      have e1 : b (x + k) = c := by omega
      have e2 : wdN b x k = wdL w' 0 := by omega
      have := ih w' (fun j hj => hb j (by omega)) (fun d hd => hw d (by simp [hd])) (by rw [List.reverse_reverse]; exact e2)
      rw [List.concat_eq_append, List.length_append, List.length_singleton]
      refine ⟨by omega, fun j d hd => ?_⟩
      rcases gt_app hd with hd | ⟨g1, g2⟩
      · exact this.2 j d hd
      · rw [g1, g2, ← this.1]; exact e1
theorem mtB_g {b : Nat → Nat} : ∀ (w : List Nat) (x : Nat), mtB b x w = true ↔ ∀ (j c : Nat), w[j]? = some c → b (x + j) = c
  | [], x => by
    constructor
    · intro _ j c h
      rw [List.getElem?_nil] at h
      exact nomatch h
    · exact fun _ => rfl
  | a :: w, x => by
    unfold mtB
    rw [Bool.and_eq_true, decide_eq_true_eq, mtB_g w (x + 1)]
    constructor
    · intro ⟨h1, h2⟩ j c hc
      cases j with
      | zero => have hc : a = c := Option.some.inj hc; rw [← hc]; exact h1
      | succ j =>
        have := h2 j c hc
        rw [show x + (j + 1) = x + 1 + j by omega]; exact this
    · intro h
      refine ⟨h 0 a rfl, fun j c hc => ?_⟩
      have := h (j + 1) c hc
      rw [show x + 1 + j = x + (j + 1) by omega]; exact this
theorem wdN_w {b : Nat → Nat} : ∀ (w : List Nat) (x a : Nat), mtB b x w = true → wdL w a = a * 256 ^ w.length + wdN b x w.length
  | [], x, a, _ => by
    show a = a * 1 + 0
    omega
  | c :: w, x, a, h => by
    unfold mtB at h
    rw [Bool.and_eq_true, decide_eq_true_eq] at h
    show wdL w (a * 256 + c) = _
    rw [wdN_w w (x + 1) _ h.2, List.length_cons, wdN_s, h.1, Nat.add_mul, Nat.pow_succ, Nat.mul_assoc, Nat.mul_comm 256]
    omega
/-- the number says which word it is -/
theorem wd_kw {b : Nat → Nat} {x len : Nat} {w : List Nat} (hb : ∀ j, j < len → 0 < b (x + j) ∧ b (x + j) < 256) (hw : ∀ c, c ∈ w → 0 < c ∧ c < 256) (h7 : w.length ≤ 7) (h0 : 0 < w.length) : (if len ≤ 7 then wdN b x len else 0) = wdL w 0 ↔ isW b x len w = true := by
  unfold isW
  rw [Bool.and_eq_true, decide_eq_true_eq]
  have hp : 0 < wdL w 0 := by
    cases w with
    | nil => exact absurd h0 (Nat.lt_irrefl 0)
    | cons c w =>
      have hc := (hw c List.mem_cons_self).1
      exact wdL_pos w (0 * 256 + c) (by rw [Nat.zero_mul, Nat.zero_add]; exact hc)
  constructor
  · intro h
    by_cases h8 : len ≤ 7
    · rw [if_pos h8] at h
      have := wdN_i len w hb hw (by rw [List.reverse_reverse]; exact h)
      exact ⟨this.1, (mtB_g w x).mpr this.2⟩
    · rw [if_neg h8] at h
      omega
  · intro ⟨h1, h2⟩
    rw [if_pos (by omega), wdN_w w x 0 h2, h1]
    omega
theorem kw_7 : ∀ k : Fin 18, k.val ≠ 13 → (kwL (400 + k.val)).length ≤ 7 ∧ 0 < (kwL (400 + k.val)).length ∧ ∀ c, c ∈ kwL (400 + k.val) → 0 < c ∧ c < 256 := by decide
