/-! a small machine beside the real one: heap cells as a map, a method as blocks of decoded and linked instructions, its meaning a predicate transformer -/
abbrev xE : Type := (Nat × vp_A) ⊕ (Nat × List Value)
abbrev xM : Type := Nat → Option xE
abbrev xL : Type := List (Option Value)
abbrev xU : Type := Nat × Nat
abbrev xQ : Type := Option Value → xM → Prop
abbrev xK : Type := xL → List Value → xM → xU → Prop
abbrev xI : Type := Instr × Nat × List Nat
abbrev xB : Type := List xI × Nat × Nat
abbrev xC : Type := Nat → List Value → xM → xQ → Prop
def xset (M : xM) (a : Nat) (e : xE) : xM := fun x => if x = a then some e else M x
/-- reads and writes, with what follows -/
def xgfI (M : xM) (a ci k : Nat) (K : Int32 → Prop) : Prop := match M a with
  | some (.inr (c, fs)) => c = ci ∧ (match fs[k]? with | some (.int x) => K x | _ => False)
  | _ => False
def xgfL (M : xM) (a ci k : Nat) (K : Int64 → Prop) : Prop := match M a with
  | some (.inr (c, fs)) => c = ci ∧ (match fs[k]? with | some (.long x) => K x | _ => False)
  | _ => False
def xgfR (M : xM) (a ci k : Nat) (K : Nat → Prop) : Prop := match M a with
  | some (.inr (c, fs)) => c = ci ∧ (match fs[k]? with | some (.ref x) => K x | _ => False)
  | _ => False
def xpf (M : xM) (a ci k : Nat) (v : Value) (K : xM → Prop) : Prop := match M a with
  | some (.inr (c, fs)) => c = ci ∧ K (xset M a (.inr (c, fs.set k v)))
  | _ => False
def xaI (M : xM) (a : Nat) (i : Int32) (K : Int32 → Prop) : Prop := match M a with
  | some (.inl (tc, n, .inl f)) => (tc = 0 ∨ tc = 7) ∧ vp_in i n ∧ K (f i.toNatClampNeg)
  | _ => False
def xaZ (M : xM) (a : Nat) (i : Int32) (K : Int32 → Prop) : Prop := match M a with
  | some (.inl (tc, n, .inl f)) => tc = 1 ∧ vp_in i n ∧ K (f i.toNatClampNeg)
  | _ => False
def xaL (M : xM) (a : Nat) (i : Int32) (K : Int64 → Prop) : Prop := match M a with
  | some (.inl (tc, n, .inr (.inl f))) => tc = 2 ∧ vp_in i n ∧ K (f i.toNatClampNeg)
  | _ => False
def xaR (M : xM) (a : Nat) (i : Int32) (K : Nat → Prop) : Prop := match M a with
  | some (.inl (tc, n, .inr (.inr (.inr (.inr f))))) => (tc = 4 ∨ tc = 5 ∨ tc = 6) ∧ vp_in i n ∧ (match f i.toNatClampNeg with | some r => K r | none => False)
  | _ => False
def xsI (M : xM) (a : Nat) (i x : Int32) (K : xM → Prop) : Prop := match M a with
  | some (.inl (tc, n, .inl f)) => tc = 0 ∧ vp_in i n ∧ K (xset M a (.inl (tc, n, .inl (upd f i.toNatClampNeg x))))
  | _ => False
def xsZ (M : xM) (a : Nat) (i x : Int32) (K : xM → Prop) : Prop := match M a with
  | some (.inl (tc, n, .inl f)) => tc = 1 ∧ vp_in i n ∧ K (xset M a (.inl (tc, n, .inl (upd f i.toNatClampNeg (vp_nar .boolean x)))))
  | _ => False
def xsL (M : xM) (a : Nat) (i : Int32) (x : Int64) (K : xM → Prop) : Prop := match M a with
  | some (.inl (tc, n, .inr (.inl f))) => tc = 2 ∧ vp_in i n ∧ K (xset M a (.inl (tc, n, .inr (.inl (vp_updL f i.toNatClampNeg x)))))
  | _ => False
/-- the class whose objects an array of references holds -/
def xcmp (tc : Nat) : Nat := if tc = 4 then 8 else 4
def xsR (M : xM) (a : Nat) (i : Int32) (v : Nat) (K : xM → Prop) : Prop := match M a with
  | some (.inl (tc, n, .inr (.inr (.inr (.inr f))))) => (tc = 4 ∨ tc = 5) ∧ vp_in i n ∧ (∃ fs, M v = some (.inr (xcmp tc, fs))) ∧ K (xset M a (.inl (tc, n, .inr (.inr (.inr (.inr (va_up f i.toNatClampNeg (some v))))))))
  | _ => False
def xlen (M : xM) (a : Nat) (K : Int32 → Prop) : Prop := match M a with
  | some (.inl (_, x)) => K (Int32.ofNat x.1)
  | _ => False
def xcopy (M : xM) (a0 : Nat) (sp : Int32) (a : Nat) (dp n : Int32) (K : xM → Prop) : Prop := match M a0, M a with
  | some (.inl (t0, n0, .inl f)), some (.inl (t1, n1, .inl g)) => t0 = t1 ∧ (t0 = 0 ∨ t0 = 1) ∧ ¬ sp < 0 ∧ ¬ dp < 0 ∧ ¬ n < 0 ∧ sp.toNatClampNeg + n.toNatClampNeg ≤ n0 ∧ dp.toNatClampNeg + n.toNatClampNeg ≤ n1 ∧
      K (xset M a (.inl (t1, n1, .inl (va_cpy f g sp.toNatClampNeg dp.toNatClampNeg n.toNatClampNeg))))
  | _, _ => False
def xtop (M : xM) (q : Nat) : Prop := ∀ x, M x = none ↔ q ≤ x
def xalloc (M : xM) (u : xU) (n : Nat) (e : xE) (K : Nat → xM → xU → Prop) : Prop :=
  1 ≤ u.1 ∧ n ≤ u.2 ∧ ∀ q, xtop M q → K q (xset M q e) (u.1 - 1, u.2 - n)
def xobj (M : xM) (a ci : Nat) : Prop := ∃ fs, M a = some (.inr (ci, fs))
def xrI (K : Int32 → xM → Prop) : xQ := fun v M => match v with | some (.int r) => K r M | _ => False
def xrL (K : Int64 → xM → Prop) : xQ := fun v M => match v with | some (.long r) => K r M | _ => False
def xrR (K : Nat → xM → Prop) : xQ := fun v M => match v with | some (.ref r) => K r M | _ => False
def xrV (K : xM → Prop) : xQ := fun v M => match v with | none => K M | _ => False
/-- the locals that live on -/
def xmask : Nat → xL → xL
  | _, [] => []
  | b, o :: L => (if b % 2 = 1 then o else none) :: xmask (b / 2) L
def xst1 (L : xL) (n : Nat) (v : Value) : Option xL := match Nat.ble L.length n with
  | true => none
  | false => match n with
    | 0 => some (L.set 0 (some v))
    | j + 1 => match L[j]? with
      | some (some (.long _)) => none
      | some (some (.double _)) => none
      | _ => some (L.set (j + 1) (some v))
def xst2 (L : xL) (n : Nat) (v : Value) : Option xL := match Nat.ble L.length (n + 1) with
  | true => none
  | false => match n with
    | 0 => some ((L.set 0 (some v)).set 1 none)
    | j + 1 => match L[j]? with
      | some (some (.long _)) => none
      | some (some (.double _)) => none
      | _ => some ((L.set (j + 1) (some v)).set (j + 2) none)
def xroom (S : List Value) : Bool := Nat.ble ((S.map fun v => v.category).sum) 8
/-- kinds of fields by class: 0 int, 1 boolean, 2 long, 3 reference -/
def xdflt (k : Nat) : Value := match k with
  | 0 => .int 0
  | 1 => .int 0
  | 2 => .long 0
  | _ => .null
def xsw (jmp : Nat → xK) (L : xL) (S : List Value) (M : xM) (u : xU) (x : Int32) (d md : Nat) : Int → List Nat → Prop
  | k, t :: mt :: ts => if x = Int32.ofInt k then jmp t (xmask mt L) S M u else xsw jmp L S M u x d md (k + 1) ts
  | _, _ => jmp d (xmask md L) S M u
def xlk (jmp : Nat → xK) (L : xL) (S : List Value) (M : xM) (u : xU) (x : Int32) (d md : Nat) : List (Int × Int) → List Nat → Prop
  | k :: ks, t :: mt :: ts => if x = Int32.ofInt k.1 then jmp t (xmask mt L) S M u else xlk jmp L S M u x d md ks ts
  | _, _ => jmp d (xmask md L) S M u
def xif (c : Prop) [Decidable c] (jmp : Nat → xK) (L : xL) (S : List Value) (M : xM) (u : xU) (d : List Nat) : Prop := match d with
  | [bt, mt, bf, mf] => if c then jmp bt (xmask mt L) S M u else jmp bf (xmask mf L) S M u
  | _ => False
def xrk (rk : Nat) (K : List Value → xM → Prop) : xQ := match rk with
  | 0 => xrI (fun r M => K [.int r] M)
  | 1 => xrV (fun M => K [] M)
  | 2 => xrL (fun r M => K [.long r] M)
  | _ => xrR (fun r M => K [.ref r] M)

/-- the top of the stack, by kinds -/
def x1I (S : List Value) (K : Int32 → List Value → Prop) : Prop := match S with | .int x :: S => K x S | _ => False
def x1L (S : List Value) (K : Int64 → List Value → Prop) : Prop := match S with | .long x :: S => K x S | _ => False
def x1R (S : List Value) (K : Nat → List Value → Prop) : Prop := match S with | .ref x :: S => K x S | _ => False
def x2I (S : List Value) (K : Int32 → Int32 → List Value → Prop) : Prop := match S with | .int y :: .int x :: S => K x y S | _ => False
def x2L (S : List Value) (K : Int64 → Int64 → List Value → Prop) : Prop := match S with | .long y :: .long x :: S => K x y S | _ => False
def xIL (S : List Value) (K : Int64 → Int32 → List Value → Prop) : Prop := match S with | .int y :: .long x :: S => K x y S | _ => False
def xIR (S : List Value) (K : Nat → Int32 → List Value → Prop) : Prop := match S with | .int i :: .ref a :: S => K a i S | _ => False
def xIIR (S : List Value) (K : Nat → Int32 → Int32 → List Value → Prop) : Prop := match S with | .int x :: .int i :: .ref a :: S => K a i x S | _ => False
def xLIR (S : List Value) (K : Nat → Int32 → Int64 → List Value → Prop) : Prop := match S with | .long x :: .int i :: .ref a :: S => K a i x S | _ => False
def xRIR (S : List Value) (K : Nat → Int32 → Nat → List Value → Prop) : Prop := match S with | .ref v :: .int i :: .ref a :: S => K a i v S | _ => False
def xVR (S : List Value) (K : Nat → Value → List Value → Prop) : Prop := match S with | v :: .ref a :: S => K a v S | _ => False
def xcpS (S : List Value) (K : Nat → Int32 → Nat → Int32 → Int32 → List Value → Prop) : Prop := match S with | .int n :: .int dp :: .ref a :: .int sp :: .ref a0 :: S => K a0 sp a dp n S | _ => False
def xlI (L : xL) (n : Nat) (K : Int32 → Prop) : Prop := match L[n]? with | some (some (.int x)) => K x | _ => False
def xlL (L : xL) (n : Nat) (K : Int64 → Prop) : Prop := match L[n]? with | some (some (.long x)) => K x | _ => False
def xlR (L : xL) (n : Nat) (K : Nat → Prop) : Prop := match L[n]? with | some (some (.ref x)) => K x | _ => False
def xs1 (L : xL) (n : Nat) (v : Value) (K : xL → Prop) : Prop := match xst1 L n v with | some L' => K L' | none => False
def xs2 (L : xL) (n : Nat) (v : Value) (K : xL → Prop) : Prop := match xst2 L n v with | some L' => K L' | none => False
/-- a value that a field of this kind takes -/
def xfit (kd : Nat) (v : Value) (K : Prop) : Prop := match kd, v with
  | 0, .int _ => K
  | 1, .int x => (x = 0 ∨ x = 1) ∧ K
  | 2, .long _ => K
  | 3, .ref _ => K
  | _, _ => False
def xrm (S : List Value) (K : Prop) : Prop := match xroom S with
  | true => K
  | false => False
def xstk (n : Nat) (S : List Value) (K : Prop) : Prop := match Nat.ble n S.length with
  | true => K
  | false => False
def xfv (M : xM) (a ci k kd : Nat) (K : Value → Prop) : Prop := match kd with
  | 2 => xgfL M a ci k (fun x => K (.long x))
  | 3 => xgfR M a ci k (fun x => K (.ref x))
  | _ => xgfI M a ci k (fun x => K (.int x))
def xatc (t : ArrayType) : Nat := match t with | .boolean => 1 | .long => 2 | _ => 0
def xazero (tc n : Nat) : xE := match tc with
  | 2 => .inl (2, n, .inr (.inl (fun _ => 0)))
  | tc => .inl (tc, n, .inl (fun _ => 0))
def xmul (M : xM) (u : xU) (n k : Nat) (K : Nat → xM → xU → Prop) : Prop :=
  1 + n ≤ u.1 ∧ n + n * k ≤ u.2 ∧ ∀ q, xtop M q → K q (fun x => if x = q then some (.inl (6, n, .inr (.inr (.inr (.inr (fun i => if i < n then some (q + 1 + i) else none)))))) else if q < x ∧ x ≤ q + n then some (.inl (0, k, .inl (fun _ => 0))) else M x) (u.1 - (1 + n), u.2 - (n + n * k))
/-- one instruction -/
def xT (call : xC) (jmp : Nat → xK) (ret : xQ) (i : xI) (k : xK) : xK := fun L S M u => match i.1 with
  | .iconst n => k L (.int (Int32.ofInt n) :: S) M u
  | .bipush n => k L (.int (Int8.ofInt n).toInt32 :: S) M u
  | .sipush n => k L (.int (Int16.ofInt n).toInt32 :: S) M u
  | .lconst n => k L (.long (Int64.ofNat (n : Nat)) :: S) M u
  | .ldc _ => (match i.2.2 with
    | [v] => k L (.int (Int32.ofNat v) :: S) M u
    | [y, _] => call y [] M (xrR (fun r M' => k L (.ref r :: S) M' u))
    | _ => False)
  | .ldc2_w _ => (match i.2.2 with
    | [v] => k L (.long (Int64.ofNat v) :: S) M u
    | _ => False)
  | .iload_n n => xlI L n (fun x => k L (.int x :: S) M u)
  | .iload n => xlI L n (fun x => k L (.int x :: S) M u)
  | .lload_n n => xlL L n (fun x => k L (.long x :: S) M u)
  | .lload n => xlL L n (fun x => k L (.long x :: S) M u)
  | .aload_n n => xlR L n (fun x => k L (.ref x :: S) M u)
  | .aload n => xlR L n (fun x => k L (.ref x :: S) M u)
  | .istore_n n => x1I S (fun x S => xs1 L n (.int x) (fun L => k L S M u))
  | .istore n => x1I S (fun x S => xs1 L n (.int x) (fun L => k L S M u))
  | .lstore_n n => x1L S (fun x S => xs2 L n (.long x) (fun L => k L S M u))
  | .lstore n => x1L S (fun x S => xs2 L n (.long x) (fun L => k L S M u))
  | .astore_n n => x1R S (fun x S => xs1 L n (.ref x) (fun L => k L S M u))
  | .astore n => x1R S (fun x S => xs1 L n (.ref x) (fun L => k L S M u))
  | .iinc n c => xlI L n (fun x => xs1 L n (.int (x + Int32.ofInt c)) (fun L => k L S M u))
  | .iadd => x2I S (fun x y S => k L (.int (x + y) :: S) M u)
  | .isub => x2I S (fun x y S => k L (.int (x - y) :: S) M u)
  | .imul => x2I S (fun x y S => k L (.int (x * y) :: S) M u)
  | .idiv => x2I S (fun x y S => ¬ y = 0 ∧ k L (.int (x / y) :: S) M u)
  | .irem => x2I S (fun x y S => ¬ y = 0 ∧ k L (.int (x - x / y * y) :: S) M u)
  | .iand => x2I S (fun x y S => k L (.int (x &&& y) :: S) M u)
  | .ior => x2I S (fun x y S => k L (.int (x ||| y) :: S) M u)
  | .ixor => x2I S (fun x y S => k L (.int (x ^^^ y) :: S) M u)
  | .ishl => x2I S (fun x y S => k L (.int (x <<< (y &&& 31)) :: S) M u)
  | .ishr => x2I S (fun x y S => k L (.int (x >>> (y &&& 31)) :: S) M u)
  | .iushr => x2I S (fun x y S => k L (.int (x.toUInt32 >>> (y.toUInt32 &&& Int32.toUInt32 31)).toInt32 :: S) M u)
  | .ineg => x1I S (fun x S => k L (.int (-x) :: S) M u)
  | .i2l => x1I S (fun x S => k L (.long x.toInt64 :: S) M u)
  | .l2i => x1L S (fun x S => k L (.int x.toInt32 :: S) M u)
  | .ladd => x2L S (fun x y S => k L (.long (x + y) :: S) M u)
  | .lsub => x2L S (fun x y S => k L (.long (x - y) :: S) M u)
  | .lmul => x2L S (fun x y S => k L (.long (x * y) :: S) M u)
  | .ldiv => x2L S (fun x y S => ¬ y = 0 ∧ k L (.long (x / y) :: S) M u)
  | .lor => x2L S (fun x y S => k L (.long (x ||| y) :: S) M u)
  | .lneg => x1L S (fun x S => k L (.long (-x) :: S) M u)
  | .lshl => xIL S (fun x y S => k L (.long (x <<< (y.toInt64 &&& 63)) :: S) M u)
  | .lcmp => x2L S (fun x y S => k L (.int (lg_cmp x y) :: S) M u)
  | .dup => (match S with
    | .int x :: S => k L (.int x :: .int x :: S) M u
    | .ref x :: S => k L (.ref x :: .ref x :: S) M u
    | _ => False)
  | .dup2 => xIR S (fun a i S => k L (.int i :: .ref a :: .int i :: .ref a :: S) M u)
  | .pop => (match S with
    | .int _ :: S => k L S M u
    | .ref _ :: S => k L S M u
    | _ => False)
  | .goto _ => (match i.2.2 with
    | [b, mb] => jmp b (xmask mb L) S M u
    | _ => False)
  | .ifCond .eq _ => x1I S (fun x S => xif (x = 0) jmp L S M u i.2.2)
  | .ifCond .ne _ => x1I S (fun x S => xif (¬ x = 0) jmp L S M u i.2.2)
  | .ifCond .lt _ => x1I S (fun x S => xif (x < 0) jmp L S M u i.2.2)
  | .ifCond .ge _ => x1I S (fun x S => xif (0 ≤ x) jmp L S M u i.2.2)
  | .ifCond .gt _ => x1I S (fun x S => xif (0 < x) jmp L S M u i.2.2)
  | .ifCond .le _ => x1I S (fun x S => xif (x ≤ 0) jmp L S M u i.2.2)
  | .if_icmp .eq _ => x2I S (fun x y S => xif (x = y) jmp L S M u i.2.2)
  | .if_icmp .ne _ => x2I S (fun x y S => xif (¬ x = y) jmp L S M u i.2.2)
  | .if_icmp .lt _ => x2I S (fun x y S => xif (x < y) jmp L S M u i.2.2)
  | .if_icmp .ge _ => x2I S (fun x y S => xif (y ≤ x) jmp L S M u i.2.2)
  | .if_icmp .gt _ => x2I S (fun x y S => xif (y < x) jmp L S M u i.2.2)
  | .if_icmp .le _ => x2I S (fun x y S => xif (x ≤ y) jmp L S M u i.2.2)
  | .tableswitch _ lo _ _ => x1I S (fun x S => match i.2.2 with
    | d :: md :: ts => xsw jmp L S M u x d md lo ts
    | _ => False)
  | .lookupswitch _ ps => x1I S (fun x S => match i.2.2 with
    | d :: md :: ts => xlk jmp L S M u x d md ps.toList ts
    | _ => False)
  | .getfield _ => (match i.2.2 with
    | [ci, j, kd] => x1R S (fun a S => xfv M a ci j kd (fun v => k L (v :: S) M u))
    | _ => False)
  | .putfield _ => (match i.2.2 with
    | [ci, j, kd] => xVR S (fun a v S => xfit kd v (xpf M a ci j v (fun M => k L S M u)))
    | _ => False)
  | .iaload => xIR S (fun a i S => xaI M a i (fun x => k L (.int x :: S) M u))
  | .baload => xIR S (fun a i S => xaZ M a i (fun x => k L (.int x :: S) M u))
  | .laload => xIR S (fun a i S => xaL M a i (fun x => k L (.long x :: S) M u))
  | .aaload => xIR S (fun a i S => xaR M a i (fun x => k L (.ref x :: S) M u))
  | .iastore => xIIR S (fun a i x S => xsI M a i x (fun M => k L S M u))
  | .bastore => xIIR S (fun a i x S => xsZ M a i x (fun M => k L S M u))
  | .lastore => xLIR S (fun a i x S => xsL M a i x (fun M => k L S M u))
  | .aastore => xRIR S (fun a i v S => xsR M a i v (fun M => k L S M u))
  | .arraylength => x1R S (fun a S => xlen M a (fun x => k L (.int x :: S) M u))
  | .new _ => (match i.2.2 with
    | ci :: ks => xalloc M u ks.length (.inr (ci, ks.map xdflt)) (fun q M u => k L (.ref q :: S) M u)
    | _ => False)
  | .newarray t => x1I S (fun n S => ¬ n < 0 ∧ n.toNatClampNeg ≤ 1000000 ∧ xalloc M u n.toNatClampNeg (xazero (xatc t) n.toNatClampNeg) (fun q M u => k L (.ref q :: S) M u))
  | .anewarray _ => (match i.2.2 with
    | [tc] => x1I S (fun n S => ¬ n < 0 ∧ n.toNatClampNeg ≤ 1000000 ∧ xalloc M u n.toNatClampNeg (.inl (tc, n.toNatClampNeg, .inr (.inr (.inr (.inr (fun _ => none)))))) (fun q M u => k L (.ref q :: S) M u))
    | _ => False)
  | .multianewarray _ _ => x2I S (fun n j S => ¬ n < 0 ∧ ¬ j < 0 ∧ n.toNatClampNeg ≤ 1000000 ∧ j.toNatClampNeg ≤ 1000000 ∧ xmul M u n.toNatClampNeg j.toNatClampNeg (fun q M u => k L (.ref q :: S) M u))
  | .invokestatic _ => (match i.2.2 with
    | [0] => xcpS S (fun a0 sp a dp n S => xrm S (xcopy M a0 sp a dp n (fun M => k L S M u)))
    | [_, y, n, rk] => xstk n S (xrm (S.drop n) (call y (S.take n).reverse M (xrk rk (fun vs M => k L (vs ++ S.drop n) M u))))
    | _ => False)
  | .invokevirtual _ => (match i.2.2 with
    | [_, y, n, ci, rk] => x1R (S.drop n) (fun b S' => xrm S' (xobj M b ci ∧ call y (.ref b :: (S.take n).reverse) M (xrk rk (fun vs M => k L (vs ++ S') M u))))
    | _ => False)
  | .invokespecial _ => (match i.2.2 with
    | [0] => x1R S (fun _ S => xrm S (k L S M u))
    | [_, y, n, nc, ns] => x1R (S.drop n) (fun b S' => xrm S' (nc ≤ u.1 ∧ ns ≤ u.2 ∧ call y (.ref b :: (S.take n).reverse) M (xrV (fun M => k L S' M (u.1 - nc, u.2 - ns)))))
    | _ => False)
  | .ireturn => (match S, i.2.2 with
    | [.int x], [0] => ret (some (.int x)) M
    | [.int x], [_] => (x = 0 ∨ x = 1) ∧ ret (some (.int x)) M
    | _, _ => False)
  | .lreturn => (match S with
    | [.long x] => ret (some (.long x)) M
    | _ => False)
  | .areturn => (match S with
    | [.ref x] => ret (some (.ref x)) M
    | _ => False)
  | .return_ => (match S with
    | [] => ret none M
    | _ => False)
  | _ => False
/-- a block, a method's blocks, the meaning of a method's run (the least that is closed under its blocks) -/
def xrun (call : xC) (jmp : Nat → xK) (ret : xQ) (b : xB) : xK := b.1.foldr (xT call jmp ret) (fun L S M u => jmp b.2.1 (xmask b.2.2 L) S M u)
def xblk (call : xC) (jmp : Nat → xK) (ret : xQ) (bs : List xB) (b : Nat) : xK := fun L S M u => match bs[b]? with
  | some x => xrun call jmp ret x L S M u
  | none => False
def xW (call : xC) (bs : List xB) (ret : xQ) (b : Nat) (L : xL) (S : List Value) (M : xM) (u : xU) : Prop :=
  ∀ X : Nat → xK, (∀ b L S M u, xblk call X ret bs b L S M u → X b L S M u) → X b L S M u
def xslots : List Value → xL
  | [] => []
  | .long x :: vs => some (.long x) :: none :: xslots vs
  | .double x :: vs => some (.double x) :: none :: xslots vs
  | v :: vs => some v :: xslots vs
def xpad (n : Nat) (L : xL) : xL := L ++ List.replicate (n - L.length) none
/-- methods: name, bytes, locals, what it returns, where its blocks begin, its blocks, the cells and slots that it may make -/
abbrev xMeth : Type := MethodName × ByteArray × Nat × Option FieldType × List Nat × List xB × xU
def xEv (P : List xMeth) (prim : xC) : Nat → xC
  | 0, _, _, _, _ => False
  | d + 1, y, vs, M, Q => match P[y]? with
    | some m => (match Nat.ble (xslots vs).length m.2.2.1 with
      | true => xW (xEv P prim d) m.2.2.2.2.2.1 Q 0 (xpad m.2.2.1 (xslots vs)) [] M m.2.2.2.2.2.2
      | false => False)
    | none => prim y vs M Q
