/-! what is looked up once of each method: its bytes, its links, its targets -/
def xtg (pcs : List Nat) (pc : Nat) (off : Int) (b : Nat) : Bool := match pcs[b]? with
  | some t => decide ((pc : Int) + off = (t : Int))
  | none => false
def xtgs (pcs : List Nat) (pc : Nat) : List Int → List Nat → Bool
  | o :: os, b :: _ :: bs => xtg pcs pc o b && xtgs pcs pc os bs
  | [], [] => true
  | _, _ => false
def xrng (k : Int) : Bool := decide (-2147483648 ≤ k) && decide (k < 2147483648)
def xkfit (kd : Nat) (d : String) : Bool := match kd, parseFieldDescriptor d with
  | 0, some .int => true
  | 1, some .boolean => true
  | 2, some .long => true
  | 3, some (.object _) => true
  | 3, some (.array _) => true
  | _, _ => false
def xflw (own : String) (idx ci j : Nat) : List Cond := match zCl[ci]? with
  | some r => [.fieldLink own idx (r.2.1 j).1 (r.2.1 j).2.1 (r.2.1 j).2.2.1]
  | none => []
def xfl (ci j : Nat) : Bool := match zCl[ci]? with
  | some r => decide (j < r.2.2)
  | none => false
def xpl (own : String) (ini : Bool) (ci j kd : Nat) : Bool := match zCl[ci]? with
  | some r => xkfit kd (r.2.1 j).2.2.1 && (!(r.2.1 j).2.2.2 || (ini && decide ((r.2.1 j).1 = own)))
  | none => false
def xsg (y : MethodName) (n : Nat) : Bool := decide (y.cls ≠ "java/lang/invoke/MethodHandle") && (decide (y.cls ≠ "java/lang/invoke/VarHandle") && decide ((parseMethodDescriptor y.desc).map (fun d => d.parameters.length) = some n))
def xterm (i : Instr) : Bool := match i with
  | .goto _ => true
  | .ifCond _ _ => true
  | .if_icmp _ _ => true
  | .tableswitch _ _ _ _ => true
  | .lookupswitch _ _ => true
  | .ireturn => true
  | .lreturn => true
  | .areturn => true
  | .return_ => true
  | _ => false
/-- the words that an instruction rests on -/
def xwds (own : String) (i : xI) : List Cond := match i.1 with
  | .ldc idx => (match i.2.2 with
    | [v] => [.constant own idx (Int32.ofNat v)]
    | _ => [])
  | .ldc2_w idx => (match i.2.2 with
    | [v] => [.constantLong own idx (Int64.ofNat v)]
    | _ => [])
  | .getfield idx => (match i.2.2 with
    | [ci, j, _] => xflw own idx ci j
    | _ => [])
  | .putfield idx => (match i.2.2 with
    | [ci, j, _] => xflw own idx ci j
    | _ => [])
  | .new idx => (match i.2.2 with
    | ci :: _ => (match zCl[ci]? with
      | some r => [.classLink own idx r.1, .instantiable r.1 r.2.2, .initialized r.1]
      | none => [])
    | _ => [])
  | .newarray t => (match t with
    | .int => [.arrayClass .int]
    | .boolean => [.arrayClass .boolean]
    | .long => [.arrayClass .long]
    | _ => [])
  | .anewarray idx => (match i.2.2 with
    | [tc] => if tc = 4 then [.classLink own idx "RingCouncil$Text"] else [.classLink own idx "RingCouncil$Moment"]
    | _ => [])
  | .multianewarray idx _ => [.classLink own idx "[[I", .arrayClass .int]
  | .invokestatic idx => (match i.2.2 with
    | [0] => [.methodLink own idx arraycopyName, .native arraycopyName, .static arraycopyName, .initialized "java/lang/System"]
    | [f, y, _, _] => (match xP[y]? with
      | some m => [.static m.1, .initialized m.1.cls] ++ (if f = 1 then [.methodLink own idx m.1] else [])
      | none => [])
    | _ => [])
  | .invokevirtual idx => (match i.2.2 with
    | [_, y, _, _, _] => (match xP[y]? with
      | some m => [.methodLink own idx m.1, .instanceMethod m.1, .selects m.1.cls m.1 m.1, .initialized m.1.cls]
      | none => if y = 1100 then [.methodLink own idx ⟨"java/lang/String", "length", "()I"⟩] else [.methodLink own idx ⟨"java/lang/String", "charAt", "(I)C"⟩])
    | _ => [])
  | .invokespecial idx => (match i.2.2 with
    | [0] => [.methodLink own idx objectInit, .instanceMethod objectInit, .code objectInit ⟨#[0xb1]⟩ 1 none]
    | [f, y, _, _, _] => (match xP[y]? with
      | some m => [.instanceMethod m.1, .initialized m.1.cls] ++ (if f = 1 then [.methodLink own idx m.1] else [])
      | none => [])
    | _ => [])
  | _ => []
def xlnk (own : String) (ini : Bool) (ret : Option FieldType) (pcs : List Nat) (pc : Nat) (i : xI) : Bool := match i.1 with
  | .bipush _ => i.2.1 == 2
  | .sipush _ => i.2.1 == 3
  | .iload _ => i.2.1 == 2
  | .lload _ => i.2.1 == 2
  | .aload _ => i.2.1 == 2
  | .istore _ => i.2.1 == 2
  | .lstore _ => i.2.1 == 2
  | .astore _ => i.2.1 == 2
  | .iinc _ _ => i.2.1 == 3
  | .ldc idx => i.2.1 == 2 && (match i.2.2 with
    | [y, _] => decide (own = "RingCouncil$Tape") && (decide (1000 ≤ y) && (decide (y < 1018) && decide (idx = 142 + 2 * (y - 1000))))
    | _ => true)
  | .ldc2_w _ => i.2.1 == 3
  | .goto off => i.2.1 == 3 && (match i.2.2 with
    | [b, _] => xtg pcs pc off b
    | _ => true)
  | .ifCond _ off => i.2.1 == 3 && (match i.2.2 with
    | [bt, _, bf, _] => xtg pcs pc off bt && xtg pcs pc 3 bf
    | _ => true)
  | .if_icmp _ off => i.2.1 == 3 && (match i.2.2 with
    | [bt, _, bf, _] => xtg pcs pc off bt && xtg pcs pc 3 bf
    | _ => true)
  | .tableswitch df lo hi offs => (match i.2.2 with
    | d :: _ :: ts => xtg pcs pc df d && (xrng lo && (xrng hi && (decide (hi + 1 = lo + offs.toList.length) && xtgs pcs pc offs.toList ts)))
    | _ => true)
  | .lookupswitch df ps => (match i.2.2 with
    | d :: _ :: ts => xtg pcs pc df d && ((ps.toList.zip (ps.toList.drop 1)).all (fun (a, next) => a.1 < next.1) && (ps.toList.all (fun q => xrng q.1) && xtgs pcs pc (ps.toList.map (fun q => q.2)) ts))
    | _ => true)
  | .getfield _ => i.2.1 == 3 && (match i.2.2 with
    | [ci, j, _] => xfl ci j
    | _ => true)
  | .putfield _ => i.2.1 == 3 && (match i.2.2 with
    | [ci, j, kd] => xfl ci j && xpl own ini ci j kd
    | _ => true)
  | .new _ => i.2.1 == 3 && (match i.2.2 with
    | ci :: ks => (match zCl[ci]? with
      | some r => decide (ks.length = r.2.2) && (List.range r.2.2).all (fun j => xkfit (ks.getD j 9) (r.2.1 j).2.2.1)
      | none => false)
    | _ => true)
  | .newarray t => i.2.1 == 2 && (match t with
    | .int => true
    | .boolean => true
    | .long => true
    | _ => false)
  | .anewarray _ => i.2.1 == 3 && (match i.2.2 with
    | [tc] => decide (tc = 4 ∨ tc = 5)
    | _ => true)
  | .multianewarray _ dm => i.2.1 == 4 && decide (dm = 2)
  | .invokestatic idx => i.2.1 == 3 && (match i.2.2 with
    | [0] => true
    | [f, y, n, _] => (match xP[y]? with
      | some m => xsg m.1 n && (decide (m.2.2.2.2.2.2 = (0, 0)) && ((decide (f = 1) && decide (m.1.cls = own)) || (decide (¬ f = 1) && decide (Cond.methodLinkNest own idx m.1 "RingCouncil" ∈ zNest))))
      | none => false)
    | _ => true)
  | .invokevirtual _ => i.2.1 == 3 && (match i.2.2 with
    | [_, y, n, ci, _] => (match xP[y]? with
      | some m => xsg m.1 n && (decide (m.2.2.2.2.2.2 = (0, 0)) && (decide (ci < 13) && decide ((zCl[ci]?).map (fun r => r.1) = some m.1.cls)))
      | none => (decide (y = 1100) && decide (n = 0)) || (decide (y = 1101) && decide (n = 1)))
    | _ => true)
  | .invokespecial idx => i.2.1 == 3 && (match i.2.2 with
    | [0] => true
    | [f, y, n, nc, ns] => (match xP[y]? with
      | some m => xsg m.1 n && (decide (m.1.name = "<init>") && (decide (m.2.2.2.1 = none) && (decide (m.2.2.2.2.2.2 = (nc, ns)) && (decide (f = 1) || (decide (¬ f = 1) && decide (Cond.methodLinkNest own idx m.1 "RingCouncil" ∈ zNest))))))
      | none => false)
    | _ => true)
  | .ireturn => i.2.1 == 1 && (match i.2.2 with
    | [0] => decide (ret = some .int)
    | _ => decide (ret = some .boolean))
  | .lreturn => i.2.1 == 1 && decide (ret = some .long)
  | .areturn => i.2.1 == 1 && (match ret with
    | some (.object _) => true
    | _ => false)
  | .return_ => i.2.1 == 1 && decide (ret = none)
  | _ => i.2.1 == 1
def xchkB (own : String) (ini : Bool) (ret : Option FieldType) (pcs : List Nat) (nx : Nat) : Nat → List xI → Bool
  | pc, [] => decide (pcs[nx]? = some pc)
  | pc, [i] => xlnk own ini ret pcs pc i && (xterm i.1 || decide (pcs[nx]? = some (pc + i.2.1)))
  | pc, i :: is => xlnk own ini ret pcs pc i && xchkB own ini ret pcs nx (pc + i.2.1) is
/-- the blocks lie one behind the other -/
def xchkBs (own : String) (ini : Bool) (ret : Option FieldType) (pcs : List Nat) : Nat → List Nat → List xB → Bool
  | pc, p :: ps, b :: bs => decide (p = pc) && (xchkB own ini ret pcs b.2.1 p b.1 && xchkBs own ini ret pcs (pc + (b.1.map (fun i => i.2.1)).sum) ps bs)
  | _, [], [] => true
  | _, _, _ => false
def xflat (bs : List xB) : List (Instr × Nat) := bs.flatMap (fun b => b.1.map (fun i => (i.1, i.2.1)))
/-- a method is as it is printed -/
def xchkM (m : xMeth) : Bool := decide (plainName m.1.cls = true) && (decide (m.2.2.1 ≤ 40) && (decide (m.2.2.2.2.1[0]? = some 0) && (xchkBs m.1.cls (decide (m.1.name = "<init>")) m.2.2.2.1 m.2.2.2.2.1 0 m.2.2.2.2.1 m.2.2.2.2.2.1 && (Jvm.Free.DS.chk m.2.1.data.toList 0 (xflat m.2.2.2.2.2.1) && decide (((xflat m.2.2.2.2.2.1).map (fun i => i.2)).sum ≤ m.2.1.size)))))
/-- the tables, a list each -/
def zTb (k : Nat) : List Cond := match k with
  | 0 => k2_sels lw_privs
  | 1 => tables_1_1
  | 2 => tables_1_2
  | 3 => tables_1_3
  | 4 => tables_1_4
  | 5 => tables_1_5
  | 6 => tables_1_6
  | _ => tables_1_7
theorem zTb_in (k : Nat) {w : Cond} (h : w ∈ zTb k) : w ∈ lw_tbl := by
  unfold lw_tbl tables_1
  unfold zTb at h
  simp only [List.mem_append]
  split at h
  · exact Or.inl h
  · exact Or.inr (Or.inl h)
  · exact Or.inr (Or.inr (Or.inl h))
  · exact Or.inr (Or.inr (Or.inr (Or.inl h)))
  · exact Or.inr (Or.inr (Or.inr (Or.inr (Or.inl h))))
  · exact Or.inr (Or.inr (Or.inr (Or.inr (Or.inr (Or.inl h)))))
  · exact Or.inr (Or.inr (Or.inr (Or.inr (Or.inr (Or.inr (Or.inl h))))))
  · exact Or.inr (Or.inr (Or.inr (Or.inr (Or.inr (Or.inr (Or.inr h))))))
theorem xhint_mem (ws : List Cond) (is : List (Nat × Nat)) (h : ws = is.filterMap (fun i => (zTb i.1)[i.2]?)) (hg : ws.all goodWord = true) : ∀ w ∈ ws, w ∈ zGood := by
  intro w hw
  have h2 := List.all_eq_true.mp hg w hw
  rw [h] at hw
  obtain ⟨i, -, hi⟩ := List.mem_filterMap.mp hw
  exact List.mem_filter.mpr ⟨zTb_in i.1 (List.mem_of_getElem? hi), h2⟩
/-- all the words that a method rests on, its own code first -/
def xwM (m : xMeth) : List Cond := .code m.1 m.2.1 m.2.2.1 m.2.2.2.1 :: m.2.2.2.2.2.1.flatMap (fun b => b.1.flatMap (xwds m.1.cls))
def xok (m : xMeth) : Prop := xchkM m = true ∧ ∀ w ∈ xwM m, w ∈ zGood
theorem xok_of {m : xMeth} (h1 : xchkM m = true) (is : List (Nat × Nat)) (h2 : xwM m = is.filterMap (fun i => (zTb i.1)[i.2]?)) (h3 : (xwM m).all goodWord = true) : xok m := ⟨h1, xhint_mem _ _ h2 h3⟩
