/-! the context; the heaps; the locals -/
def zTys (dA : Nat → ClassId) : List (ClassId × FieldType) := [(dA 0, .int), (dA 1, .boolean), (dA 2, .long), (dA 4, .object "RingCouncil$Text"), (dA 5, .object "RingCouncil$Moment"), (dA 6, .array .int)]
def zTx : List String := ["keep", "left", "right", "word", "rope", "if", "end", "or", "and", "not", "me", "kept", "gotleft", "gotright", "bell", "hour", "first", "rooms"]
def xAOA (U : State) : Prop := (Cond.arrayOver (.array .int)).before #[] U = true
theorem xAOA_moved {u U : State} (hvm : u.vm.Alike U.vm) (h : xAOA u) : xAOA U := by
  obtain ⟨comp, c, k, h1, h2, h3, h4, h5⟩ := arrayOver_specB h
  obtain ⟨k', hk', he⟩ := hvm.2.2 _ _ h3
  have hi : (U.vm.classes.findIdx? fun (x : Class) => match x.kind with | .array component _ => component == comp | _ => false) = some c := by
    refine (va_idx_bare U.vm comp).symm.trans ?_
    first | rw [hvm.bare_eq] | rw [← hvm.bare_eq]
    exact (va_idx_bare u.vm comp).trans h2
  have hkind : k'.kind = .array comp (.array .int) := by rw [he]; exact h4
  have f1 : U.vm.findClass (FieldType.array FieldType.int).toString = some comp := by rw [hvm.findClass]; exact h1
  have f2 : U.vm.findClass ("[" ++ (FieldType.array FieldType.int).toString) = some c := by rw [hvm.findClass]; exact h5
  unfold xAOA Cond.before Cond.holds
  simp only [Cond.value]
  rw [f1, Option.bind_some]
  refine (congrArg (fun o : Option Nat => (o.bind (fun c => (U.vm.classes[c]?).map fun (k : Class) => match k.kind with | .array _ ty => decide (ty = FieldType.array .int) && decide (U.vm.findClass ("[" ++ (FieldType.array FieldType.int).toString) = some c) | _ => false) == some true)) hi).trans ?_
  simp [hk', hkind, f2]
/-- what nothing changes: classes, arrays' classes, the heap at the start, the script, the constant texts -/
abbrev xGl : Type := va_G × (Nat → ClassId) × Heap × (Nat × Nat × (Nat → Int32)) × (Nat → Nat) × (Nat → Nat)
def xCtx (G : xGl) (U : State) : Prop := match G with
  | (D, dA, H0, (bS, LS, xsS), sa, sv) => va_K D zCl (zTys dA) U ∧ va_X bS LS xsS U H0 ∧ (∀ w ∈ zNest, va_Nw w U) ∧ va_AO "RingCouncil$Text" U ∧ va_AO "RingCouncil$Moment" U ∧ xAOA U ∧
      vk_S 18 (xtxt.map List.length) xtxt sa sv (fun q => H0.size ≤ q) U H0 ∧ (∀ j, j < 18 → vk_R "RingCouncil$Tape" (142 + 2 * j) (zTx.getD j "") (sa j) U) ∧
      va_Z "java/lang/String" "COMPACT_STRINGS" "Z" (.int 1) (fun q => H0.size ≤ q) U H0 ∧ va_Zq "jdk/internal/util/Preconditions" "SIOOBE_FORMATTER" "Ljava/util/function/BiFunction;" (fun q => H0.size ≤ q) U H0
theorem zNest_form {w : Cond} (h : w ∈ zNest) : ∃ a i x b, w = .methodLinkNest a i x b := by
  simp only [zNest, List.mem_cons, List.not_mem_nil, or_false] at h
  rcases h with h | h | h | h | h <;> exact ⟨_, _, _, _, h⟩
theorem xCtx_warm {G : xGl} {s U : State} (hW : s.WarmedH U.vm) (h : xCtx G s) : xCtx G U := by
  obtain ⟨D, dA, H0, ⟨bS, LS, xsS⟩, sa, sv⟩ := G
  obtain ⟨h1, h2, h3, h4, h5, h6, h7, h8, h9, h10⟩ := h
  refine ⟨h1.moved hW.alike, h2.moved hW.alike, fun w hw => ?_, h4.moved hW.alike, h5.moved hW.alike, xAOA_moved hW.alike h6, h7.moved hW.alike, fun j hj => (h8 j hj).warm hW, h9.moved hW.alike, h10.moved hW.alike⟩
  obtain ⟨a, i, x, b, rfl⟩ := zNest_form hw
  exact va_Nw.warmM hW (h3 _ hw)
theorem xCtx_same {G : xGl} {s U : State} (hv : U.vm = s.vm) (h : xCtx G s) : xCtx G U := by
  obtain ⟨D, dA, H0, ⟨bS, LS, xsS⟩, sa, sv⟩ := G
  obtain ⟨h1, h2, h3, h4, h5, h6, h7, h8, h9, h10⟩ := h
  have hA : s.vm.Alike U.vm := by rw [hv]; exact Vm.Alike.refl _
  refine ⟨h1.moved hA, h2.moved hA, fun w hw => ?_, h4.moved hA, h5.moved hA, xAOA_moved hA h6, h7.moved hA, fun j hj => (h8 j hj).same hv, h9.moved hA, h10.moved hA⟩
  obtain ⟨a, i, x, b, rfl⟩ := zNest_form hw
  exact va_Nw.same rfl hv.symm (h3 _ hw)
def xbool (x : vp_A) : Prop := ∃ f : Nat → Int32, x.2 = .inl f ∧ ∀ j, f j = 0 ∨ f j = 1
def xAt (G : xGl) (a : Nat) (e : xE) (H : Heap) : Prop := match e with
  | .inl (tc, x) => if tc = 7 then a = G.2.2.2.1.1 ∧ x = (G.2.2.2.1.2.1, .inl G.2.2.2.1.2.2) else H[a]? = some (vp_cell (G.2.1 tc) x) ∧ G.2.2.1.size ≤ a ∧ (tc = 1 → xbool x) ∧ tc < 7 ∧ ¬ tc = 3
  | .inr (ci, fs) => ci < 13 → ∃ r : vw_C, zCl[ci]? = some r ∧ t_OB a (G.1.1 ci) r.2.2 (G.1.2 ci) H (vp_V fs) ∧ fs.length = r.2.2 ∧ G.2.2.1.size ≤ a
def xH (G : xGl) (M : xM) (H : Heap) : Prop := (∀ a e, M a = some e → xAt G a e H) ∧ (∀ a, M a = none ↔ H.size ≤ a) ∧ (∀ a, a < G.2.2.1.size → H[a]? = G.2.2.1[a]?) ∧ G.2.2.1.size ≤ H.size
theorem xAt_kept {G : xGl} {a : Nat} {e : xE} {H H1 : Heap} (h : xAt G a e H) (hq : H1[a]? = H[a]?) : xAt G a e H1 := by
  unfold xAt at h ⊢
  split
  · dsimp only at h
    split at h
    · rename_i h7; rw [if_pos h7]; exact h
    · rename_i h7; rw [if_neg h7]; exact ⟨by rw [hq]; exact h.1, h.2⟩
  · intro hc
    obtain ⟨r, h1, h2, h3⟩ := h hc
    exact ⟨r, h1, h2.kept hq, h3⟩
theorem xH_set {G : xGl} {M : xM} {H H1 : Heap} {a : Nat} {e0 e : xE} (h : xH G M H) (ha : M a = some e0) (hb : G.2.2.1.size ≤ a) (hz : H1.size = H.size) (ho : ∀ q, q ≠ a → H1[q]? = H[q]?) (he : xAt G a e H1) : xH G (xset M a e) H1 := by
  obtain ⟨h1, h2, h3, h4⟩ := h
  refine ⟨fun q e' hq => ?_, fun q => ?_, fun q hq => ?_, by rw [hz]; exact h4⟩
  · unfold xset at hq
    split at hq
    · rename_i hqa; subst hqa; cases hq; exact he
    · rename_i hqa; exact xAt_kept (h1 q e' hq) (ho q hqa)
  · unfold xset
    rw [hz]
    split
    · rename_i hqa; subst hqa
      have : ¬ H.size ≤ q := fun hh => by rw [(h2 q).mpr hh] at ha; cases ha
      simp [this]
    · exact h2 q
  · rw [ho q (by omega)]; exact h3 q hq
theorem xH_top {G : xGl} {M : xM} {H : Heap} (h : xH G M H) : xtop M H.size := h.2.1
theorem xH_new {G : xGl} {M : xM} {H H1 : Heap} {e : xE} (h : xH G M H) (hz : H1.size = H.size + 1) (ho : ∀ q, q < H.size → H1[q]? = H[q]?) (he : xAt G H.size e H1) : xH G (xset M H.size e) H1 := by
  obtain ⟨h1, h2, h3, h4⟩ := h
  refine ⟨fun q e' hq => ?_, fun q => ?_, fun q hq => ?_, by omega⟩
  · unfold xset at hq
    split at hq
    · rename_i hqa; subst hqa; cases hq; exact he
    · have hlt : q < H.size := by
        rcases Nat.lt_or_ge q H.size with h5 | h5
        · exact h5
        · rw [(h2 q).mpr h5] at hq; cases hq
      exact xAt_kept (h1 q e' hq) (ho q hlt)
  · unfold xset
    rw [hz]
    split
    · rename_i hqa; subst hqa; simp
    · rename_i hqa; rw [h2 q]; omega
  · rw [ho q (by omega)]; exact h3 q hq
/-- the locals -/
def xlv (L : xL) : List (Nat × Value) := L.zipIdx.filterMap (fun q => q.1.map (fun v => (q.2, v)))
theorem xlv_mem {L : xL} {i : Nat} {v : Value} : (i, v) ∈ xlv L ↔ L[i]? = some (some v) := by
  unfold xlv
  rw [List.mem_filterMap]
  constructor
  · rintro ⟨⟨o, j⟩, h1, h2⟩
    rw [List.mem_zipIdx_iff_getElem?] at h1
    cases o with
    | none => simp at h2
    | some w => simp at h2; obtain ⟨rfl, rfl⟩ := h2; exact h1
  · intro h
    exact ⟨(some v, i), List.mem_zipIdx_iff_getElem?.mpr h, rfl⟩
def xLv (L : xL) (ls : Array Slot) (nL : Nat) : Prop := L.length = nL ∧ lv_has ls nL (xlv L)
theorem xLv_get {L : xL} {ls : Array Slot} {nL n : Nat} {v : Value} (h : xLv L ls nL) (hn : L[n]? = some (some v)) : ls[n]? = some (.val v) := h.2.2.2 (n, v) (xlv_mem.mpr hn)
theorem xmask_get : ∀ (b : Nat) (L : xL) (i : Nat) (v : Value), (xmask b L)[i]? = some (some v) → L[i]? = some (some v)
  | _, [], i, v, h => by simp [xmask] at h
  | b, o :: L, 0, v, h => by
    simp only [xmask, List.getElem?_cons_zero] at h ⊢
    split at h
    · exact h
    · cases h
  | b, o :: L, i + 1, v, h => by
    simp only [xmask, List.getElem?_cons_succ] at h ⊢
    exact xmask_get _ _ _ _ h
theorem xmask_len : ∀ (b : Nat) (L : xL), (xmask b L).length = L.length
  | _, [] => rfl
  | b, o :: L => by simp [xmask, xmask_len]
theorem xLv_mask {L : xL} {ls : Array Slot} {nL : Nat} (b : Nat) (h : xLv L ls nL) : xLv (xmask b L) ls nL :=
  ⟨by rw [xmask_len]; exact h.1, h.2.1, h.2.2.1, fun q hq => h.2.2.2 q (xlv_mem.mpr (xmask_get b L q.1 q.2 (xlv_mem.mp hq)))⟩
theorem xst1_spec {L L' : xL} {n : Nat} {v : Value} (h : xst1 L n v = some L') : n < L.length ∧ L' = L.set n (some v) ∧ ∀ j w, j + 1 = n → L[j]? = some (some w) → w.category = 1 := by
  unfold xst1 at h
  split at h
  · cases h
  · rename_i hb
    have hlt : n < L.length := by
      rcases Nat.lt_or_ge n L.length with q | q
      · exact q
      · rw [Nat.ble_eq_true_of_le q] at hb; cases hb
    split at h
    · cases h; exact ⟨hlt, rfl, fun j w hj => by omega⟩
    · rename_i j0
      split at h
      · cases h
      · cases h
      · rename_i h1 h2
        cases h
        refine ⟨hlt, rfl, fun j w hj hw => ?_⟩
        have : j = j0 := by omega
        subst this
        cases w with
        | long x => exact absurd hw (h1 x)
        | double x => exact absurd hw (h2 x)
        | _ => rfl
theorem xst2_spec {L L' : xL} {n : Nat} {v : Value} (h : xst2 L n v = some L') : n + 1 < L.length ∧ L' = (L.set n (some v)).set (n + 1) none ∧ ∀ j w, j + 1 = n → L[j]? = some (some w) → w.category = 1 := by
  unfold xst2 at h
  split at h
  · cases h
  · rename_i hb
    have hlt : n + 1 < L.length := by
      rcases Nat.lt_or_ge (n + 1) L.length with q | q
      · exact q
      · rw [Nat.ble_eq_true_of_le q] at hb; cases hb
    split at h
    · cases h; exact ⟨hlt, rfl, fun j w hj => by omega⟩
    · rename_i j0
      split at h
      · cases h
      · cases h
      · rename_i h1 h2
        cases h
        refine ⟨hlt, rfl, fun j w hj hw => ?_⟩
        have : j = j0 := by omega
        subst this
        cases w with
        | long x => exact absurd hw (h1 x)
        | double x => exact absurd hw (h2 x)
        | _ => rfl
theorem xLv_st1 {L L' : xL} {ls ls' : Array Slot} {nL n : Nat} {v : Value} (h : xLv L ls nL) (hs : xst1 L n v = some L') (h' : lv_has ls' nL ((n, v) :: (xlv L).filter (fun q => !(q.1 == n) && !(q.1 + 1 == n && q.2.category == 2)))) : xLv L' ls' nL := by
  obtain ⟨h1, rfl, h3⟩ := xst1_spec hs
  refine ⟨by rw [List.length_set]; exact h.1, h'.1, h'.2.1, fun q hq => h'.2.2 q ?_⟩
  obtain ⟨j, w⟩ := q
  rw [xlv_mem, List.getElem?_set] at hq
  split at hq
  · rename_i e; subst e
    simp [h1] at hq
    subst hq
    exact List.mem_cons_self
  · rename_i e
    refine List.mem_cons_of_mem _ (List.mem_filter.mpr ⟨xlv_mem.mpr hq, ?_⟩)
    by_cases hj : j + 1 = n
    · have := h3 j w hj hq
      simp [this, Ne.symm e]
    · simp [hj, Ne.symm e]
theorem xLv_st2 {L L' : xL} {ls ls' : Array Slot} {nL n : Nat} {v : Value} (h : xLv L ls nL) (hs : xst2 L n v = some L') (h' : lv_has ls' nL ((n, v) :: (xlv L).filter (fun q => !(q.1 == n) && (!(q.1 == n + 1) && !(q.1 + 1 == n && q.2.category == 2))))) : xLv L' ls' nL := by
  obtain ⟨h1, rfl, h3⟩ := xst2_spec hs
  refine ⟨by rw [List.length_set, List.length_set]; exact h.1, h'.1, h'.2.1, fun q hq => h'.2.2 q ?_⟩
  obtain ⟨j, w⟩ := q
  rw [xlv_mem, List.getElem?_set] at hq
  split at hq
  · simp at hq
  · rename_i e2
    rw [List.getElem?_set] at hq
    split at hq
    · rename_i e; subst e
      have h1' : n < L.length := by omega
      simp [h1'] at hq
      subst hq
      exact List.mem_cons_self
    · rename_i e
      refine List.mem_cons_of_mem _ (List.mem_filter.mpr ⟨xlv_mem.mpr hq, ?_⟩)
      by_cases hj : j + 1 = n
      · have := h3 j w hj hq
        simp [this, Ne.symm e, Ne.symm e2]
      · simp [hj, Ne.symm e, Ne.symm e2]
