/-! the JDK's own members that read a constant text -/
def sj_coder : MethodName := ⟨"java/lang/String", "coder", "()B"⟩
def sj_latin : MethodName := ⟨"java/lang/String", "isLatin1", "()Z"⟩
def sj_len : MethodName := ⟨"java/lang/String", "length", "()I"⟩
def sj_char : MethodName := ⟨"java/lang/String", "charAt", "(I)C"⟩
def sj_lchar : MethodName := ⟨"java/lang/StringLatin1", "charAt", "([BI)C"⟩
def sj_chk : MethodName := ⟨"java/lang/String", "checkIndex", "(II)V"⟩
def sj_pre : MethodName := ⟨"jdk/internal/util/Preconditions", "checkIndex", "(IILjava/util/function/BiFunction;)I"⟩
theorem sj_w (k i : Nat) {w : Cond} (h : (zTb k)[i]? = some w) (hg : goodWord w = true) : w ∈ zGood := List.mem_filter.mpr ⟨zTb_in k (List.mem_of_getElem? h), hg⟩
def sj_Q (v : Option Value) : Array Value → State → Outcome → State → Prop := fun _ st oc t => oc = .returned v ∧ t.heap = st.heap
def sj_P (G : xGl) (vs : List Value) : Array Value → State → Prop := fun a U => a = vs.toArray ∧ xCtx G U ∧ ∀ q, q < G.2.2.1.size → U.heap[q]? = G.2.2.1[q]?
theorem sj_blind (G : xGl) (vs : List Value) : FrameBlind (sj_P G vs) := fun a U g mk h => ⟨h.1, xCtx_same (s := U) (U := U.calling g mk a) rfl h.2.1, h.2.2⟩
def sj_R (n : Nat) : Room := { frames := n, cells := 0, slots := 0, locals := 60 * n + 20 }
set_option maxHeartbeats 4000000 in
set_option maxRecDepth 100000 in
theorem sj_pre_c (G : xGl) (l : Launch) (i n : Int32) (v : Value) (hv : v = .null ∨ ∃ t, v = .ref t) (h0 : ¬ i < 0) (h1 : i < n) : Met l sj_pre (.code sj_pre prog_19_method_11_code 3 (some .int) :: zGood) (sj_R 0) (sj_P G [.int i, .int n, v]) (sj_Q (some (.int i))) 0 0 (fun q => G.2.2.1.size ≤ q) := by
  refine Met.ofW (cc := prog_19_method_11_code) (maxL := 3) (ret := some .int) (by decide) rfl ?_
  intro p e s m args below meth c s₁ B hml hvv
  obtain ⟨rfl, hC, hH⟩ := hvv
  have hx := B.exec
  have hb := B.bytes
  have hr := B.returns
  have hlocks := B.notSynchronized
  have hcat : v.category = 1 := by rcases hv with rfl | ⟨t, rfl⟩ <;> rfl
  have hsl : (lg_sl [.int i, .int n, v]).length ≤ 3 := by rcases hv with rfl | ⟨t, rfl⟩ <;> exact Nat.le_of_ble_eq_true rfl
  have hl := lv_entry ([.int i, .int n, v]) (n := 3) hsl
  rw [lg_entry_eq]
  generalize (lg_sl ([.int i, .int n, v]) ++ List.replicate (3 - (lg_sl ([.int i, .int n, v])).length) Slot.unset).toArray = ls at hl ⊢
  have hl : lv_has ls 3 [(0, .int i), (1, .int n)] := lv_sub hl [0, 1] rfl
  refine lv_iload_n hx hb (by decide +kernel : decode prog_19_method_11_code 0 = .ok (.iload_n 0, 1)) rfl (lv_at hl 0 rfl) ?_
  refine lv_if_lt (tgt := 9) hx hb (by decide +kernel : decode prog_19_method_11_code 1 = .ok (.ifCond .lt 8, 3)) (by decide) (fun q => absurd q h0) (fun _ => ?_)
  refine lv_iload_n hx hb (by decide +kernel : decode prog_19_method_11_code 4 = .ok (.iload_n 0, 1)) rfl (lv_at hl 0 rfl) ?_
  refine lv_iload_n hx hb (by decide +kernel : decode prog_19_method_11_code 5 = .ok (.iload_n 1, 1)) rfl (lv_at hl 1 rfl) ?_
  refine lv_icmp_lt (tgt := 16) hx hb (by decide +kernel : decode prog_19_method_11_code 6 = .ok (.if_icmp .lt 10, 3)) (by decide) (fun _ => ?_) (fun q => absurd h1 q)
  refine lv_iload_n hx hb (by decide +kernel : decode prog_19_method_11_code 16 = .ok (.iload_n 0, 1)) rfl (lv_at hl 0 rfl) ?_
  exact W.iret (v := i) hx hb hr (fun t ht hW => ⟨rfl, ht⟩) (fun q hq => by cases hq) (by decide +kernel : decode prog_19_method_11_code 17 = .ok (.ireturn, 1))
theorem sj_code {y : MethodName} {b : ByteArray} {n : Nat} {r : Option FieldType} (h : Cond.code y b n r ∈ zGood) : GoodIn zGood (.code y b n r :: zGood) := goodIn_z (fun w h9 => by
  rcases List.mem_cons.mp h9 with h9 | h9
  · rw [h9]; exact h
  · exact h9)
section SJ
variable {p : Program} {l : Launch} {e : Env} {R : Room} {s : State} {m : MethodId} {args : Array Value} {below : List Frame} {meth : Method} {c : Code} {H : Heap} {locs : List Loc} {cells slots : Nat} {Q : State → Prop} {pc : Nat} {ls : Array Slot} {st rest : List Value}
/-- a call that changes nothing -/
theorem sj_call {free : Addr → Prop} {av : Array Value} {v : Option Value} (hr : va_Run p l e R s m args below meth c H locs cells slots 0 0 (F0 m pc ls st) rest (sj_Q v av) free) (G : xGl) (hf : ∀ q, free q → G.2.2.1.size ≤ q) (hq : ∀ q ∈ locs, G.2.2.1.size ≤ q.base)
    (kk : ∀ locs1 : List Loc, (∀ q ∈ locs1, G.2.2.1.size ≤ q.base) → W p l e R s m args below meth c H locs1 cells slots Q (F0 m (pc + 3) ls (v.toList ++ rest))) : W p l e R s m args below meth c H locs cells slots Q (F0 m pc ls st) := by
  intro T hT X
  obtain ⟨v', st₀, t, T', L', h0, X', hL, e1, e2, ⟨ho, hh⟩, stp⟩ := hr T hT X
  cases ho
  obtain ⟨t2, a1, b1⟩ := kk (locs ++ L') (fun q h9 => (List.mem_append.mp h9).elim (hq q) (fun h9 => hf _ (hL q h9))) T' (by rw [e1, hh, h0]) X'
  exact ⟨t2, stp t2 a1, b1⟩
end SJ
set_option maxHeartbeats 4000000 in
set_option maxRecDepth 100000 in
theorem sj_chk_c (G : xGl) (l : Launch) (i n : Int32) (h0 : ¬ i < 0) (h1 : i < n) : Met l sj_chk (.code sj_chk prog_15_method_155_code 2 none :: zGood) (sj_R 1) (sj_P G [.int i, .int n]) (sj_Q none) 0 0 (fun q => G.2.2.1.size ≤ q) := by
  refine Met.ofW (cc := prog_15_method_155_code) (maxL := 2) (ret := none) (by decide) rfl ?_
  intro p e s m args below meth c s₁ B hml hvv
  obtain ⟨rfl, hC, hH⟩ := hvv
  have hx := B.exec
  have hb := B.bytes
  have hr := B.returns
  have hts0 := atoms_spec (ws := .code sj_chk prog_15_method_155_code 2 none :: zGood) B.pre
  have hts : ∀ w ∈ zGood, w.before _ s = true := fun w h => hts0 w (List.mem_cons_of_mem _ h)
  have hown : s.vm.findClass "java/lang/String" = some m.cls := findClass_of_methodNamed B.named
  have hlocks := B.notSynchronized
  have hl := lv_entry ([.int i, .int n]) (n := 2) (Nat.le_of_ble_eq_true rfl)
  rw [lg_entry_eq]
  generalize (lg_sl ([.int i, .int n]) ++ List.replicate (2 - (lg_sl ([.int i, .int n])).length) Slot.unset).toArray = ls at hl ⊢
  have hl : lv_has ls 2 [(0, .int i), (1, .int n)] := hl
  obtain ⟨D, dA, H0, ⟨bS, LS, xsS⟩, sa, sv⟩ := G
  have hZq := hC.2.2.2.2.2.2.2.2.2
  have hZ : ∃ v, (v = .null ∨ ∃ t, v = .ref t) ∧ va_Z "jdk/internal/util/Preconditions" "SIOOBE_FORMATTER" "Ljava/util/function/BiFunction;" v (fun q => H0.size ≤ q) s s.heap := by
    rcases hZq with h | ⟨t, h⟩
    · exact ⟨.null, Or.inl rfl, h.kept (fun a ha _ => hH a ha)⟩
    · exact ⟨.ref t, Or.inr ⟨t, rfl⟩, h.kept (fun a ha _ => hH a ha)⟩
  obtain ⟨v, hv, hZ⟩ := hZ
  have hcat : v.category = 1 := by rcases hv with rfl | ⟨t, rfl⟩ <;> rfl
  refine lv_iload_n hx hb (by decide +kernel : decode prog_15_method_155_code 0 = .ok (.iload_n 0, 1)) rfl (lv_at hl 0 rfl) ?_
  refine lv_iload_n hx hb (by decide +kernel : decode prog_15_method_155_code 1 = .ok (.iload_n 1, 1)) rfl (lv_at hl 1 rfl) ?_
  refine va_gets (own := "java/lang/String") (ref := "jdk/internal/util/Preconditions") hx hb hZ va_S.rf hown (hts (.fieldLink "java/lang/String" 1053 "jdk/internal/util/Preconditions" "SIOOBE_FORMATTER" "Ljava/util/function/BiFunction;") (sj_w 3 87 rfl rfl)) (fun _ h => h) (by decide +kernel : decode prog_15_method_155_code 2 = .ok (.getstatic 1053, 3)) ?_
  refine sj_call (va_runS (As := [.int i, .int n, v]) (rest := []) (own := "java/lang/String") ⟨hx, hb, hml, hown, hts⟩ (sj_pre_c (D, dA, H0, (bS, LS, xsS), sa, sv) l i n v hv h0 h1) ⟨callB_of 3 hts (sj_code (sj_w 3 91 rfl rfl)) rfl rfl rfl (hts _ (sj_w 1 16 rfl rfl)) (hts (.methodLink "java/lang/String" 1059 sj_pre) (sj_w 3 89 rfl rfl)) (by decide +kernel) ⟨Nat.le_of_ble_eq_true rfl, Nat.le_of_ble_eq_true rfl⟩, hts _ (sj_w 3 90 rfl rfl)⟩ ⟨sj_blind _ _, fun U hU hW => ⟨rfl, xCtx_warm hW hC, by rw [hU]; exact hH⟩⟩ rfl rfl hl.1 rfl (lv_room (Nat.le_of_ble_eq_true rfl)) (by decide +kernel : decode prog_15_method_155_code 5 = .ok (.invokestatic 1059, 3)) ⟨Nat.le_of_ble_eq_true rfl, Nat.le_of_ble_eq_true rfl⟩) (D, dA, H0, (bS, LS, xsS), sa, sv) (fun _ h => h) (fun _ h => by cases h) (fun locs1 hq1 => ?_)
  refine lv_pop hx hb (by decide +kernel : decode prog_15_method_155_code 8 = .ok (.pop, 1)) rfl ?_
  exact W.vret hx hb hr (fun t ht hW => ⟨rfl, ht⟩) hq1 (by decide +kernel : decode prog_15_method_155_code 9 = .ok (.return_, 1))
set_option maxHeartbeats 4000000 in
set_option maxRecDepth 100000 in
theorem sj_coder_c (G : xGl) (l : Launch) (j : Nat) (hj : j < 18) : Met l sj_coder (.code sj_coder prog_15_method_152_code 1 (some .byte) :: zGood) (sj_R 0) (sj_P G [.ref (G.2.2.2.2.1 j)]) (sj_Q (some (.int 0))) 0 0 (fun q => G.2.2.1.size ≤ q) := by
  refine Met.ofW (cc := prog_15_method_152_code) (maxL := 1) (ret := some .byte) (by decide) rfl ?_
  intro p e s m args below meth c s₁ B hml hvv
  obtain ⟨rfl, hC, hH⟩ := hvv
  have hx := B.exec
  have hb := B.bytes
  have hr := B.returns
  have hts0 := atoms_spec (ws := .code sj_coder prog_15_method_152_code 1 (some .byte) :: zGood) B.pre
  have hts : ∀ w ∈ zGood, w.before _ s = true := fun w h => hts0 w (List.mem_cons_of_mem _ h)
  have hown : s.vm.findClass "java/lang/String" = some m.cls := findClass_of_methodNamed B.named
  have hlocks := B.notSynchronized
  obtain ⟨D, dA, H0, ⟨bS, LS, xsS⟩, sa, sv⟩ := G
  have hl := lv_entry ([.ref (sa j)]) (n := 1) (Nat.le_of_ble_eq_true rfl)
  rw [lg_entry_eq]
  generalize (lg_sl ([.ref (sa j)]) ++ List.replicate (1 - (lg_sl ([.ref (sa j)])).length) Slot.unset).toArray = ls at hl ⊢
  have hl : lv_has ls 1 [(0, .ref (sa j))] := hl
  have hZ := (hC.2.2.2.2.2.2.2.2.1).kept (H1 := s.heap) (fun a ha _ => hH a ha)
  have hF := (((hC.2.2.2.2.2.2.1).1 j hj).2.1).kept (H1 := s.heap) (fun a ha _ => hH a ha)
  refine va_gets (own := "java/lang/String") (ref := "java/lang/String") hx hb hZ va_S.rf hown (hts (.fieldLink "java/lang/String" 38 "java/lang/String" "COMPACT_STRINGS" "Z") (sj_w 3 71 rfl rfl)) (fun _ h => h) (by decide +kernel : decode prog_15_method_152_code 0 = .ok (.getstatic 38, 3)) ?_
  refine lv_if_eq (tgt := 13) hx hb (by decide +kernel : decode prog_15_method_152_code 3 = .ok (.ifCond .eq 10, 3)) (by decide) (fun h => absurd h (by decide)) (fun _ => ?_)
  refine lv_aload_n hx hb (by decide +kernel : decode prog_15_method_152_code 6 = .ok (.aload_n 0, 1)) rfl (lv_at hl 0 rfl) ?_
  refine vk_getf (own := "java/lang/String") (ref := "java/lang/String") hx hb hF va_S.rf hown (hts (.fieldLink "java/lang/String" 15 "java/lang/String" "coder" "B") (sj_w 7 37 rfl rfl)) (fun _ h => h) (by decide +kernel : decode prog_15_method_152_code 7 = .ok (.getfield 15, 3)) ?_
  refine lv_goto (tgt := 14) hx hb (by decide +kernel : decode prog_15_method_152_code 10 = .ok (.goto 4, 3)) (by decide) ?_
  exact W.zret (v := 0) (ty := .byte) hx hb hr rfl (fun t ht hW => ⟨rfl, ht⟩) (fun q hq => by cases hq) (by decide +kernel : decode prog_15_method_152_code 14 = .ok (.ireturn, 1))
set_option maxHeartbeats 4000000 in
set_option maxRecDepth 100000 in
theorem sj_latin_c (G : xGl) (l : Launch) (j : Nat) (hj : j < 18) : Met l sj_latin (.code sj_latin prog_15_method_154_code 1 (some .boolean) :: zGood) (sj_R 0) (sj_P G [.ref (G.2.2.2.2.1 j)]) (sj_Q (some (.int 1))) 0 0 (fun q => G.2.2.1.size ≤ q) := by
  refine Met.ofW (cc := prog_15_method_154_code) (maxL := 1) (ret := some .boolean) (by decide) rfl ?_
  intro p e s m args below meth c s₁ B hml hvv
  obtain ⟨rfl, hC, hH⟩ := hvv
  have hx := B.exec
  have hb := B.bytes
  have hr := B.returns
  have hts0 := atoms_spec (ws := .code sj_latin prog_15_method_154_code 1 (some .boolean) :: zGood) B.pre
  have hts : ∀ w ∈ zGood, w.before _ s = true := fun w h => hts0 w (List.mem_cons_of_mem _ h)
  have hown : s.vm.findClass "java/lang/String" = some m.cls := findClass_of_methodNamed B.named
  have hlocks := B.notSynchronized
  obtain ⟨D, dA, H0, ⟨bS, LS, xsS⟩, sa, sv⟩ := G
  have hl := lv_entry ([.ref (sa j)]) (n := 1) (Nat.le_of_ble_eq_true rfl)
  rw [lg_entry_eq]
  generalize (lg_sl ([.ref (sa j)]) ++ List.replicate (1 - (lg_sl ([.ref (sa j)])).length) Slot.unset).toArray = ls at hl ⊢
  have hl : lv_has ls 1 [(0, .ref (sa j))] := hl
  have hZ := (hC.2.2.2.2.2.2.2.2.1).kept (H1 := s.heap) (fun a ha _ => hH a ha)
  have hF := (((hC.2.2.2.2.2.2.1).1 j hj).2.1).kept (H1 := s.heap) (fun a ha _ => hH a ha)
  refine va_gets (own := "java/lang/String") (ref := "java/lang/String") hx hb hZ va_S.rf hown (hts (.fieldLink "java/lang/String" 38 "java/lang/String" "COMPACT_STRINGS" "Z") (sj_w 3 71 rfl rfl)) (fun _ h => h) (by decide +kernel : decode prog_15_method_154_code 0 = .ok (.getstatic 38, 3)) ?_
  refine lv_if_eq (tgt := 17) hx hb (by decide +kernel : decode prog_15_method_154_code 3 = .ok (.ifCond .eq 14, 3)) (by decide) (fun h => absurd h (by decide)) (fun _ => ?_)
  refine lv_aload_n hx hb (by decide +kernel : decode prog_15_method_154_code 6 = .ok (.aload_n 0, 1)) rfl (lv_at hl 0 rfl) ?_
  refine vk_getf (own := "java/lang/String") (ref := "java/lang/String") hx hb hF va_S.rf hown (hts (.fieldLink "java/lang/String" 15 "java/lang/String" "coder" "B") (sj_w 7 37 rfl rfl)) (fun _ h => h) (by decide +kernel : decode prog_15_method_154_code 7 = .ok (.getfield 15, 3)) ?_
  refine lv_if_ne (tgt := 17) hx hb (by decide +kernel : decode prog_15_method_154_code 10 = .ok (.ifCond .ne 7, 3)) (by decide) (fun h => absurd rfl h) (fun _ => ?_)
  refine lv_iconst (v := 1) hx hb (by decide +kernel : decode prog_15_method_154_code 13 = .ok (.iconst 1, 1)) (by decide) ?_
  refine lv_goto (tgt := 18) hx hb (by decide +kernel : decode prog_15_method_154_code 14 = .ok (.goto 4, 3)) (by decide) ?_
  exact W.zret (v := 1) (ty := .boolean) hx hb hr rfl (fun t ht hW => ⟨rfl, ht⟩) (fun q hq => by cases hq) (by decide +kernel : decode prog_15_method_154_code 18 = .ok (.ireturn, 1))
theorem sj_len_map (j : Nat) : (xtxt.map List.length).getD j 0 = (xtxt.getD j []).length := by
  rw [List.getD_eq_getElem?_getD, List.getD_eq_getElem?_getD, List.getElem?_map]
  cases xtxt[j]? <;> rfl
theorem sj_small (j : Nat) : (xtxt.getD j []).length ≤ 8 := by
  by_cases h : j < 18
  · have : ∀ j, j < 18 → (xtxt.getD j []).length ≤ 8 := by decide
    exact this j h
  · rw [List.getD_eq_getElem?_getD, List.getElem?_eq_none (by simpa [xtxt] using h)]
    simp
set_option maxHeartbeats 4000000 in
set_option maxRecDepth 100000 in
theorem sj_len_c (G : xGl) (l : Launch) (j : Nat) (hj : j < 18) : Met l sj_len (.code sj_len prog_15_method_54_code 1 (some .int) :: zGood) (sj_R 1) (sj_P G [.ref (G.2.2.2.2.1 j)]) (sj_Q (some (.int (nI (xtxt.getD j []).length)))) 0 0 (fun q => G.2.2.1.size ≤ q) := by
  refine Met.ofW (cc := prog_15_method_54_code) (maxL := 1) (ret := some .int) (by decide) rfl ?_
  intro p e s m args below meth c s₁ B hml hvv
  obtain ⟨rfl, hC, hH⟩ := hvv
  have hx := B.exec
  have hb := B.bytes
  have hr := B.returns
  have hts0 := atoms_spec (ws := .code sj_len prog_15_method_54_code 1 (some .int) :: zGood) B.pre
  have hts : ∀ w ∈ zGood, w.before _ s = true := fun w h => hts0 w (List.mem_cons_of_mem _ h)
  have hown : s.vm.findClass "java/lang/String" = some m.cls := findClass_of_methodNamed B.named
  have hlocks := B.notSynchronized
  obtain ⟨D, dA, H0, ⟨bS, LS, xsS⟩, sa, sv⟩ := G
  have hl := lv_entry ([.ref (sa j)]) (n := 1) (Nat.le_of_ble_eq_true rfl)
  rw [lg_entry_eq]
  generalize (lg_sl ([.ref (sa j)]) ++ List.replicate (1 - (lg_sl ([.ref (sa j)])).length) Slot.unset).toArray = ls at hl ⊢
  have hl : lv_has ls 1 [(0, .ref (sa j))] := hl
  have hO := (((hC.2.2.2.2.2.2.1).1 j hj).1).kept (H1 := s.heap) (fun a ha _ => hH a ha)
  have hV := (((hC.2.2.2.2.2.2.1).1 j hj).2.2.1).kept (H1 := s.heap) (fun a ha _ => hH a ha)
  have hT := (((hC.2.2.2.2.2.2.1).1 j hj).2.2.2).kept (H1 := s.heap) (fun a ha _ => hH a ha)
  obtain ⟨cell, h1, h2, h3, h4, h5, h6, h7⟩ := hT
  rw [sj_len_map] at h5
  refine lv_aload_n hx hb (by decide +kernel : decode prog_15_method_54_code 0 = .ok (.aload_n 0, 1)) rfl (lv_at hl 0 rfl) ?_
  refine vk_getf (own := "java/lang/String") (ref := "java/lang/String") hx hb hV va_S.rf hown (hts (.fieldLink "java/lang/String" 9 "java/lang/String" "value" "[B") (sj_w 7 36 rfl rfl)) (fun _ h => h) (by decide +kernel : decode prog_15_method_54_code 1 = .ok (.getfield 9, 3)) ?_
  refine W.alen (n := nI (xtxt.getD j []).length) hx hb h1 h2 h5 (g := F0 m 4 ls [.ref (sv j)]) rfl rfl (by decide +kernel : decode prog_15_method_54_code 4 = .ok (.arraylength, 1)) ?_
  refine W.eq (g2 := F0 m 5 ls [.int (nI (xtxt.getD j []).length)]) rfl ?_
  refine lv_aload_n hx hb (by decide +kernel : decode prog_15_method_54_code 5 = .ok (.aload_n 0, 1)) rfl (lv_at hl 0 rfl) ?_
  obtain ⟨cB, o1, o2, o3, -⟩ := hO
  refine sj_call (va_runV (As := []) (rest := [.int (nI (xtxt.getD j []).length)]) (own := "java/lang/String") (C := "java/lang/String") ⟨hx, hb, hml, hown, hts⟩ (sj_coder_c (D, dA, H0, (bS, LS, xsS), sa, sv) l j hj) ⟨callB_of 0 hts (sj_code (sj_w 3 70 rfl rfl)) rfl rfl rfl (hts _ (sj_w 1 14 rfl rfl)) (hts (.methodLink "java/lang/String" 335 sj_coder) (sj_w 3 67 rfl rfl)) (by decide +kernel) ⟨Nat.le_of_ble_eq_true rfl, Nat.le_of_ble_eq_true rfl⟩, hts _ (sj_w 3 68 rfl rfl), hts _ (sj_w 3 69 rfl rfl)⟩ ⟨sj_blind _ _, ⟨cB, o1, o2, o3⟩, fun U hU hW => ⟨rfl, xCtx_warm hW hC, by rw [hU]; exact hH⟩⟩ rfl rfl hl.1 rfl (lv_room (Nat.le_of_ble_eq_true rfl)) (by decide +kernel : decode prog_15_method_54_code 6 = .ok (.invokevirtual 335, 3)) ⟨Nat.le_of_ble_eq_true rfl, Nat.le_of_ble_eq_true rfl⟩) (D, dA, H0, (bS, LS, xsS), sa, sv) (fun _ h => h) (fun _ h => by cases h) (fun locs1 hq1 => ?_)
  refine lv_ishr hx hb (by decide +kernel : decode prog_15_method_54_code 9 = .ok (.ishr, 1)) ?_
  have e0 : nI (xtxt.getD j []).length >>> ((0 : Int32) &&& 31) = nI (xtxt.getD j []).length := sc_shr0 (by have := sj_small j; omega)
  rw [e0]
  exact W.iret hx hb hr (fun t ht hW => ⟨rfl, ht⟩) hq1 (by decide +kernel : decode prog_15_method_54_code 10 = .ok (.ireturn, 1))
theorem sj_byte (j i : Nat) (hj : j < 18) (hi : i < (xtxt.getD j []).length) : ((((xtxt.getD j []).getD i 0 &&& (Int16.ofInt 255).toInt32).toUInt32 % 65536).toInt32 = (xtxt.getD j []).getD i 0) ∧ narrow .char (.int ((xtxt.getD j []).getD i 0)) = .int ((xtxt.getD j []).getD i 0) := by
  have h8 := sj_small j
  have : ∀ j, j < 18 → ∀ i, i < 8 → ((((xtxt.getD j []).getD i 0 &&& (Int16.ofInt 255).toInt32).toUInt32 % 65536).toInt32 = (xtxt.getD j []).getD i 0) ∧ narrow .char (.int ((xtxt.getD j []).getD i 0)) = .int ((xtxt.getD j []).getD i 0) := by decide +kernel
  exact this j hj i (by omega)
set_option maxHeartbeats 4000000 in
set_option maxRecDepth 100000 in
theorem sj_lchar_c (G : xGl) (l : Launch) (j i : Nat) (hj : j < 18) (hi : i < (xtxt.getD j []).length) : Met l sj_lchar (.code sj_lchar prog_16_method_2_code 2 (some .char) :: zGood) (sj_R 2) (sj_P G [.ref (G.2.2.2.2.2 j), .int (nI i)]) (sj_Q (some (.int ((xtxt.getD j []).getD i 0)))) 0 0 (fun q => G.2.2.1.size ≤ q) := by
  refine Met.ofW (cc := prog_16_method_2_code) (maxL := 2) (ret := some .char) (by decide) rfl ?_
  intro p e s m args below meth c s₁ B hml hvv
  obtain ⟨rfl, hC, hH⟩ := hvv
  have hx := B.exec
  have hb := B.bytes
  have hr := B.returns
  have hts0 := atoms_spec (ws := .code sj_lchar prog_16_method_2_code 2 (some .char) :: zGood) B.pre
  have hts : ∀ w ∈ zGood, w.before _ s = true := fun w h => hts0 w (List.mem_cons_of_mem _ h)
  have hown : s.vm.findClass "java/lang/StringLatin1" = some m.cls := findClass_of_methodNamed B.named
  have hlocks := B.notSynchronized
  obtain ⟨D, dA, H0, ⟨bS, LS, xsS⟩, sa, sv⟩ := G
  have hl := lv_entry ([.ref (sv j), .int (nI i)]) (n := 2) (Nat.le_of_ble_eq_true rfl)
  rw [lg_entry_eq]
  generalize (lg_sl ([.ref (sv j), .int (nI i)]) ++ List.replicate (2 - (lg_sl ([.ref (sv j), .int (nI i)])).length) Slot.unset).toArray = ls at hl ⊢
  have hl : lv_has ls 2 [(0, .ref (sv j)), (1, .int (nI i))] := hl
  have hT := (((hC.2.2.2.2.2.2.1).1 j hj).2.2.2).kept (H1 := s.heap) (fun a ha _ => hH a ha)
  obtain ⟨cell, h1, h2, h3, h4, h5, h6, h7⟩ := hT
  rw [sj_len_map] at h4 h5 h6
  have h8 := sj_small j
  obtain ⟨e1, e2⟩ := sj_byte j i hj hi
  refine lv_iload_n hx hb (by decide +kernel : decode prog_16_method_2_code 0 = .ok (.iload_n 1, 1)) rfl (lv_at hl 1 rfl) ?_
  refine lv_aload_n hx hb (by decide +kernel : decode prog_16_method_2_code 1 = .ok (.aload_n 0, 1)) rfl (lv_at hl 0 rfl) ?_
  refine W.alen (n := nI (xtxt.getD j []).length) hx hb h1 h2 h5 (g := F0 m 2 ls [.ref (sv j), .int (nI i)]) rfl rfl (by decide +kernel : decode prog_16_method_2_code 2 = .ok (.arraylength, 1)) ?_
  refine W.eq (g2 := F0 m 3 ls [.int (nI (xtxt.getD j []).length), .int (nI i)]) rfl ?_
  refine sj_call (va_runS (As := [.int (nI i), .int (nI (xtxt.getD j []).length)]) (rest := []) (own := "java/lang/StringLatin1") ⟨hx, hb, hml, hown, hts⟩ (sj_chk_c (D, dA, H0, (bS, LS, xsS), sa, sv) l (nI i) (nI (xtxt.getD j []).length) (nI_pos (by omega)) (nI_lt hi (by omega))) ⟨callB_of 2 hts (sj_code (sj_w 3 86 rfl rfl)) rfl rfl rfl (hts _ (sj_w 1 14 rfl rfl)) (hts (.methodLink "java/lang/StringLatin1" 9 sj_chk) (sj_w 3 84 rfl rfl)) (by decide +kernel) ⟨Nat.le_of_ble_eq_true rfl, Nat.le_of_ble_eq_true rfl⟩, hts _ (sj_w 3 85 rfl rfl)⟩ ⟨sj_blind _ _, fun U hU hW => ⟨rfl, xCtx_warm hW hC, by rw [hU]; exact hH⟩⟩ rfl rfl hl.1 rfl (lv_room (Nat.le_of_ble_eq_true rfl)) (by decide +kernel : decode prog_16_method_2_code 3 = .ok (.invokestatic 9, 3)) ⟨Nat.le_of_ble_eq_true rfl, Nat.le_of_ble_eq_true rfl⟩) (D, dA, H0, (bS, LS, xsS), sa, sv) (fun _ h => h) (fun _ h => by cases h) (fun locs1 hq1 => ?_)
  refine lv_aload_n hx hb (by decide +kernel : decode prog_16_method_2_code 6 = .ok (.aload_n 0, 1)) rfl (lv_at hl 0 rfl) ?_
  refine lv_iload_n hx hb (by decide +kernel : decode prog_16_method_2_code 7 = .ok (.iload_n 1, 1)) rfl (lv_at hl 1 rfl) ?_
  refine W.bald (v := .int ((xtxt.getD j []).getD i 0)) hx hb h1 h2 h3 (by rw [nI_clamp (by omega)]; exact fun q => q.elim (nI_pos (by omega)) (fun q => by omega)) (by rw [nI_clamp (by omega)]; exact h6 i hi) (g := F0 m 8 ls [.int (nI i), .ref (sv j)]) rfl rfl (by decide +kernel : decode prog_16_method_2_code 8 = .ok (.baload, 1)) ?_
  refine W.eq (g2 := F0 m 9 ls [.int ((xtxt.getD j []).getD i 0)]) rfl ?_
  refine lv_sipush hx hb (by decide +kernel : decode prog_16_method_2_code 9 = .ok (.sipush 255, 3)) rfl ?_
  refine lv_iand hx hb (by decide +kernel : decode prog_16_method_2_code 12 = .ok (.iand, 1)) ?_
  refine lv_i2c hx hb (by decide +kernel : decode prog_16_method_2_code 13 = .ok (.i2c, 1)) e1 ?_
  exact W.zret (ty := .char) hx hb hr e2 (fun t ht hW => ⟨rfl, ht⟩) hq1 (by decide +kernel : decode prog_16_method_2_code 14 = .ok (.ireturn, 1))
set_option maxHeartbeats 4000000 in
set_option maxRecDepth 100000 in
theorem sj_char_c (G : xGl) (l : Launch) (j i : Nat) (hj : j < 18) (hi : i < (xtxt.getD j []).length) : Met l sj_char (.code sj_char prog_15_method_56_code 2 (some .char) :: zGood) (sj_R 3) (sj_P G [.ref (G.2.2.2.2.1 j), .int (nI i)]) (sj_Q (some (.int ((xtxt.getD j []).getD i 0)))) 0 0 (fun q => G.2.2.1.size ≤ q) := by
  refine Met.ofW (cc := prog_15_method_56_code) (maxL := 2) (ret := some .char) (by decide) rfl ?_
  intro p e s m args below meth c s₁ B hml hvv
  obtain ⟨rfl, hC, hH⟩ := hvv
  have hx := B.exec
  have hb := B.bytes
  have hr := B.returns
  have hts0 := atoms_spec (ws := .code sj_char prog_15_method_56_code 2 (some .char) :: zGood) B.pre
  have hts : ∀ w ∈ zGood, w.before _ s = true := fun w h => hts0 w (List.mem_cons_of_mem _ h)
  have hown : s.vm.findClass "java/lang/String" = some m.cls := findClass_of_methodNamed B.named
  have hlocks := B.notSynchronized
  obtain ⟨D, dA, H0, ⟨bS, LS, xsS⟩, sa, sv⟩ := G
  have hl := lv_entry ([.ref (sa j), .int (nI i)]) (n := 2) (Nat.le_of_ble_eq_true rfl)
  rw [lg_entry_eq]
  generalize (lg_sl ([.ref (sa j), .int (nI i)]) ++ List.replicate (2 - (lg_sl ([.ref (sa j), .int (nI i)])).length) Slot.unset).toArray = ls at hl ⊢
  have hl : lv_has ls 2 [(0, .ref (sa j)), (1, .int (nI i))] := hl
  obtain ⟨cB, o1, o2, o3, -⟩ := (((hC.2.2.2.2.2.2.1).1 j hj).1).kept (H1 := s.heap) (fun a ha _ => hH a ha)
  have hV := (((hC.2.2.2.2.2.2.1).1 j hj).2.2.1).kept (H1 := s.heap) (fun a ha _ => hH a ha)
  have e2 := (sj_byte j i hj hi).2
  refine lv_aload_n hx hb (by decide +kernel : decode prog_15_method_56_code 0 = .ok (.aload_n 0, 1)) rfl (lv_at hl 0 rfl) ?_
  refine sj_call (va_runV (As := []) (rest := []) (own := "java/lang/String") (C := "java/lang/String") ⟨hx, hb, hml, hown, hts⟩ (sj_latin_c (D, dA, H0, (bS, LS, xsS), sa, sv) l j hj) ⟨callB_of 0 hts (sj_code (sj_w 3 80 rfl rfl)) rfl rfl rfl (hts _ (sj_w 1 14 rfl rfl)) (hts (.methodLink "java/lang/String" 492 sj_latin) (sj_w 3 77 rfl rfl)) (by decide +kernel) ⟨Nat.le_of_ble_eq_true rfl, Nat.le_of_ble_eq_true rfl⟩, hts _ (sj_w 3 78 rfl rfl), hts _ (sj_w 3 79 rfl rfl)⟩ ⟨sj_blind _ _, ⟨cB, o1, o2, o3⟩, fun U hU hW => ⟨rfl, xCtx_warm hW hC, by rw [hU]; exact hH⟩⟩ rfl rfl hl.1 rfl (lv_room (Nat.le_of_ble_eq_true rfl)) (by decide +kernel : decode prog_15_method_56_code 1 = .ok (.invokevirtual 492, 3)) ⟨Nat.le_of_ble_eq_true rfl, Nat.le_of_ble_eq_true rfl⟩) (D, dA, H0, (bS, LS, xsS), sa, sv) (fun _ h => h) (fun _ h => by cases h) (fun locs1 hq1 => ?_)
  refine lv_if_eq (tgt := 16) hx hb (by decide +kernel : decode prog_15_method_56_code 4 = .ok (.ifCond .eq 12, 3)) (by decide) (fun h => absurd h (by decide)) (fun _ => ?_)
  refine lv_aload_n hx hb (by decide +kernel : decode prog_15_method_56_code 7 = .ok (.aload_n 0, 1)) rfl (lv_at hl 0 rfl) ?_
  have hS1 : va_S (fun q => H0.size ≤ q) s.heap s.heap locs1 := ⟨Nat.le_refl _, fun _ _ _ => rfl, hq1⟩
  refine vk_getf (own := "java/lang/String") (ref := "java/lang/String") hx hb hV hS1 hown (hts (.fieldLink "java/lang/String" 9 "java/lang/String" "value" "[B") (sj_w 7 36 rfl rfl)) (fun _ h => h) (by decide +kernel : decode prog_15_method_56_code 8 = .ok (.getfield 9, 3)) ?_
  refine lv_iload_n hx hb (by decide +kernel : decode prog_15_method_56_code 11 = .ok (.iload_n 1, 1)) rfl (lv_at hl 1 rfl) ?_
  refine sj_call (va_runS (As := [.ref (sv j), .int (nI i)]) (rest := []) (own := "java/lang/String") ⟨hx, hb, hml, hown, hts⟩ (sj_lchar_c (D, dA, H0, (bS, LS, xsS), sa, sv) l j i hj hi) ⟨callB_of 2 hts (sj_code (sj_w 3 83 rfl rfl)) rfl rfl rfl (hts _ (sj_w 1 15 rfl rfl)) (hts (.methodLink "java/lang/String" 495 sj_lchar) (sj_w 3 81 rfl rfl)) (by decide +kernel) ⟨Nat.le_of_ble_eq_true rfl, Nat.le_of_ble_eq_true rfl⟩, hts _ (sj_w 3 82 rfl rfl)⟩ ⟨sj_blind _ _, fun U hU hW => ⟨rfl, xCtx_warm hW hC, by rw [hU]; exact hH⟩⟩ rfl rfl hl.1 rfl (lv_room (Nat.le_of_ble_eq_true rfl)) (by decide +kernel : decode prog_15_method_56_code 12 = .ok (.invokestatic 495, 3)) ⟨Nat.le_of_ble_eq_true rfl, Nat.le_of_ble_eq_true rfl⟩) (D, dA, H0, (bS, LS, xsS), sa, sv) (fun _ h => h) hq1 (fun locs1 hq1 => ?_)
  exact W.zret (ty := .char) hx hb hr e2 (fun t ht hW => ⟨rfl, ht⟩) hq1 (by decide +kernel : decode prog_15_method_56_code 15 = .ok (.ireturn, 1))
