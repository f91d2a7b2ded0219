set_option maxRecDepth 100000 in
theorem whole_start {p : Program} {e : Env} {s : State} {m : MethodId} {below : List Frame} {meth : Method} {c : Code} (l : Launch) {b L : Nat} {xs : Nat → Int32} (hL : L ≤ 3073) (C0 : lw_At p s m meth c b L xs) : W p l e room_1 s m #[Value.ref b] below meth c s.heap [] 0 0 (lw_Z below #[Value.ref b] s) (entryFrame m ([Value.ref b] : List Value).toArray 4) := by
  obtain ⟨hx, hb, hr, hml, hown, hts, hX, hbl, hlocks, hgv⟩ := C0
  obtain ⟨D, dA, sa, sv, hC⟩ := st_ctx hts hgv hX
  have hS : stR sa s.heap.size (M00 s.heap.size b L xs) := st_str hX hC.2.2.2.2.2.2.1
  have hM : M00 s.heap.size b L xs b = some (.inl (7, L, .inl xs)) := by
    unfold M00
    rw [if_pos hbl, if_pos rfl]
  have h := law_all (sa := sa) (Q := fun v _ => v = some (.int (nI 1))) hS M00_top hM hL (fun _ => rfl)
  have hg : ∀ w ∈ zGood, w.before #[Value.ref b] s = true := fun w hw => hts w (zGood_in hw).1
  rw [lg_entry_eq]
  refine xM_sound (G := (D, dA, s.heap, (b, L, xs), sa, sv)) (my := z_Law_law) (ret := fun v _ => v = some (.int (nI 1))) (d := 100) ck_Law_law cw_Law_law hx hb hml hown hg hC (fun h9 => absurd h9 (by decide)) (by decide) (xsound xok_all _ l 100) xok_all (fun v M1 H1 locs ls pc hv hH1 hq hok => ?_) _ _ _ _ h s.heap [] _ 0 0 st_H (xLv_entry (vs := [.ref b]) (n := 4) (Nat.le_of_ble_eq_true rfl)) (fun q hq => by cases hq) (by decide) (by decide)
  subst hv
  rcases hok with ⟨x, e1, hd, -⟩ | ⟨x, e1, -⟩ | ⟨a, n, e1, -⟩ | ⟨e1, -⟩
  · exact va_forget hq (lw_ret hx hb hr hlocks hd)
  · exact nomatch e1
  · exact nomatch e1
  · exact nomatch e1
