theorem xEv_post' {sa : Nat → Nat} {d : Nat} (y : Nat) (vs : List Value) (M : xM) (Q Q' : xQ) (hQ : ∀ v M, Q v M → Q' v M) (h : xEv xP (xprim sa) d y vs M Q) : xEv xP (xprim sa) d y vs M Q' := xEv_post h hQ
theorem xEv_in {P : List xMeth} {prim : xC} {d y : Nat} {vs : List Value} {M : xM} {Q : xQ} {m : xMeth} (hp : P[y]? = some m) (hl : Nat.ble (xslots vs).length m.2.2.1 = true) (h : xW (xEv P prim d) m.2.2.2.2.2.1 Q 0 (xpad m.2.2.1 (xslots vs)) [] M m.2.2.2.2.2.2) : xEv P prim (d + 1) y vs M Q := by
  unfold xEv
  rw [hp]
  dsimp only
  rw [hl]
  exact h
