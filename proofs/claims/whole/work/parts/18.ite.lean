theorem xite_mono {c : Prop} [Decidable c] {A B A' B' : Prop} (hA : A → A') (hB : B → B') (h : if c then A else B) : if c then A' else B' := by
  split
  · rename_i hc; rw [if_pos hc] at h; exact hA h
  · rename_i hc; rw [if_neg hc] at h; exact hB h
