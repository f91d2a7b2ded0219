/-! the small machine's meaning grows with what follows -/
theorem xgfI_mono {M : xM} {a ci k : Nat} {K K' : Int32 → Prop} (hK : ∀ x, K x → K' x) (h : xgfI M a ci k K) : xgfI M a ci k K' := by
  unfold xgfI at h ⊢
  split at h
  · refine ⟨h.1, ?_⟩
    have h2 := h.2
    split at h2
    · exact hK _ h2
    · exact h2.elim
  · exact h.elim
theorem xgfL_mono {M : xM} {a ci k : Nat} {K K' : Int64 → Prop} (hK : ∀ x, K x → K' x) (h : xgfL M a ci k K) : xgfL M a ci k K' := by
  unfold xgfL at h ⊢
  split at h
  · refine ⟨h.1, ?_⟩
    have h2 := h.2
    split at h2
    · exact hK _ h2
    · exact h2.elim
  · exact h.elim
theorem xgfR_mono {M : xM} {a ci k : Nat} {K K' : Nat → Prop} (hK : ∀ x, K x → K' x) (h : xgfR M a ci k K) : xgfR M a ci k K' := by
  unfold xgfR at h ⊢
  split at h
  · refine ⟨h.1, ?_⟩
    have h2 := h.2
    split at h2
    · exact hK _ h2
    · exact h2.elim
  · exact h.elim
theorem xfv_mono {M : xM} {a ci k kd : Nat} {K K' : Value → Prop} (hK : ∀ x, K x → K' x) (h : xfv M a ci k kd K) : xfv M a ci k kd K' := by
  unfold xfv at h ⊢
  split at h
  · exact xgfL_mono (fun _ => hK _) h
  · exact xgfR_mono (fun _ => hK _) h
  · exact xgfI_mono (fun _ => hK _) h
theorem xpf_mono {M : xM} {a ci k : Nat} {v : Value} {K K' : xM → Prop} (hK : ∀ x, K x → K' x) (h : xpf M a ci k v K) : xpf M a ci k v K' := by
  unfold xpf at h ⊢
  split at h
  · exact ⟨h.1, hK _ h.2⟩
  · exact h.elim
theorem xaI_mono {M : xM} {a : Nat} {i : Int32} {K K' : Int32 → Prop} (hK : ∀ x, K x → K' x) (h : xaI M a i K) : xaI M a i K' := by
  unfold xaI at h ⊢
  split at h
  · exact ⟨h.1, h.2.1, hK _ h.2.2⟩
  · exact h.elim
theorem xaZ_mono {M : xM} {a : Nat} {i : Int32} {K K' : Int32 → Prop} (hK : ∀ x, K x → K' x) (h : xaZ M a i K) : xaZ M a i K' := by
  unfold xaZ at h ⊢
  split at h
  · exact ⟨h.1, h.2.1, hK _ h.2.2⟩
  · exact h.elim
theorem xaL_mono {M : xM} {a : Nat} {i : Int32} {K K' : Int64 → Prop} (hK : ∀ x, K x → K' x) (h : xaL M a i K) : xaL M a i K' := by
  unfold xaL at h ⊢
  split at h
  · exact ⟨h.1, h.2.1, hK _ h.2.2⟩
  · exact h.elim
theorem xaR_mono {M : xM} {a : Nat} {i : Int32} {K K' : Nat → Prop} (hK : ∀ x, K x → K' x) (h : xaR M a i K) : xaR M a i K' := by
  unfold xaR at h ⊢
  split at h
  · refine ⟨h.1, h.2.1, ?_⟩
    have h2 := h.2.2
    split at h2
    · exact hK _ h2
    · exact h2.elim
  · exact h.elim
theorem xsI_mono {M : xM} {a : Nat} {i x : Int32} {K K' : xM → Prop} (hK : ∀ x, K x → K' x) (h : xsI M a i x K) : xsI M a i x K' := by
  unfold xsI at h ⊢
  split at h
  · exact ⟨h.1, h.2.1, hK _ h.2.2⟩
  · exact h.elim
theorem xsZ_mono {M : xM} {a : Nat} {i x : Int32} {K K' : xM → Prop} (hK : ∀ x, K x → K' x) (h : xsZ M a i x K) : xsZ M a i x K' := by
  unfold xsZ at h ⊢
  split at h
  · exact ⟨h.1, h.2.1, hK _ h.2.2⟩
  · exact h.elim
theorem xsL_mono {M : xM} {a : Nat} {i : Int32} {x : Int64} {K K' : xM → Prop} (hK : ∀ x, K x → K' x) (h : xsL M a i x K) : xsL M a i x K' := by
  unfold xsL at h ⊢
  split at h
  · exact ⟨h.1, h.2.1, hK _ h.2.2⟩
  · exact h.elim
theorem xsR_mono {M : xM} {a : Nat} {i : Int32} {v : Nat} {K K' : xM → Prop} (hK : ∀ x, K x → K' x) (h : xsR M a i v K) : xsR M a i v K' := by
  unfold xsR at h ⊢
  split at h
  · exact ⟨h.1, h.2.1, h.2.2.1, hK _ h.2.2.2⟩
  · exact h.elim
theorem xlen_mono {M : xM} {a : Nat} {K K' : Int32 → Prop} (hK : ∀ x, K x → K' x) (h : xlen M a K) : xlen M a K' := by
  unfold xlen at h ⊢
  split at h
  · exact hK _ h
  · exact h.elim
theorem xcopy_mono {M : xM} {a0 a : Nat} {sp dp n : Int32} {K K' : xM → Prop} (hK : ∀ x, K x → K' x) (h : xcopy M a0 sp a dp n K) : xcopy M a0 sp a dp n K' := by
  unfold xcopy at h ⊢
  split at h
  · obtain ⟨h1, h2, h3, h4, h5, h6, h7, h8⟩ := h
    exact ⟨h1, h2, h3, h4, h5, h6, h7, hK _ h8⟩
  · exact h.elim
theorem xalloc_mono {M : xM} {u : xU} {n : Nat} {e : xE} {K K' : Nat → xM → xU → Prop} (hK : ∀ q M u, K q M u → K' q M u) (h : xalloc M u n e K) : xalloc M u n e K' := ⟨h.1, h.2.1, fun q hq => hK _ _ _ (h.2.2 q hq)⟩
theorem xmul_mono {M : xM} {u : xU} {n k : Nat} {K K' : Nat → xM → xU → Prop} (hK : ∀ q M u, K q M u → K' q M u) (h : xmul M u n k K) : xmul M u n k K' := ⟨h.1, h.2.1, fun q hq => hK _ _ _ (h.2.2 q hq)⟩
theorem xrI_mono {K K' : Int32 → xM → Prop} (hK : ∀ r M, K r M → K' r M) (v : Option Value) (M : xM) (h : xrI K v M) : xrI K' v M := by
  unfold xrI at h ⊢
  split at h
  · exact hK _ _ h
  · exact h.elim
theorem xrL_mono {K K' : Int64 → xM → Prop} (hK : ∀ r M, K r M → K' r M) (v : Option Value) (M : xM) (h : xrL K v M) : xrL K' v M := by
  unfold xrL at h ⊢
  split at h
  · exact hK _ _ h
  · exact h.elim
theorem xrR_mono {K K' : Nat → xM → Prop} (hK : ∀ r M, K r M → K' r M) (v : Option Value) (M : xM) (h : xrR K v M) : xrR K' v M := by
  unfold xrR at h ⊢
  split at h
  · exact hK _ _ h
  · exact h.elim
theorem xrV_mono {K K' : xM → Prop} (hK : ∀ M, K M → K' M) (v : Option Value) (M : xM) (h : xrV K v M) : xrV K' v M := by
  unfold xrV at h ⊢
  split at h
  · exact hK _ h
  · exact h.elim
theorem xrk_mono {rk : Nat} {K K' : List Value → xM → Prop} (hK : ∀ r M, K r M → K' r M) (v : Option Value) (M : xM) (h : xrk rk K v M) : xrk rk K' v M := by
  unfold xrk at h ⊢
  split at h
  · exact xrI_mono (fun _ => hK _) _ _ h
  · exact xrV_mono (hK _) _ _ h
  · exact xrL_mono (fun _ => hK _) _ _ h
  · exact xrR_mono (fun _ => hK _) _ _ h
theorem xfit_mono {kd : Nat} {v : Value} {K K' : Prop} (hK : K → K') (h : xfit kd v K) : xfit kd v K' := by
  unfold xfit at h ⊢
  split at h
  · exact hK h
  · exact ⟨h.1, hK h.2⟩
  · exact hK h
  · exact hK h
  · exact h.elim
theorem xrm_mono {S : List Value} {K K' : Prop} (hK : K → K') (h : xrm S K) : xrm S K' := by
  unfold xrm at h ⊢
  split at h
  · exact hK h
  · exact h.elim
theorem xstk_mono {n : Nat} {S : List Value} {K K' : Prop} (hK : K → K') (h : xstk n S K) : xstk n S K' := by
  unfold xstk at h ⊢
  split at h
  · exact hK h
  · exact h.elim
theorem x1I_mono {S : List Value} {K K' : Int32 → List Value → Prop} (hK : ∀ a b, K a b → K' a b) (h : x1I S K) : x1I S K' := by
  unfold x1I at h ⊢
  split at h
  · exact hK _ _ h
  · exact h.elim
theorem x1L_mono {S : List Value} {K K' : Int64 → List Value → Prop} (hK : ∀ a b, K a b → K' a b) (h : x1L S K) : x1L S K' := by
  unfold x1L at h ⊢
  split at h
  · exact hK _ _ h
  · exact h.elim
theorem x1R_mono {S : List Value} {K K' : Nat → List Value → Prop} (hK : ∀ a b, K a b → K' a b) (h : x1R S K) : x1R S K' := by
  unfold x1R at h ⊢
  split at h
  · exact hK _ _ h
  · exact h.elim
theorem x2I_mono {S : List Value} {K K' : Int32 → Int32 → List Value → Prop} (hK : ∀ a b c, K a b c → K' a b c) (h : x2I S K) : x2I S K' := by
  unfold x2I at h ⊢
  split at h
  · exact hK _ _ _ h
  · exact h.elim
theorem x2L_mono {S : List Value} {K K' : Int64 → Int64 → List Value → Prop} (hK : ∀ a b c, K a b c → K' a b c) (h : x2L S K) : x2L S K' := by
  unfold x2L at h ⊢
  split at h
  · exact hK _ _ _ h
  · exact h.elim
theorem xIL_mono {S : List Value} {K K' : Int64 → Int32 → List Value → Prop} (hK : ∀ a b c, K a b c → K' a b c) (h : xIL S K) : xIL S K' := by
  unfold xIL at h ⊢
  split at h
  · exact hK _ _ _ h
  · exact h.elim
theorem xIR_mono {S : List Value} {K K' : Nat → Int32 → List Value → Prop} (hK : ∀ a b c, K a b c → K' a b c) (h : xIR S K) : xIR S K' := by
  unfold xIR at h ⊢
  split at h
  · exact hK _ _ _ h
  · exact h.elim
theorem xIIR_mono {S : List Value} {K K' : Nat → Int32 → Int32 → List Value → Prop} (hK : ∀ a b c d, K a b c d → K' a b c d) (h : xIIR S K) : xIIR S K' := by
  unfold xIIR at h ⊢
  split at h
  · exact hK _ _ _ _ h
  · exact h.elim
theorem xLIR_mono {S : List Value} {K K' : Nat → Int32 → Int64 → List Value → Prop} (hK : ∀ a b c d, K a b c d → K' a b c d) (h : xLIR S K) : xLIR S K' := by
  unfold xLIR at h ⊢
  split at h
  · exact hK _ _ _ _ h
  · exact h.elim
theorem xRIR_mono {S : List Value} {K K' : Nat → Int32 → Nat → List Value → Prop} (hK : ∀ a b c d, K a b c d → K' a b c d) (h : xRIR S K) : xRIR S K' := by
  unfold xRIR at h ⊢
  split at h
  · exact hK _ _ _ _ h
  · exact h.elim
theorem xVR_mono {S : List Value} {K K' : Nat → Value → List Value → Prop} (hK : ∀ a b c, K a b c → K' a b c) (h : xVR S K) : xVR S K' := by
  unfold xVR at h ⊢
  split at h
  · exact hK _ _ _ h
  · exact h.elim
theorem xcpS_mono {S : List Value} {K K' : Nat → Int32 → Nat → Int32 → Int32 → List Value → Prop} (hK : ∀ a b c d e f, K a b c d e f → K' a b c d e f) (h : xcpS S K) : xcpS S K' := by
  unfold xcpS at h ⊢
  split at h
  · exact hK _ _ _ _ _ _ h
  · exact h.elim
theorem xlI_mono {L : xL} {n : Nat} {K K' : Int32 → Prop} (hK : ∀ a, K a → K' a) (h : xlI L n K) : xlI L n K' := by
  unfold xlI at h ⊢
  split at h
  · exact hK _ h
  · exact h.elim
theorem xlL_mono {L : xL} {n : Nat} {K K' : Int64 → Prop} (hK : ∀ a, K a → K' a) (h : xlL L n K) : xlL L n K' := by
  unfold xlL at h ⊢
  split at h
  · exact hK _ h
  · exact h.elim
theorem xlR_mono {L : xL} {n : Nat} {K K' : Nat → Prop} (hK : ∀ a, K a → K' a) (h : xlR L n K) : xlR L n K' := by
  unfold xlR at h ⊢
  split at h
  · exact hK _ h
  · exact h.elim
theorem xs1_mono {L : xL} {n : Nat} {v : Value} {K K' : xL → Prop} (hK : ∀ a, K a → K' a) (h : xs1 L n v K) : xs1 L n v K' := by
  unfold xs1 at h ⊢
  split at h
  · exact hK _ h
  · exact h.elim
theorem xs2_mono {L : xL} {n : Nat} {v : Value} {K K' : xL → Prop} (hK : ∀ a, K a → K' a) (h : xs2 L n v K) : xs2 L n v K' := by
  unfold xs2 at h ⊢
  split at h
  · exact hK _ h
  · exact h.elim
section XMONO
variable {call call' : xC} {jmp jmp' : Nat → xK} {ret ret' : xQ}
theorem xif_mono {c : Prop} [Decidable c] (hj : ∀ b L S M u, jmp b L S M u → jmp' b L S M u) {L : xL} {S : List Value} {M : xM} {u : xU} {d : List Nat} (h : xif c jmp L S M u d) : xif c jmp' L S M u d := by
  unfold xif at h ⊢
  split at h
  · split at h
    · rename_i hc; rw [if_pos hc]; exact hj _ _ _ _ _ h
    · rename_i hc; rw [if_neg hc]; exact hj _ _ _ _ _ h
  · exact h.elim
theorem xsw_mono (hj : ∀ b L S M u, jmp b L S M u → jmp' b L S M u) {L : xL} {S : List Value} {M : xM} {u : xU} {x : Int32} {d md : Nat} : ∀ (k : Int) (ts : List Nat), xsw jmp L S M u x d md k ts → xsw jmp' L S M u x d md k ts
  | k, [] => fun h => hj _ _ _ _ _ h
  | k, [_] => fun h => hj _ _ _ _ _ h
  | k, t :: mt :: ts => fun h => by
    unfold xsw at h ⊢
    split at h
    · rename_i hc; rw [if_pos hc]; exact hj _ _ _ _ _ h
    · rename_i hc; rw [if_neg hc]; exact xsw_mono hj _ _ h
theorem xlk_mono (hj : ∀ b L S M u, jmp b L S M u → jmp' b L S M u) {L : xL} {S : List Value} {M : xM} {u : xU} {x : Int32} {d md : Nat} : ∀ (ks : List (Int × Int)) (ts : List Nat), xlk jmp L S M u x d md ks ts → xlk jmp' L S M u x d md ks ts
  | [], _ => fun h => by unfold xlk at h ⊢; exact hj _ _ _ _ _ h
  | _ :: _, [] => fun h => hj _ _ _ _ _ h
  | _ :: _, [_] => fun h => hj _ _ _ _ _ h
  | k :: ks, t :: mt :: ts => fun h => by
    unfold xlk at h ⊢
    split at h
    · rename_i hc; rw [if_pos hc]; exact hj _ _ _ _ _ h
    · rename_i hc; rw [if_neg hc]; exact xlk_mono hj _ _ h
theorem xT_mono (hc : ∀ y vs M Q Q', (∀ v M, Q v M → Q' v M) → call y vs M Q → call' y vs M Q') (hj : ∀ b L S M u, jmp b L S M u → jmp' b L S M u) (hr : ∀ v M, ret v M → ret' v M) (i : xI) {k k' : xK} (hk : ∀ L S M u, k L S M u → k' L S M u) {L : xL} {S : List Value} {M : xM} {u : xU} (h : xT call jmp ret i k L S M u) : xT call' jmp' ret' i k' L S M u := by
  obtain ⟨op, len, dt⟩ := i
  unfold xT at h ⊢
  cases op
  case ifCond cnd _ =>
    cases cnd <;> exact x1I_mono (fun _ _ => xif_mono hj) h
  case if_icmp cnd _ =>
    cases cnd <;> exact x2I_mono (fun _ _ _ => xif_mono hj) h
  case ldc =>
    dsimp only at h ⊢
    split at h
    · exact hk _ _ _ _ h
    · exact hc _ _ _ _ _ (xrR_mono (fun _ _ => hk _ _ _ _)) h
    · exact h.elim
  case ldc2_w =>
    dsimp only at h ⊢
    split at h
    · exact hk _ _ _ _ h
    · exact h.elim
  case dup =>
    dsimp only at h ⊢
    split at h
    · exact hk _ _ _ _ h
    · exact hk _ _ _ _ h
    · exact h.elim
  case pop =>
    dsimp only at h ⊢
    split at h
    · exact hk _ _ _ _ h
    · exact hk _ _ _ _ h
    · exact h.elim
  case goto =>
    dsimp only at h ⊢
    split at h
    · exact hj _ _ _ _ _ h
    · exact h.elim
  case tableswitch =>
    refine x1I_mono (fun x S h => ?_) h
    dsimp only at h ⊢
    split at h
    · exact xsw_mono hj _ _ h
    · exact h.elim
  case lookupswitch =>
    refine x1I_mono (fun x S h => ?_) h
    dsimp only at h ⊢
    split at h
    · exact xlk_mono hj _ _ h
    · exact h.elim
  case getfield =>
    dsimp only at h ⊢
    split at h
    · exact x1R_mono (fun _ _ => xfv_mono (fun _ => hk _ _ _ _)) h
    · exact h.elim
  case putfield =>
    dsimp only at h ⊢
    split at h
    · exact xVR_mono (fun _ _ _ => xfit_mono (xpf_mono (fun _ => hk _ _ _ _))) h
    · exact h.elim
  case new =>
    dsimp only at h ⊢
    split at h
    · exact xalloc_mono (fun _ _ _ => hk _ _ _ _) h
    · exact h.elim
  case newarray => exact x1I_mono (fun _ _ h => ⟨h.1, h.2.1, xalloc_mono (fun _ _ _ => hk _ _ _ _) h.2.2⟩) h
  case anewarray =>
    dsimp only at h ⊢
    split at h
    · exact x1I_mono (fun _ _ h => ⟨h.1, h.2.1, xalloc_mono (fun _ _ _ => hk _ _ _ _) h.2.2⟩) h
    · exact h.elim
  case multianewarray => exact x2I_mono (fun _ _ _ h => ⟨h.1, h.2.1, h.2.2.1, h.2.2.2.1, xmul_mono (fun _ _ _ => hk _ _ _ _) h.2.2.2.2⟩) h
  case invokestatic =>
    dsimp only at h ⊢
    split at h
    · exact xcpS_mono (fun _ _ _ _ _ _ => xrm_mono (xcopy_mono (fun _ => hk _ _ _ _))) h
    · exact xstk_mono (xrm_mono (hc _ _ _ _ _ (xrk_mono (fun _ _ => hk _ _ _ _)))) h
    · exact h.elim
  case invokevirtual =>
    dsimp only at h ⊢
    split at h
    · exact x1R_mono (fun _ _ => xrm_mono (fun h => ⟨h.1, hc _ _ _ _ _ (xrk_mono (fun _ _ => hk _ _ _ _)) h.2⟩)) h
    · exact h.elim
  case invokespecial =>
    dsimp only at h ⊢
    split at h
    · exact x1R_mono (fun _ _ => xrm_mono (hk _ _ _ _)) h
    · exact x1R_mono (fun _ _ => xrm_mono (fun h => ⟨h.1, h.2.1, hc _ _ _ _ _ (xrV_mono (fun _ => hk _ _ _ _)) h.2.2⟩)) h
    · exact h.elim
  case ireturn =>
    dsimp only at h ⊢
    split at h
    · exact hr _ _ h
    · exact ⟨h.1, hr _ _ h.2⟩
    · exact h.elim
  case lreturn =>
    dsimp only at h ⊢
    split at h
    · exact hr _ _ h
    · exact h.elim
  case areturn =>
    dsimp only at h ⊢
    split at h
    · exact hr _ _ h
    · exact h.elim
  case return_ =>
    dsimp only at h ⊢
    split at h
    · exact hr _ _ h
    · exact h.elim
  all_goals first
    | exact h.elim
    | exact hk _ _ _ _ h
    | exact xlI_mono (fun _ => hk _ _ _ _) h
    | exact xlL_mono (fun _ => hk _ _ _ _) h
    | exact xlR_mono (fun _ => hk _ _ _ _) h
    | exact x2I_mono (fun _ _ _ => hk _ _ _ _) h
    | exact x2I_mono (fun _ _ _ h => ⟨h.1, hk _ _ _ _ h.2⟩) h
    | exact x2L_mono (fun _ _ _ => hk _ _ _ _) h
    | exact x2L_mono (fun _ _ _ h => ⟨h.1, hk _ _ _ _ h.2⟩) h
    | exact xIL_mono (fun _ _ _ => hk _ _ _ _) h
    | exact x1I_mono (fun _ _ => hk _ _ _ _) h
    | exact x1L_mono (fun _ _ => hk _ _ _ _) h
    | exact x1I_mono (fun _ _ => xs1_mono (fun _ => hk _ _ _ _)) h
    | exact x1R_mono (fun _ _ => xs1_mono (fun _ => hk _ _ _ _)) h
    | exact x1L_mono (fun _ _ => xs2_mono (fun _ => hk _ _ _ _)) h
    | exact xlI_mono (fun _ => xs1_mono (fun _ => hk _ _ _ _)) h
    | exact xIR_mono (fun _ _ _ => hk _ _ _ _) h
    | exact xIR_mono (fun _ _ _ => xaI_mono (fun _ => hk _ _ _ _)) h
    | exact xIR_mono (fun _ _ _ => xaZ_mono (fun _ => hk _ _ _ _)) h
    | exact xIR_mono (fun _ _ _ => xaL_mono (fun _ => hk _ _ _ _)) h
    | exact xIR_mono (fun _ _ _ => xaR_mono (fun _ => hk _ _ _ _)) h
    | exact xIIR_mono (fun _ _ _ _ => xsI_mono (fun _ => hk _ _ _ _)) h
    | exact xIIR_mono (fun _ _ _ _ => xsZ_mono (fun _ => hk _ _ _ _)) h
    | exact xLIR_mono (fun _ _ _ _ => xsL_mono (fun _ => hk _ _ _ _)) h
    | exact xRIR_mono (fun _ _ _ _ => xsR_mono (fun _ => hk _ _ _ _)) h
    | exact x1R_mono (fun _ _ => xlen_mono (fun _ => hk _ _ _ _)) h
theorem xrun_mono (hc : ∀ y vs M Q Q', (∀ v M, Q v M → Q' v M) → call y vs M Q → call' y vs M Q') (hj : ∀ b L S M u, jmp b L S M u → jmp' b L S M u) (hr : ∀ v M, ret v M → ret' v M) (b : xB) {L : xL} {S : List Value} {M : xM} {u : xU} (h : xrun call jmp ret b L S M u) : xrun call' jmp' ret' b L S M u := by
  obtain ⟨is, nx, mx⟩ := b
  unfold xrun at h ⊢
  dsimp only at h ⊢
  have g : ∀ (is : List xI) (L : xL) (S : List Value) (M : xM) (u : xU), is.foldr (xT call jmp ret) (fun L S M u => jmp nx (xmask mx L) S M u) L S M u → is.foldr (xT call' jmp' ret') (fun L S M u => jmp' nx (xmask mx L) S M u) L S M u := by
    intro is
    induction is with
    | nil => intro L S M u h; exact hj _ _ _ _ _ h
    | cons i is ih => intro L S M u h; exact xT_mono hc hj hr i ih h
  exact g _ _ _ _ _ h
theorem xblk_mono (hc : ∀ y vs M Q Q', (∀ v M, Q v M → Q' v M) → call y vs M Q → call' y vs M Q') (hj : ∀ b L S M u, jmp b L S M u → jmp' b L S M u) (hr : ∀ v M, ret v M → ret' v M) {bs : List xB} {b : Nat} {L : xL} {S : List Value} {M : xM} {u : xU} (h : xblk call jmp ret bs b L S M u) : xblk call' jmp' ret' bs b L S M u := by
  unfold xblk at h ⊢
  split at h
  · exact xrun_mono hc hj hr _ h
  · exact h.elim
theorem xW_mono (hc : ∀ y vs M Q Q', (∀ v M, Q v M → Q' v M) → call y vs M Q → call' y vs M Q') (hr : ∀ v M, ret v M → ret' v M) {bs : List xB} {b : Nat} {L : xL} {S : List Value} {M : xM} {u : xU} (h : xW call bs ret b L S M u) : xW call' bs ret' b L S M u :=
  fun X hX => h X (fun b L S M u h => hX b L S M u (xblk_mono hc (fun _ _ _ _ _ h => h) hr h))
theorem xW_in (hc : ∀ y vs M Q Q', (∀ v M, Q v M → Q' v M) → call y vs M Q → call y vs M Q') {bs : List xB} {b : Nat} {L : xL} {S : List Value} {M : xM} {u : xU} (h : xblk call (xW call bs ret) ret bs b L S M u) : xW call bs ret b L S M u :=
  fun X hX => hX b L S M u (xblk_mono hc (fun _ _ _ _ _ h => h X hX) (fun _ _ h => h) h)
end XMONO
/-- the constant texts: their signs -/
def xtxt : List (List Int32) := [[107, 101, 101, 112], [108, 101, 102, 116], [114, 105, 103, 104, 116], [119, 111, 114, 100], [114, 111, 112, 101], [105, 102], [101, 110, 100], [111, 114], [97, 110, 100], [110, 111, 116], [109, 101], [107, 101, 112, 116], [103, 111, 116, 108, 101, 102, 116], [103, 111, 116, 114, 105, 103, 104, 116], [98, 101, 108, 108], [104, 111, 117, 114], [102, 105, 114, 115, 116], [114, 111, 111, 109, 115]]
def xprim (sa : Nat → Nat) : xC := fun y vs M Q =>
  (∃ j, j < 18 ∧ y = 1000 + j ∧ vs = [] ∧ Q (some (.ref (sa j))) M) ∨
  (∃ j, j < 18 ∧ y = 1100 ∧ vs = [.ref (sa j)] ∧ Q (some (.int (nI (xtxt.getD j []).length))) M) ∨
  (∃ j i, j < 18 ∧ y = 1101 ∧ i < (xtxt.getD j []).length ∧ vs = [.ref (sa j), .int (nI i)] ∧ Q (some (.int ((xtxt.getD j []).getD i 0))) M)
theorem xprim_mono (sa : Nat → Nat) (y : Nat) (vs : List Value) (M : xM) (Q Q' : xQ) (hQ : ∀ v M, Q v M → Q' v M) (h : xprim sa y vs M Q) : xprim sa y vs M Q' := by
  rcases h with ⟨j, h1, h2, h3, h4⟩ | ⟨j, h1, h2, h3, h4⟩ | ⟨j, i, h1, h2, h3, h4, h5⟩
  · exact Or.inl ⟨j, h1, h2, h3, hQ _ _ h4⟩
  · exact Or.inr (Or.inl ⟨j, h1, h2, h3, hQ _ _ h4⟩)
  · exact Or.inr (Or.inr ⟨j, i, h1, h2, h3, h4, hQ _ _ h5⟩)
theorem xEv_mono (P : List xMeth) (sa : Nat → Nat) : ∀ (d e : Nat), d ≤ e → ∀ (y : Nat) (vs : List Value) (M : xM) (Q Q' : xQ), (∀ v M, Q v M → Q' v M) → xEv P (xprim sa) d y vs M Q → xEv P (xprim sa) e y vs M Q'
  | 0, _, _, _, _, _, _, _, _, h => h.elim
  | d + 1, 0, he, _, _, _, _, _, _, _ => absurd he (Nat.not_succ_le_zero d)
  | d + 1, e + 1, he, y, vs, M, Q, Q', hQ, h => by
    unfold xEv at h ⊢
    split at h
    · split at h
      · exact xW_mono (xEv_mono P sa d e (Nat.le_of_succ_le_succ he)) hQ h
      · exact h.elim
    · exact xprim_mono sa _ _ _ _ _ hQ h
theorem xEv_post {P : List xMeth} {sa : Nat → Nat} {d y : Nat} {vs : List Value} {M : xM} {Q Q' : xQ} (h : xEv P (xprim sa) d y vs M Q) (hQ : ∀ v M, Q v M → Q' v M) : xEv P (xprim sa) d y vs M Q' := xEv_mono P sa d d (Nat.le_refl d) y vs M Q Q' hQ h
