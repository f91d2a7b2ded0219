/-! the small machine is right of the real one: what holds between their states -/
def zGood : List Cond := lw_tbl.filter goodWord
def xin (w : Cond) : Bool := decide (w ∈ lw_tbl) && goodWord w
theorem xin_mem {w : Cond} (h : xin w = true) : w ∈ zGood := by
  simp only [xin, Bool.and_eq_true, decide_eq_true_eq] at h
  exact List.mem_filter.mpr ⟨h.1, h.2⟩
theorem zGood_in {w : Cond} (h : w ∈ zGood) : w ∈ lw_tbl ∧ ((w.onTables && w.keeps) = true ∨ ∃ ty, w = .arrayClass ty) := by
  obtain ⟨h1, h2⟩ := List.mem_filter.mp h
  exact ⟨h1, good_of_word h2⟩
def zNest : List Cond := [.methodLinkNest "RingCouncil" 23 n_Text_init "RingCouncil", .methodLinkNest "RingCouncil" 26 n_Tape_init "RingCouncil", .methodLinkNest "RingCouncil" 67 n_Heard_init "RingCouncil", .methodLinkNest "RingCouncil$Whole" 34 n_Heard_init "RingCouncil", .methodLinkNest "RingCouncil$Hall" 88 n_C_bounded "RingCouncil"]
