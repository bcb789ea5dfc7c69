/-- the tables' words that go down into every callee -/
def zTG : List Cond := lw_tbl.filter goodWord
theorem zTG_of {i : Nat} {w : Cond} (h : lw_tbl[i]? = some w) (hg : goodWord w = true) : w ∈ zTG := List.mem_filter.mpr ⟨List.mem_of_getElem? h, hg⟩
theorem zTG_good {w : Cond} (h : w ∈ zTG) : (w.onTables && w.keeps) = true ∨ ∃ ty, w = .arrayClass ty := good_of_word (List.mem_filter.mp h).2
theorem zTG_in : GoodIn zTG zTG := fun w h => ⟨h, zTG_good h⟩
/-- the classes whose objects the world holds -/
abbrev zcl : List vw_C := [(RX0, TX0, 2), (RX1, TX1, 4), (RX2, TX2, 3), (RX3, TX3, 6), (RX4, TX4, 14), (RX5, TX5, 2), (RX6, TX6, 15), (RX7, TX7, 16), (RX8, TX8, 8), (RX9, TX9, 10), (RX10, TX10, 13), (RX11, TX11, 12), (RX12, TX12, 82)]
theorem zcl_in : (zcl.all fun q => (u_ws q.1 q.2.1 q.2.2).all fun w => goodWord w && decide (w ∈ lw_tbl)) = true := by decide +kernel
theorem zcl_words {c : Nat} {q : vw_C} (h : zcl[c]? = some q) : ∀ w ∈ u_ws q.1 q.2.1 q.2.2, w ∈ zTG := by
  intro w hw
  have h1 := List.all_eq_true.mp zcl_in q (List.mem_of_getElem? h)
  have h2 := List.all_eq_true.mp h1 w hw
  simp only [Bool.and_eq_true, decide_eq_true_eq] at h2
  exact List.mem_filter.mpr ⟨h2.2, h2.1⟩
