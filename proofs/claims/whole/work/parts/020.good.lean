/-- the words of the table that a caller's state tells a callee's -/
def mG : List Cond := lw_tbl.filter goodWord
theorem mG_in {w : Cond} (i : Nat) (h : lw_tbl[i]? = some w) (hg : goodWord w = true) : w ∈ mG := List.mem_filter.mpr ⟨List.mem_of_getElem? h, hg⟩
