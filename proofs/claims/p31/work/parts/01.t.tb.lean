/-! the words -/
/-- the good words of the tables -/
def TB : List Cond := lw_tbl.filter goodWord
theorem tb_lw {w : Cond} (h : w ∈ TB) : w ∈ lw_tbl := (List.mem_filter.mp h).1
theorem tb_good : GoodIn TB TB := fun w h => ⟨h, good_of_word (List.mem_filter.mp h).2⟩
theorem tb_of {w : Cond} (h : w ∈ tables_1) (g : goodWord w = true) : w ∈ TB := List.mem_filter.mpr ⟨List.mem_append_right _ h, g⟩
theorem tb_ofp {w : Cond} (h : w ∈ k2_sels lw_privs) (g : goodWord w = true) : w ∈ TB := List.mem_filter.mpr ⟨List.mem_append_left _ h, g⟩
theorem tb_t1 (w : Cond) (h : w ∈ tables_1_1) (g : goodWord w = true) : w ∈ TB := tb_of (List.mem_append_left _ h) g
theorem tb_t2 (w : Cond) (h : w ∈ tables_1_2) (g : goodWord w = true) : w ∈ TB := tb_of (List.mem_append_right _ (List.mem_append_left _ h)) g
theorem tb_t3 (w : Cond) (h : w ∈ tables_1_3) (g : goodWord w = true) : w ∈ TB := tb_of (List.mem_append_right _ (List.mem_append_right _ (h))) g
theorem tb_p1 (w : Cond) (h : w ∈ k2_sels lw_privs_1) (g : goodWord w = true) : w ∈ TB := by
  refine tb_ofp ?_ g
  obtain ⟨q, hq, rfl⟩ := List.mem_map.mp h
  have h := hq
  exact List.mem_map.mpr ⟨q, List.mem_append_left _ h, rfl⟩
theorem tb_p2 (w : Cond) (h : w ∈ k2_sels lw_privs_2) (g : goodWord w = true) : w ∈ TB := by
  refine tb_ofp ?_ g
  obtain ⟨q, hq, rfl⟩ := List.mem_map.mp h
  have h := hq
  exact List.mem_map.mpr ⟨q, List.mem_append_right _ (h), rfl⟩
