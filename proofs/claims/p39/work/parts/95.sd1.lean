set_option maxRecDepth 100000 in
theorem lw_cd2a : Cond.code yX12_init cX12_init 1 none ∈ tables_1_5 := List.mem_of_getElem? (i := 233) rfl
theorem lw_cd2b : Cond.code yX12_init cX12_init 1 none ∈ lw_tbl := by
  show _ ∈ k2_sels lw_privs ++ tables_1
  refine List.mem_append_right _ ?_
  show _ ∈ tables_1_1 ++ (tables_1_2 ++ (tables_1_3 ++ (tables_1_4 ++ (tables_1_5 ++ (tables_1_6 ++ (tables_1_7 ++ tables_1_8))))))
  exact List.mem_append_right _ (List.mem_append_right _ (List.mem_append_right _ (List.mem_append_right _ (List.mem_append_left _ lw_cd2a))))
theorem lw_cd2 : Cond.code yX12_init cX12_init 1 none ∈ TB := List.mem_filter.mpr ⟨lw_cd2b, rfl⟩
