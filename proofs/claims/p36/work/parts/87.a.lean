/-! public methods of the reference proved by hand: their words -/
def wX12_feed : List sa_A := [([.inr (.inl 51), .inl (-2147483648, 2147483647), .inl (-2147483648, 2147483647), .inl (-2147483648, 2147483647), .inl (-2147483648, 2147483647), .inl (-2147483648, 2147483647)], [(some (.inl (-2147483648, 2147483647)), [])], [(51, 2, 3), (52, 0, 2000)])]
theorem sp_one {full : Int × Int} {as : List Value} {x : Int32} (h : full.1 ≤ x.toInt ∧ x.toInt ≤ full.2) : sp_ret [(some (.inl full), [])] as (some (.int x)) := ⟨_, List.mem_cons_self, ⟨x, rfl, h⟩, fun q hq => absurd hq List.not_mem_nil⟩
theorem sp_oneF {as : List Value} (x : Int32) : sp_ret [(some (.inl (-2147483648, 2147483647)), [])] as (some (.int x)) := sp_one ⟨ii_lo x, by have := ii_hi x; show x.toInt ≤ 2147483647; omega⟩
theorem nX12_feed (l : Launch) : am_M l TB NB vwCl SH KF yX12_feed cX12_feed 6 (some .int) 3 0 0 (sp_w JJ BB SH 92 wX12_feed) := by
  refine am_M.weak (mX12_feedw l) ?_
  rintro as n σ post ⟨rfl, hB, hJ, a, ha, has, h⟩
  have ea := List.mem_singleton.mp ha
  subst ea
  refine ⟨rfl, hB, hJ, has, fun v τ h1 h2 h3 h4 => h v τ h1 h2 h3 ?_⟩
  unfold fdX12_feed at h4
  split at h4
  · obtain ⟨_, x, rfl, _⟩ := h4
    exact sp_oneF x
  · obtain ⟨_, x, rfl, _⟩ := h4
    exact sp_oneF x
