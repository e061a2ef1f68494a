def wX8_isSign : List sa_A := [([.inl (-2147483648, 2147483647)], [(some (.inl (0, 1)), [])], [])]
theorem nX8_isSign (l : Launch) : am_M l TB NB vwCl SH KF yX8_isSign cX8_isSign 2 (some .boolean) 8 0 0 (sp_w JJ BB SH 92 wX8_isSign) := sorry
