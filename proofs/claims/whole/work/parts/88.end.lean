theorem jStep_jR : jStep jR := by
  intro L xs v4 σ ρ fo h i0 i1 i2 i3
  exact ⟨st_0 h i1, st_1 h i1 i2 i3, st_2 h i1, st_3 h, st_4 h i1, st_5 h, st_6 h i1, st_7 h, st_8 h i1 i2 i3, st_9 h i1 i2, st_10 h i1, st_11 h i1, st_12 h i1 i2, st_13 h, st_14 h i1, st_15 h i1, st_16 h i1, st_17 h i1 i2⟩
theorem i_vc : Claimed_1_1 ∧ Claimed_1_2 := lw_vc jStep_jR jR_0
