theorem deed_in {dy : DS} {k r : Int32} (h : F_X2_isDeed dy k = r) (hn : ¬ r = 0) : vp_in k 99 := by
  subst h
  unfold F_X2_isDeed at hn
  dsimp only [bnd] at hn
  by_cases h1 : F_X5_isWithin k 0 98 = 0
  · rw [if_pos h1] at hn
    exact absurd rfl hn
  · exact wi_in rfl h1 (by decide)
