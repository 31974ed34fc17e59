/-! an act read off the pad -/
theorem court_at {pp : PS} {pd : PD} (hP : PR pp pd) {i : Nat} (hi : i < (qPadMany pd).toNatClampNeg) : F_X4_courtierAt pp (nI i) = qPad pd i - 65 := by
  unfold F_X4_courtierAt
  rw [bnd_def, sign_at hP hi]
theorem hour_at {pp : PS} {pd : PD} (hP : PR pp pd) {i : Nat} (hi : i + 1 < (qPadMany pd).toNatClampNeg) : F_X4_hourAt pp (nI i) = 10 * (qPad pd i - 48) + (qPad pd (i + 1) - 48) := by
  unfold F_X4_hourAt
  rw [bnd_def, bnd_def, sign_at hP (by omega), show nI i + (1 : Int32) = nI (i + 1) from nI_add i 1, sign_at hP hi, Int32.sub_eq_add_neg, Int32.sub_eq_add_neg (a := qPad pd (i + 1)), Int32.add_assoc]
theorem wid_l {s : Nat → Int32} {p : Nat} (hl : isL (s p)) : wid s p = if s (p + 1) = 108 then 4 else if s (p + 1) = 114 then 4 else if s (p + 1) = 62 then 5 else 2 := by
  unfold wid
  rw [if_neg (isL_ne hl (by decide))]
theorem play_act {pp : PS} {pd : PD} {dy : DS} {kT : KS} {lv : LV} {dd : DD} {m p : Nat} {w a b h : Int32} (hP : PR pp pd) (hC : CR kT lv) (hD : DR dy dd m) (hm : m < 98) (hA : isAct (qPad pd) p w a b h) (hN : p + wid (qPad pd) p ≤ (qPadMany pd).toNatClampNeg) : AOK dy kT lv dd m w a b h (F_X2_playAct dy kT pp (nI p)) := by
  have h24 := isAct_in hA
  have n1 : nI p + (1 : Int32) = nI (p + 1) := nI_add p 1
  have n2 : nI p + (2 : Int32) = nI (p + 2) := nI_add p 2
  have n3 : nI p + (3 : Int32) = nI (p + 3) := nI_add p 3
  unfold F_X2_playAct
  rw [n1, n2, n3]
  rcases hA with ⟨g1, rfl, rfl, rfl, rfl⟩ | ⟨hl, rfl, g⟩
  · have hw : wid (qPad pd) p = 1 := by unfold wid; rw [if_pos g1]
    rw [bnd_def, sign_at hP (by omega), g1, if_pos rfl]
    exact a_hour hC hD _ _ _
  · have hw := wid_l hl
    have hw2 : 2 ≤ wid (qPad pd) p := by
      rw [hw]
      split
      · decide
      · split
        · decide
        · split <;> decide
    rw [bnd_def, sign_at hP (by omega), if_neg (isL_ne hl (by decide)), bnd_def, court_at hP (by omega), bnd_def, sign_at hP (i := p + 1) (by omega)]
    rcases g with ⟨f1, rfl, rfl, rfl⟩ | ⟨f1, rfl, rfl, rfl⟩ | ⟨f1, rfl, rfl, rfl⟩ | ⟨f1, rfl, rfl, f2⟩ | ⟨f1, rfl, rfl, f2⟩ | ⟨f1, rfl, f2, rfl, f3⟩
    · rw [if_neg (isL_ne f1 (by decide)), if_neg (isL_ne f1 (by decide)), if_neg (isL_ne f1 (by decide)), if_neg (isL_ne f1 (by decide)), if_neg (isL_ne f1 (by decide)), bnd_def, court_at hP (by omega)]
      exact a_two hC hD hm _ _ _
    · rw [f1, if_neg (by decide), if_pos rfl]
      exact a_off hC hD _ _ _
    · rw [f1, if_pos rfl]
      exact a_deed hC hD (by omega) _ _ _
    · rw [f1, if_pos rfl] at hw
      rw [f1, if_neg (by decide), if_neg (by decide), if_neg (by decide), if_pos rfl, bnd_def, hour_at hP (by omega), show qPad pd (p + 2 + 1) = qPad pd (p + 3) from rfl, ← f2.2.2.2.2]
      obtain ⟨x, hx, rfl⟩ := vp_in_of h24 (by decide)
      exact a_left hC hD _ _ hx
    · rw [f1, if_neg (by decide), if_pos rfl] at hw
      rw [f1, if_neg (by decide), if_neg (by decide), if_neg (by decide), if_neg (by decide), if_pos rfl, bnd_def, hour_at hP (by omega), show qPad pd (p + 2 + 1) = qPad pd (p + 3) from rfl, ← f2.2.2.2.2]
      obtain ⟨x, hx, rfl⟩ := vp_in_of h24 (by decide)
      exact a_right hC hD _ _ hx
    · rw [f1, if_neg (by decide), if_neg (by decide), if_pos rfl] at hw
      rw [f1, if_neg (by decide), if_neg (by decide), if_pos rfl, bnd_def, court_at hP (by omega), bnd_def, hour_at hP (by omega), show qPad pd (p + 3 + 1) = qPad pd (p + 4) from rfl, ← f3.2.2.2.2]
      obtain ⟨x, hx, rfl⟩ := vp_in_of h24 (by decide)
      exact a_give hC hD _ _ hx
theorem width_at {pp : PS} {pd : PD} (hP : PR pp pd) {p : Nat} (hN : p + wid (qPad pd) p ≤ (qPadMany pd).toNatClampNeg) : F_X4_widthAt pp (nI p) = nI (wid (qPad pd) p) := by
  have n1 : nI p + (1 : Int32) = nI (p + 1) := nI_add p 1
  unfold F_X4_widthAt
  have hw : wid (qPad pd) p = if qPad pd p = 46 then 1 else if qPad pd (p + 1) = 108 then 4 else if qPad pd (p + 1) = 114 then 4 else if qPad pd (p + 1) = 62 then 5 else 2 := rfl
  have hp : 1 ≤ wid (qPad pd) p := by
    rw [hw]
    split
    · decide
    · split
      · decide
      · split
        · decide
        · split <;> decide
  rw [bnd_def, sign_at hP (by omega)]
  by_cases q : qPad pd p = 46
  · rw [if_pos q]
    rw [if_pos q] at hw
    rw [hw]
    rfl
  · rw [if_neg q]
    rw [if_neg q] at hw
    have hw2 : 2 ≤ wid (qPad pd) p := by
      rw [hw]
      split
      · decide
      · split
        · decide
        · split <;> decide
    rw [bnd_def, n1, sign_at hP (by omega)]
    by_cases q1 : qPad pd (p + 1) = 62
    · rw [if_pos q1]
      rw [q1, if_neg (by decide), if_neg (by decide), if_pos rfl] at hw
      rw [hw]
      rfl
    · rw [if_neg q1]
      rw [if_neg q1] at hw
      by_cases q2 : qPad pd (p + 1) = 108
      · rw [if_pos q2]
        rw [if_pos q2] at hw
        rw [hw]
        rfl
      · rw [if_neg q2]
        rw [if_neg q2] at hw
        by_cases q3 : qPad pd (p + 1) = 114
        · rw [if_pos q3]
          rw [if_pos q3] at hw
          rw [hw]
          rfl
        · rw [if_neg q3]
          rw [if_neg q3] at hw
          rw [hw]
          rfl
