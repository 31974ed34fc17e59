/-! deed -/
section D9
variable {gg : GS} {k kE kF : KS} {pp : PS} {lv : LV} {sg : SG} {pd : PD} {kp : KP}
theorem last_n {m : Nat} (hm : m ≤ 99) : ((nI m).toInt64 - 1).toInt = (m : Int) - 1 := by
  have e1 : (1 : Int64).toInt = 1 := rfl
  rw [i64_nI (by omega), Int64.toInt_sub, pk_lT (by omega), e1]
  exact Int.bmod_eq_of_le (by omega) (by omega)
theorem api_deed {dy : DS} {kT : KS} {ac : AC} {dd : DD} {hd : HD} {le : LE} {bd : BD} {xk xw : Int32} {r1 r2 : Int32} {u1 : DS × KS} {u2 : LV × AC × DD × HD × LE × BD} (hrel : REL gg k kE kF pp lv sg pd kp) (e1 : F_X5_deed k pp dy kT xk xw = (r1, u1)) (e2 : F_X6_deed lv pd ac dd hd le bd xk xw = (r2, u2)) : r1 = r2 ∧ REL gg k kE kF pp u2.1 sg pd kp := by
  unfold F_X5_deed at e1
  unfold F_X6_deed at e2
  rw [bnd_def] at e1 e2
  rw [inW (a := 0) (b := 2) (by decide) (by decide)] at e2
  by_cases w : F_X5_isWithin xw 0 2 = 0
  · rw [if_pos w] at e1 e2
    cases e1
    cases e2
    exact ⟨rfl, hrel⟩
  · rw [if_neg w, bnd_def] at e1 e2
    obtain ⟨x, hx, rfl⟩ := vp_in_of (wi_in (n := 3) rfl w (by decide)) (by decide)
    rcases day3 hrel dy kT ac dd hd le bd with ⟨g1, g2⟩ | ⟨K, m, g, c1, c2, g5, d1, d2, d3, d4, c3, g4, g7, g6⟩ | ⟨lv', u, c1, g5, g6⟩
    · rw [g1, if_neg (show ¬ (0 : Int32) ≤ -5 by decide)] at e1
      rw [g2, if_neg (show ¬ (-5 : Int32) = -6 by decide)] at e2
      cases e1
      cases e2
      exact ⟨rfl, hrel⟩
    · obtain ⟨m1, m2, m3, m4, m5, m6⟩ := d2
      have z0 : (0 : Int64).toInt = 0 := rfl
      rw [c1, if_pos (by decide), bnd_def] at e1
      unfold F_X2_tellOfDeed at e1
      rw [bnd_def, isDeed_n m1 m3] at e1
      rw [g5, if_pos rfl, bnd_def, m2, in_eq, Int32.toInt_toInt64, last_n m3, z0] at e2
      by_cases q : 0 ≤ xk.toInt ∧ xk.toInt < m
      · rw [if_pos q, if_neg h10] at e1
        rw [if_pos (show 0 ≤ xk.toInt ∧ xk.toInt ≤ (m : Int) - 1 by omega), if_neg h10] at e2
        obtain ⟨j, hj, rfl⟩ := nI_nn q.1
        rw [nI_toInt hj] at q
        rw [nI_clamp hj] at e1 e2
        obtain ⟨y1, y2, y3⟩ := m6 d3 j (by omega)
        have hx3 : x = 0 ∨ x = 1 ∨ x = 2 := by omega
        rcases hx3 with rfl | rfl | rfl
        · rw [if_neg (by decide), if_pos (by decide)] at e1
          rw [if_pos (by decide)] at e2
          cases e1
          cases e2
          exact ⟨y1.symm, g6⟩
        · rw [if_neg (by decide), if_neg (by decide)] at e1
          rw [if_neg (by decide), if_pos (by decide)] at e2
          cases e1
          cases e2
          exact ⟨y2.symm, g6⟩
        · rw [if_pos (by decide)] at e1
          rw [if_neg (by decide), if_neg (by decide)] at e2
          cases e1
          cases e2
          exact ⟨y3.symm, g6⟩
      · rw [if_neg q, if_pos rfl] at e1
        rw [if_neg (show ¬ (0 ≤ xk.toInt ∧ xk.toInt ≤ (m : Int) - 1) by omega), if_pos rfl] at e2
        cases e1
        cases e2
        exact ⟨rfl, g6⟩
    · rw [c1, if_neg (by decide)] at e1
      rw [g5, if_neg (show ¬ (-3 : Int32) = -6 by decide)] at e2
      cases e1
      cases e2
      exact ⟨rfl, g6⟩
end D9
