/-! where the pad is wrong: the two readers go side by side -/
def RS (v1 due : Int32) (ac : AC) : Prop := (v1 = 0 ∧ due = 0) ∨ (v1 = 1 ∧ due = 1) ∨ (v1 = 5 ∧ due = 2) ∨ (v1 = 2 ∧ due = 3) ∨ (v1 = 4 ∧ due = 4 ∧ aHour ac (aActs ac).toNatClampNeg = 20) ∨ (v1 = 3 ∧ due = 4 ∧ ¬ aHour ac (aActs ac).toNatClampNeg = 20)
theorem letter4 (c : Int32) : F_X4_isLetter c = if isL c then 1 else 0 := by
  have e65 : (65 : Int32).toInt = 65 := rfl
  have e71 : (71 : Int32).toInt = 71 := rfl
  unfold F_X4_isLetter
  by_cases h1 : c < 65
  · rw [if_pos h1, if_neg (fun e => by rw [Int32.lt_iff_toInt_lt] at h1; omega)]
  · rw [if_neg h1]
    by_cases h2 : (71 : Int32) ≤ c
    · rw [if_pos h2, if_neg (fun e => by rw [Int32.le_iff_toInt_le] at h2; omega)]
    · rw [if_neg h2, if_pos]
      rw [Int32.lt_iff_toInt_lt] at h1
      rw [Int32.le_iff_toInt_le] at h2
      exact ⟨by omega, by omega⟩
theorem l4y {c : Int32} (h : isL c) : F_X4_isLetter c = 1 := by rw [letter4, if_pos h]
theorem l4n {c : Int32} (h : ¬ isL c) : F_X4_isLetter c = 0 := by rw [letter4, if_neg h]
theorem nb0 (c : Int32) : F_X4_nextBehind 0 c = if isL c then 1 else if c = 46 then 0 else -1 := by
  unfold F_X4_nextBehind
  rw [if_pos rfl, bnd_def]
  by_cases hl : isL c
  · rw [if_neg (isL_ne hl (by decide)), l4y hl, if_neg h10, if_pos hl]
  · rw [if_neg hl, l4n hl, if_pos rfl]
theorem nb1 (c : Int32) : F_X4_nextBehind 1 c = if isL c then 0 else if c = 48 then 0 else if c = 33 then 0 else if c = 108 then 2 else if c = 114 then 2 else if c = 62 then 5 else -1 := by
  unfold F_X4_nextBehind F_X4_nextBehindLetter
  rw [if_neg h10, if_pos rfl, bnd_def]
  simp only [bnd_def]
  by_cases hl : isL c
  · rw [if_neg (isL_ne hl (by decide)), if_neg (isL_ne hl (by decide)), if_neg (isL_ne hl (by decide)), if_neg (isL_ne hl (by decide)), if_neg (isL_ne hl (by decide)), l4y hl, if_neg h10, if_pos hl]
  · rw [if_neg hl, l4n hl, if_pos rfl]
    by_cases q1 : c = 33
    · subst q1
      decide
    · by_cases q2 : c = 48
      · subst q2
        decide
      · by_cases q3 : c = 62
        · subst q3
          decide
        · rw [if_neg q1, if_neg q2, if_neg q3, if_neg q1, if_neg q2]
          by_cases q4 : c = 108
          · rw [if_pos q4, if_pos q4]
          · rw [if_neg q4, if_neg q4]
            by_cases q5 : c = 114
            · rw [if_pos q5, if_pos q5]
            · rw [if_neg q5, if_neg q5, if_neg q3]
theorem nb2 (c : Int32) : F_X4_nextBehind 2 c = if c = 50 then 4 else if F_X5_isWithin c 48 49 = 0 then -1 else 3 := by
  unfold F_X4_nextBehind
  rw [if_neg (by decide), if_neg (by decide), if_pos rfl, bnd_def]
theorem nb3 (c : Int32) : F_X4_nextBehind 3 c = if F_X5_isWithin c 48 57 = 0 then -1 else 0 := by
  unfold F_X4_nextBehind
  rw [if_neg (by decide), if_neg (by decide), if_neg (by decide), if_pos rfl, bnd_def]
theorem nb4 (c : Int32) : F_X4_nextBehind 4 c = if F_X5_isWithin c 48 51 = 0 then -1 else 0 := by
  unfold F_X4_nextBehind
  rw [if_neg (by decide), if_neg (by decide), if_neg (by decide), if_neg (by decide), if_pos rfl, bnd_def]
theorem nb5 (c : Int32) : F_X4_nextBehind 5 c = if isL c then 2 else -1 := by
  unfold F_X4_nextBehind
  rw [if_neg (by decide), if_neg (by decide), if_neg (by decide), if_neg (by decide), if_neg (by decide), bnd_def]
  by_cases hl : isL c
  · rw [l4y hl, if_neg h10, if_pos hl]
  · rw [l4n hl, if_pos rfl, if_neg hl]
theorem ro0 (ac : AC) (c : Int32) : (F_X6_readOn ac 0 c).1 = if isL c then 1 else if c = 46 then 0 else -6 := by
  unfold F_X6_readOn
  rw [if_pos rfl]
  by_cases hl : isL c
  · simp only [bnd, F_X6_begin, let1 hl, i10, if_false]
    rw [if_pos hl]
  · by_cases hd : c = 46
    · simp only [bnd, F_X6_begin, F_X6_close, let0 hl, if_true, eq_true hd]
      rw [if_neg hl]
    · simp only [bnd, F_X6_begin, F_X6_close, let0 hl, if_true, eq_false hd, if_false]
      rw [if_neg hl]
theorem ro1 (ac : AC) (c : Int32) : (F_X6_readOn ac 1 c).1 = if isL c then 0 else if c = 48 then 0 else if c = 33 then 0 else if c = 108 then 3 else if c = 114 then 3 else if c = 62 then 2 else -6 := by
  unfold F_X6_readOn
  rw [if_neg h10, if_pos rfl]
  unfold F_X6_behindLetter F_X6_close
  simp only [bnd_def]
  by_cases hl : isL c
  · rw [let1 hl, if_neg h10, if_pos hl]
  · rw [let0 hl, if_pos rfl, if_neg hl]
    by_cases q1 : c = 48
    · rw [if_pos q1, if_pos q1, if_pos q1]
    · rw [if_neg q1, if_neg q1]
      by_cases q2 : c = 33
      · rw [if_pos q2, if_neg q1, if_pos q2]
      · rw [if_neg q2, if_neg q2]
        by_cases q3 : c = 108
        · rw [if_pos q3, if_pos q3, if_pos q3, if_neg q1]
        · rw [if_neg q3, if_neg q3, if_neg q3]
          by_cases q4 : c = 114
          · rw [if_pos q4, if_pos q4, if_pos q4, if_neg q1, if_neg q3]
          · rw [if_neg q4, if_neg q4, if_neg q4]
            by_cases q5 : c = 62
            · rw [if_pos q5, if_pos q5, if_neg q1, if_neg q3]
            · rw [if_neg q5, if_neg q5, if_neg q1, if_neg q3]
theorem ro2 (ac : AC) (c : Int32) : (F_X6_readOn ac 2 c).1 = if isL c then 3 else -6 := by
  unfold F_X6_readOn
  rw [if_neg (by decide), if_neg (by decide), if_pos rfl, bnd_def]
  by_cases hl : isL c
  · rw [let1 hl, if_neg h10, if_pos hl]
  · rw [let0 hl, if_pos rfl, if_neg hl]
theorem ro3 (ac : AC) (c : Int32) : (F_X6_readOn ac 3 c).1 = (if F_X5_isWithin c 48 50 = 0 then -6 else 4) ∧ aActs (F_X6_readOn ac 3 c).2 = aActs ac ∧ aHour (F_X6_readOn ac 3 c).2 (aActs ac).toNatClampNeg = 10 * (c - 48) := by
  unfold F_X6_readOn
  rw [if_neg (by decide), if_neg (by decide), if_neg (by decide), if_pos rfl, bnd_def, inW (a := 48) (b := 50) (by decide) (by decide)]
  by_cases w : F_X5_isWithin c 48 50 = 0
  · rw [if_pos w, if_pos w]
    exact ⟨rfl, rfl, pk_us⟩
  · rw [if_neg w, if_neg w]
    exact ⟨rfl, rfl, pk_us⟩
theorem ro4 (ac : AC) (c : Int32) : (F_X6_readOn ac 4 c).1 = if aHour ac (aActs ac).toNatClampNeg = 20 then (if F_X5_isWithin c 48 51 = 0 then -6 else 0) else (if F_X5_isWithin c 48 57 = 0 then -6 else 0) := by
  unfold F_X6_readOn F_X6_close
  rw [if_neg (by decide), if_neg (by decide), if_neg (by decide), if_neg (by decide)]
  simp only [bnd_def]
  rw [inW (a := 48) (b := 51) (by decide) (by decide), inW (a := 48) (b := 57) (by decide) (by decide)]
  by_cases h : aHour ac (aActs ac).toNatClampNeg = 20
  · rw [if_pos h, if_pos h]
    by_cases w : F_X5_isWithin c 48 51 = 0
    · rw [if_pos w, if_pos w]
    · rw [if_neg w, if_neg w]
  · rw [if_neg h, if_neg h]
    by_cases w : F_X5_isWithin c 48 57 = 0
    · rw [if_pos w, if_pos w]
    · rw [if_neg w, if_neg w]
theorem rs_step {v1 due c : Int32} {ac : AC} (h : RS v1 due ac) : (F_X4_nextBehind v1 c = -1 ∧ ¬ 0 ≤ (F_X6_readOn ac due c).1) ∨ (¬ F_X4_nextBehind v1 c = -1 ∧ 0 ≤ (F_X6_readOn ac due c).1 ∧ RS (F_X4_nextBehind v1 c) (F_X6_readOn ac due c).1 (F_X6_readOn ac due c).2) := by
  have n6 : ¬ (0 : Int32) ≤ -6 := by decide
  have go : ∀ {v r : Int32} {u : AC}, (v = 0 ∧ r = 0) ∨ (v = 1 ∧ r = 1) ∨ (v = 5 ∧ r = 2) ∨ (v = 2 ∧ r = 3) → ¬ v = -1 ∧ 0 ≤ r ∧ RS v r u := by
    intro v r u h
    rcases h with ⟨rfl, rfl⟩ | ⟨rfl, rfl⟩ | ⟨rfl, rfl⟩ | ⟨rfl, rfl⟩
    · exact ⟨by decide, by decide, Or.inl ⟨rfl, rfl⟩⟩
    · exact ⟨by decide, by decide, Or.inr (Or.inl ⟨rfl, rfl⟩)⟩
    · exact ⟨by decide, by decide, Or.inr (Or.inr (Or.inl ⟨rfl, rfl⟩))⟩
    · exact ⟨by decide, by decide, Or.inr (Or.inr (Or.inr (Or.inl ⟨rfl, rfl⟩)))⟩
  rcases h with ⟨rfl, rfl⟩ | ⟨rfl, rfl⟩ | ⟨rfl, rfl⟩ | ⟨rfl, rfl⟩ | ⟨rfl, rfl, h20⟩ | ⟨rfl, rfl, h20⟩
  · have e1 := nb0 c
    have e2 := ro0 ac c
    by_cases hl : isL c
    · rw [if_pos hl] at e1 e2
      exact Or.inr (go (Or.inr (Or.inl ⟨e1, e2⟩)))
    · rw [if_neg hl] at e1 e2
      by_cases q : c = 46
      · rw [if_pos q] at e1 e2
        exact Or.inr (go (Or.inl ⟨e1, e2⟩))
      · rw [if_neg q] at e1 e2
        exact Or.inl ⟨e1, by rw [e2]; exact n6⟩
  · have e1 := nb1 c
    have e2 := ro1 ac c
    by_cases hl : isL c
    · rw [if_pos hl] at e1 e2
      exact Or.inr (go (Or.inl ⟨e1, e2⟩))
    · rw [if_neg hl] at e1 e2
      by_cases q1 : c = 48
      · rw [if_pos q1] at e1 e2
        exact Or.inr (go (Or.inl ⟨e1, e2⟩))
      · rw [if_neg q1] at e1 e2
        by_cases q2 : c = 33
        · rw [if_pos q2] at e1 e2
          exact Or.inr (go (Or.inl ⟨e1, e2⟩))
        · rw [if_neg q2] at e1 e2
          by_cases q3 : c = 108
          · rw [if_pos q3] at e1 e2
            exact Or.inr (go (Or.inr (Or.inr (Or.inr ⟨e1, e2⟩))))
          · rw [if_neg q3] at e1 e2
            by_cases q4 : c = 114
            · rw [if_pos q4] at e1 e2
              exact Or.inr (go (Or.inr (Or.inr (Or.inr ⟨e1, e2⟩))))
            · rw [if_neg q4] at e1 e2
              by_cases q5 : c = 62
              · rw [if_pos q5] at e1 e2
                exact Or.inr (go (Or.inr (Or.inr (Or.inl ⟨e1, e2⟩))))
              · rw [if_neg q5] at e1 e2
                exact Or.inl ⟨e1, by rw [e2]; exact n6⟩
  · have e1 := nb5 c
    have e2 := ro2 ac c
    by_cases hl : isL c
    · rw [if_pos hl] at e1 e2
      exact Or.inr (go (Or.inr (Or.inr (Or.inr ⟨e1, e2⟩))))
    · rw [if_neg hl] at e1 e2
      exact Or.inl ⟨e1, by rw [e2]; exact n6⟩
  · have e1 := nb2 c
    obtain ⟨e2, e3, e4⟩ := ro3 ac c
    have z48 : (48 : Int32).toInt = 48 := rfl
    have z49 : (49 : Int32).toInt = 49 := rfl
    have z50 : (50 : Int32).toInt = 50 := rfl
    by_cases w : 48 ≤ c.toInt ∧ c.toInt ≤ 50
    · rw [wi_yes (by rw [z48, z50]; exact w), if_neg h10] at e2
      right
      rcases tens3 w with rfl | rfl | rfl
      · rw [if_neg (by decide), if_neg (by decide)] at e1
        refine ⟨by rw [e1]; decide, by rw [e2]; decide, Or.inr (Or.inr (Or.inr (Or.inr (Or.inr ⟨e1, e2, ?_⟩))))⟩
        rw [e3, e4]
        decide
      · rw [if_neg (by decide), if_neg (by decide)] at e1
        refine ⟨by rw [e1]; decide, by rw [e2]; decide, Or.inr (Or.inr (Or.inr (Or.inr (Or.inr ⟨e1, e2, ?_⟩))))⟩
        rw [e3, e4]
        decide
      · rw [if_pos rfl] at e1
        refine ⟨by rw [e1]; decide, by rw [e2]; decide, Or.inr (Or.inr (Or.inr (Or.inr (Or.inl ⟨e1, e2, ?_⟩))))⟩
        rw [e3, e4]
        decide
    · rw [wi_no (by rw [z48, z50]; exact w), if_pos rfl] at e2
      have hc50 : ¬ c = 50 := fun e => w (by rw [e]; decide)
      rw [if_neg hc50, wi_no (by rw [z48, z49]; omega), if_pos rfl] at e1
      exact Or.inl ⟨e1, by rw [e2]; exact n6⟩
  · have e1 := nb4 c
    have e2 := ro4 ac c
    rw [if_pos h20] at e2
    by_cases w : F_X5_isWithin c 48 51 = 0
    · rw [if_pos w] at e1 e2
      exact Or.inl ⟨e1, by rw [e2]; exact n6⟩
    · rw [if_neg w] at e1 e2
      exact Or.inr (go (Or.inl ⟨e1, e2⟩))
  · have e1 := nb3 c
    have e2 := ro4 ac c
    rw [if_neg h20] at e2
    by_cases w : F_X5_isWithin c 48 57 = 0
    · rw [if_pos w] at e1 e2
      exact Or.inl ⟨e1, by rw [e2]; exact n6⟩
    · rw [if_neg w] at e1 e2
      exact Or.inr (go (Or.inl ⟨e1, e2⟩))
theorem sign_at {pp : PS} {pd : PD} (hP : PR pp pd) {i : Nat} (hi : i < (qPadMany pd).toNatClampNeg) : F_X4_signAt pp (nI i) = qPad pd i := by
  obtain ⟨p1, p2, p3⟩ := hP
  have h60 := in_61 p2
  have h0 := vp_nn p2
  unfold F_X4_signAt
  have z0 : (0 : Int32).toInt = 0 := rfl
  have z59 : (59 : Int32).toInt = 59 := rfl
  rw [bnd_def, wi_yes (by rw [z0, z59, nI_toInt (by omega)]; omega), if_neg h10, p1, if_neg, nI_clamp (by omega), p3 i hi]
  intro e
  have := le_gI e rfl h0 (by omega) (by omega)
  omega
theorem fault_run {pp : PS} {pd : PD} (hP : PR pp pd) : ∀ (n i : Nat) (v1 due : Int32) (ac : AC), i ≤ (qPadMany pd).toNatClampNeg → (qPadMany pd).toNatClampNeg < i + n → RS v1 due ac → L_X4_firstFault_4 pp n i v1 = (L_X6_fault_9 pd n i due ac).1 := by
  have hq2 := in_61 hP.2.1
  have hq0 := vp_nn hP.2.1
  intro n
  induction n with
  | zero => intro i v1 due ac h1 h2; omega
  | succ n ih =>
    intro i v1 due ac h1 h2 h3
    rw [L_X4_firstFault_4_s, L_X6_fault_9_s, hP.1]
    by_cases c : qPadMany pd ≤ nI i
    · rw [if_pos c, if_pos c]
      have hv : v1 = 0 ↔ due = 0 := by
        rcases h3 with ⟨rfl, rfl⟩ | ⟨rfl, rfl⟩ | ⟨rfl, rfl⟩ | ⟨rfl, rfl⟩ | ⟨rfl, rfl, _⟩ | ⟨rfl, rfl, _⟩ <;> decide
      by_cases d : due = 0
      · rw [if_pos d, if_pos (hv.mpr d)]
      · rw [if_neg d, if_neg (fun e => d (hv.mp e))]
    · have hi := lt_c c h1
      rw [if_neg c, if_neg c]
      simp only [bnd_def]
      rw [sign_at hP hi, nI_clamp (n := i) (by omega)]
      rcases rs_step (c := qPad pd i) h3 with ⟨g1, g2⟩ | ⟨g1, g2, g3⟩
      · rw [if_pos g1, if_neg g2]
      · rw [if_neg g1, if_pos g2]
        exact ih (i + 1) _ _ _ (by omega) (by omega) g3
theorem faultEq {pp : PS} {pd : PD} (hP : PR pp pd) (ac : AC) : F_X4_firstFault pp = (F_X6_fault pd ac).1 := by
  unfold F_X4_firstFault F_X6_fault
  rw [hP.1]
  exact fault_run hP _ _ _ _ _ (Nat.zero_le _) (by omega) (Or.inl ⟨rfl, rfl⟩)
section A8
variable {gg : GS} {k kE kF : KS} {pp : PS} {lv : LV} {sg : SG} {pd : PD} {kp : KP}
theorem api_fault {ac : AC} {r1 r2 : Int32} {u2 : AC} (hrel : REL gg k kE kF pp lv sg pd kp) (e1 : F_X5_fault pp = r1) (e2 : F_X6_fault pd ac = (r2, u2)) : r1 = r2 ∧ REL gg k kE kF pp lv sg pd kp := by
  refine ⟨?_, hrel⟩
  unfold F_X5_fault at e1
  rw [bnd_def, faultEq hrel.2.2.1 ac, e2] at e1
  exact e1.symm
end A8
