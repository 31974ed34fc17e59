/-! THE PAD, READ: the acts that the signs spell, one behind another -/
abbrev isL (c : Int32) : Prop := 65 ≤ c.toInt ∧ c.toInt ≤ 70
theorem letter_eq (c : Int32) : F_X6_isLetter c = if isL c then 1 else 0 := by
  simp only [F_X6_isLetter, bnd]
  rw [in_eq, Int32.toInt_toInt64]
  rfl
theorem let1 {c : Int32} (h : isL c) : F_X6_isLetter c = 1 := by rw [letter_eq, if_pos h]
theorem let0 {c : Int32} (h : ¬ isL c) : F_X6_isLetter c = 0 := by rw [letter_eq, if_neg h]
theorem isL_ne {c v : Int32} (h : isL c) (hv : v.toInt < 65 ∨ 70 < v.toInt) : ¬ c = v := by
  intro e
  subst e
  omega
theorem i10 : ((1 : Int32) = 0) = False := eq_false (by decide)
def wid (s : Nat → Int32) (p : Nat) : Nat := if s p = 46 then 1 else if s (p + 1) = 108 then 4 else if s (p + 1) = 114 then 4 else if s (p + 1) = 62 then 5 else 2
def pos (s : Nat → Int32) : Nat → Nat
  | 0 => 0
  | j + 1 => pos s j + wid s (pos s j)
def ten (t h : Int32) : Prop := (48 ≤ t.toInt ∧ t.toInt ≤ 50) ∧ h = 10 * (t - 48)
def dig2 (t u h : Int32) : Prop := (48 ≤ t.toInt ∧ t.toInt ≤ 50) ∧ 48 ≤ u.toInt ∧ (t = 50 → u.toInt ≤ 51) ∧ u.toInt ≤ 57 ∧ h = 10 * (t - 48) + (u - 48)
def isAct (s : Nat → Int32) (p : Nat) (w a b h : Int32) : Prop :=
  (s p = 46 ∧ w = 6 ∧ a = 0 ∧ b = 0 ∧ h = 0) ∨
  (isL (s p) ∧ a = s p - 65 ∧ ((isL (s (p + 1)) ∧ w = 4 ∧ b = s (p + 1) - 65 ∧ h = 0) ∨ (s (p + 1) = 48 ∧ w = 2 ∧ b = 0 ∧ h = 0) ∨ (s (p + 1) = 33 ∧ w = 3 ∧ b = 0 ∧ h = 0) ∨ (s (p + 1) = 108 ∧ w = 0 ∧ b = 0 ∧ dig2 (s (p + 2)) (s (p + 3)) h) ∨ (s (p + 1) = 114 ∧ w = 1 ∧ b = 0 ∧ dig2 (s (p + 2)) (s (p + 3)) h) ∨ (s (p + 1) = 62 ∧ w = 5 ∧ isL (s (p + 2)) ∧ b = s (p + 2) - 65 ∧ dig2 (s (p + 3)) (s (p + 4)) h)))
def isA (s : Nat → Int32) (ac : AC) (j : Nat) : Prop := isAct s (pos s j) (aAct ac j) (aWho ac j) (aWhom ac j) (aHour ac j)
def part (s : Nat → Int32) (p : Nat) (w a b h : Int32) (i : Nat) (due : Int32) : Prop :=
  (due = 0 ∧ i = p) ∨
  (isL (s p) ∧ a = s p - 65 ∧ ((due = 1 ∧ i = p + 1 ∧ b = 0 ∧ h = 0) ∨ (due = 2 ∧ i = p + 2 ∧ s (p + 1) = 62 ∧ w = 5 ∧ h = 0) ∨
    (due = 3 ∧ ((i = p + 2 ∧ s (p + 1) = 108 ∧ w = 0 ∧ b = 0) ∨ (i = p + 2 ∧ s (p + 1) = 114 ∧ w = 1 ∧ b = 0) ∨ (i = p + 3 ∧ s (p + 1) = 62 ∧ w = 5 ∧ isL (s (p + 2)) ∧ b = s (p + 2) - 65))) ∨
    (due = 4 ∧ ((i = p + 3 ∧ s (p + 1) = 108 ∧ w = 0 ∧ b = 0 ∧ ten (s (p + 2)) h) ∨ (i = p + 3 ∧ s (p + 1) = 114 ∧ w = 1 ∧ b = 0 ∧ ten (s (p + 2)) h) ∨ (i = p + 4 ∧ s (p + 1) = 62 ∧ w = 5 ∧ isL (s (p + 2)) ∧ b = s (p + 2) - 65 ∧ ten (s (p + 3)) h)))))
def PI (s : Nat → Int32) (ac : AC) (i : Nat) (due : Int32) : Prop := ∃ k : Nat, aActs ac = nI k ∧ k ≤ pos s k ∧ pos s k ≤ i ∧ (∀ j, j < k → isA s ac j) ∧ part s (pos s k) (aAct ac k) (aWho ac k) (aWhom ac k) (aHour ac k) i due
theorem isA_of {s : Nat → Int32} {ac u : AC} {j : Nat} (h : isA s ac j) (h1 : aAct u j = aAct ac j) (h2 : aWho u j = aWho ac j) (h3 : aWhom u j = aWhom ac j) (h4 : aHour u j = aHour ac j) : isA s u j := by
  unfold isA
  rw [h1, h2, h3, h4]
  exact h
theorem tens3 {t : Int32} (h : 48 ≤ t.toInt ∧ t.toInt ≤ 50) : t = 48 ∨ t = 49 ∨ t = 50 := by
  have e1 : (48 : Int32).toInt = 48 := rfl
  have e2 : (49 : Int32).toInt = 49 := rfl
  have e3 : (50 : Int32).toInt = 50 := rfl
  rcases (show t.toInt = 48 ∨ t.toInt = 49 ∨ t.toInt = 50 by omega) with q | q | q
  · exact Or.inl (Int32.toInt_inj.mp (q.trans e1.symm))
  · exact Or.inr (Or.inl (Int32.toInt_inj.mp (q.trans e2.symm)))
  · exact Or.inr (Or.inr (Int32.toInt_inj.mp (q.trans e3.symm)))
theorem ten20 {t h : Int32} (e : ten t h) : h = 20 ↔ t = 50 := by
  obtain ⟨h1, rfl⟩ := e
  rcases tens3 h1 with rfl | rfl | rfl <;> decide
theorem dig2_in {t u h : Int32} (e : dig2 t u h) : vp_in h 24 := by
  obtain ⟨h1, h2, h3, h4, rfl⟩ := e
  have e48 : (48 : Int32).toInt = 48 := rfl
  have hu : (u - 48).toInt = u.toInt - 48 := by
    rw [Int32.toInt_sub, e48]
    exact Int.bmod_eq_of_le (by omega) (by omega)
  have key : ∀ c : Int32, 0 ≤ c.toInt → c.toInt ≤ 20 → (c.toInt = 20 → u.toInt ≤ 51) → c.toInt ≤ 20 ∧ (c.toInt ≤ 10 ∨ c.toInt = 20) → vp_in (c + (u - 48)) 24 := by
    intro c k1 k2 k3 k4
    have e : (c + (u - 48)).toInt = c.toInt + (u.toInt - 48) := by
      rw [i_add (by omega) (by omega), hu]
    rw [vp_in_iff, e]
    omega
  rcases tens3 h1 with rfl | rfl | rfl
  · exact key _ (by decide) (by decide) (fun q => absurd q (by decide)) (by decide)
  · exact key _ (by decide) (by decide) (fun q => absurd q (by decide)) (by decide)
  · exact key _ (by decide) (by decide) (fun _ => h3 rfl) (by decide)
theorem isAct_in {s : Nat → Int32} {p : Nat} {w a b h : Int32} (e : isAct s p w a b h) : vp_in h 24 := by
  rcases e with ⟨-, -, -, -, rfl⟩ | ⟨-, -, ⟨-, -, -, rfl⟩ | ⟨-, -, -, rfl⟩ | ⟨-, -, -, rfl⟩ | ⟨-, -, -, d⟩ | ⟨-, -, -, d⟩ | ⟨-, -, -, -, d⟩⟩
  · unfold vp_in; decide
  · unfold vp_in; decide
  · unfold vp_in; decide
  · unfold vp_in; decide
  · exact dig2_in d
  · exact dig2_in d
  · exact dig2_in d
theorem isAct_nd {s : Nat → Int32} {p : Nat} {w a b h : Int32} (e : isAct s p w a b h) : ndOf w ≤ wid s p ∧ 1 ≤ wid s p := by
  have h0 : 1 ≤ wid s p := by
    unfold wid
    repeat' split
    all_goals omega
  refine ⟨?_, h0⟩
  rcases e with ⟨-, rfl, -⟩ | ⟨hl, -, ⟨hl2, rfl, -⟩ | ⟨-, rfl, -⟩ | ⟨-, rfl, -⟩ | ⟨-, rfl, -⟩ | ⟨-, rfl, -⟩ | ⟨-, rfl, -⟩⟩
  · exact Nat.zero_le _
  · have e2 : wid s p = 2 := by
      unfold wid
      rw [if_neg (isL_ne hl (by decide)), if_neg (isL_ne hl2 (by decide)), if_neg (isL_ne hl2 (by decide)), if_neg (isL_ne hl2 (by decide))]
    rw [e2]
    decide
  · exact Nat.zero_le _
  · exact Nat.le_trans (by decide) h0
  · exact Nat.zero_le _
  · exact Nat.zero_le _
  · exact Nat.zero_le _
theorem PI_step {s : Nat → Int32} {ac u : AC} {i : Nat} {due r : Int32} (h : PI s ac i due) (hi : i < 60) (e : F_X6_readOn ac due (s i) = (r, u)) (hr : 0 ≤ r) : PI s u (i + 1) r := by
  obtain ⟨k, hk, hkp, hpi, hA, hp⟩ := h
  have hc : (aActs ac).toNatClampNeg = k := by rw [hk]; exact nI_clamp (by omega)
  have hk1 : aActs ac + 1 = nI (k + 1) := by rw [hk]; exact nI_1 k
  rcases hp with ⟨rfl, rfl⟩ | ⟨hl, ha, ⟨rfl, rfl, hb, hh⟩ | ⟨rfl, rfl, hs, hw, hh⟩ | ⟨rfl, hp⟩ | ⟨rfl, hp⟩⟩
  · -- the first sign of an act
    unfold F_X6_readOn at e
    rw [if_pos rfl] at e
    by_cases hl : isL (s (pos s k))
    · simp only [bnd, F_X6_begin, let1 hl, i10, if_false, hc] at e
      cases e
      refine ⟨k, hk, hkp, by omega, fun j hj => isA_of (hA j hj) rfl (pk_un (by omega)) (pk_un (by omega)) (pk_un (by omega)), Or.inr ⟨hl, pk_us, Or.inl ⟨rfl, rfl, pk_us, pk_us⟩⟩⟩
    · by_cases hd : s (pos s k) = 46
      · simp only [bnd, F_X6_begin, F_X6_close, let0 hl, if_true, eq_true hd, hc] at e
        cases e
        have hw1 : wid s (pos s k) = 1 := by unfold wid; rw [if_pos hd]
        refine ⟨k + 1, hk1, by show k + 1 ≤ pos s k + wid s (pos s k); omega, by show pos s k + wid s (pos s k) ≤ _; omega, fun j hj => ?_, Or.inl ⟨rfl, by show _ = pos s k + wid s (pos s k); omega⟩⟩
        rcases Nat.lt_or_ge j k with q | q
        · exact isA_of (hA j q) (pk_un (by omega)) (pk_un (by omega)) (pk_un (by omega)) (pk_un (by omega))
        · have ej : j = k := by omega
          subst ej
          exact Or.inl ⟨hd, pk_us, pk_us, pk_us, pk_us⟩
      · simp only [bnd, F_X6_begin, F_X6_close, let0 hl, if_true, eq_false hd, if_false] at e
        cases e
        exact absurd hr (by decide)
  · -- behind the letter
    unfold F_X6_readOn at e
    rw [if_neg (by decide), if_pos rfl] at e
    by_cases hl2 : isL (s (pos s k + 1))
    · simp only [bnd, F_X6_behindLetter, F_X6_close, let1 hl2, i10, if_false, hc] at e
      cases e
      have hw2 : wid s (pos s k) = 2 := by
        unfold wid
        rw [if_neg (isL_ne hl (by decide)), if_neg (isL_ne hl2 (by decide)), if_neg (isL_ne hl2 (by decide)), if_neg (isL_ne hl2 (by decide))]
      refine ⟨k + 1, hk1, by show k + 1 ≤ pos s k + wid s (pos s k); omega, by show pos s k + wid s (pos s k) ≤ _; omega, fun j hj => ?_, Or.inl ⟨rfl, by show _ = pos s k + wid s (pos s k); omega⟩⟩
      rcases Nat.lt_or_ge j k with q | q
      · exact isA_of (hA j q) (pk_un (by omega)) rfl (pk_un (by omega)) rfl
      · have ej : j = k := by omega
        subst ej
        exact Or.inr ⟨hl, ha, Or.inl ⟨hl2, pk_us, pk_us, hh⟩⟩
    · by_cases h48 : s (pos s k + 1) = 48
      · have h33 : ¬ s (pos s k + 1) = 33 := by rw [h48]; decide
        simp only [bnd, F_X6_behindLetter, F_X6_close, let0 hl2, if_true, eq_true h48, hc] at e
        cases e
        have hw2 : wid s (pos s k) = 2 := by
          unfold wid
          rw [if_neg (isL_ne hl (by decide)), if_neg (by rw [h48]; decide), if_neg (by rw [h48]; decide), if_neg (by rw [h48]; decide)]
        refine ⟨k + 1, hk1, by show k + 1 ≤ pos s k + wid s (pos s k); omega, by show pos s k + wid s (pos s k) ≤ _; omega, fun j hj => ?_, Or.inl ⟨rfl, by show _ = pos s k + wid s (pos s k); omega⟩⟩
        rcases Nat.lt_or_ge j k with q | q
        · exact isA_of (hA j q) (pk_un (by omega)) rfl rfl rfl
        · have ej : j = k := by omega
          subst ej
          exact Or.inr ⟨hl, ha, Or.inr (Or.inl ⟨h48, pk_us, hb, hh⟩)⟩
      by_cases h33 : s (pos s k + 1) = 33
      · simp only [bnd, F_X6_behindLetter, F_X6_close, let0 hl2, if_true, eq_false h48, eq_true h33, if_false, hc] at e
        cases e
        have hw2 : wid s (pos s k) = 2 := by
          unfold wid
          rw [if_neg (isL_ne hl (by decide)), if_neg (by rw [h33]; decide), if_neg (by rw [h33]; decide), if_neg (by rw [h33]; decide)]
        refine ⟨k + 1, hk1, by show k + 1 ≤ pos s k + wid s (pos s k); omega, by show pos s k + wid s (pos s k) ≤ _; omega, fun j hj => ?_, Or.inl ⟨rfl, by show _ = pos s k + wid s (pos s k); omega⟩⟩
        rcases Nat.lt_or_ge j k with q | q
        · exact isA_of (hA j q) (pk_un (by omega)) rfl rfl rfl
        · have ej : j = k := by omega
          subst ej
          exact Or.inr ⟨hl, ha, Or.inr (Or.inr (Or.inl ⟨h33, pk_us, hb, hh⟩))⟩
      by_cases h108 : s (pos s k + 1) = 108
      · simp only [bnd, F_X6_behindLetter, F_X6_close, let0 hl2, if_true, eq_false h48, eq_false h33, eq_true h108, if_false, hc] at e
        cases e
        exact ⟨k, hk, hkp, by omega, fun j hj => isA_of (hA j hj) (pk_un (by omega)) rfl rfl rfl, Or.inr ⟨hl, ha, Or.inr (Or.inr (Or.inl ⟨rfl, Or.inl ⟨rfl, h108, pk_us, hb⟩⟩))⟩⟩
      by_cases h114 : s (pos s k + 1) = 114
      · simp only [bnd, F_X6_behindLetter, F_X6_close, let0 hl2, if_true, eq_false h48, eq_false h33, eq_false h108, eq_true h114, if_false, hc] at e
        cases e
        exact ⟨k, hk, hkp, by omega, fun j hj => isA_of (hA j hj) (pk_un (by omega)) rfl rfl rfl, Or.inr ⟨hl, ha, Or.inr (Or.inr (Or.inl ⟨rfl, Or.inr (Or.inl ⟨rfl, h114, pk_us, hb⟩)⟩))⟩⟩
      by_cases h62 : s (pos s k + 1) = 62
      · simp only [bnd, F_X6_behindLetter, F_X6_close, let0 hl2, if_true, eq_false h48, eq_false h33, eq_false h108, eq_false h114, eq_true h62, if_false, hc] at e
        cases e
        exact ⟨k, hk, hkp, by omega, fun j hj => isA_of (hA j hj) (pk_un (by omega)) rfl rfl rfl, Or.inr ⟨hl, ha, Or.inr (Or.inl ⟨rfl, rfl, h62, pk_us, hh⟩)⟩⟩
      · simp only [bnd, F_X6_behindLetter, F_X6_close, let0 hl2, if_true, eq_false h48, eq_false h33, eq_false h108, eq_false h114, eq_false h62, if_false, hc] at e
        cases e
        exact absurd hr (by decide)
  · -- who takes
    unfold F_X6_readOn at e
    rw [if_neg (by decide), if_neg (by decide), if_pos rfl] at e
    by_cases hl2 : isL (s (pos s k + 2))
    · simp only [bnd, let1 hl2, i10, if_false, hc] at e
      cases e
      exact ⟨k, hk, hkp, by omega, fun j hj => isA_of (hA j hj) rfl rfl (pk_un (by omega)) rfl, Or.inr ⟨hl, ha, Or.inr (Or.inr (Or.inl ⟨rfl, Or.inr (Or.inr ⟨rfl, hs, hw, hl2, pk_us⟩)⟩))⟩⟩
    · simp only [bnd, let0 hl2, if_true] at e
      cases e
      exact absurd hr (by decide)
  · -- tens
    unfold F_X6_readOn at e
    rw [if_neg (by decide), if_neg (by decide), if_neg (by decide), if_pos rfl] at e
    by_cases hd : 48 ≤ (s i).toInt ∧ (s i).toInt ≤ 50
    · have hin : F_X6_in (s i).toInt64 48 50 = 1 := by
        rw [in_eq, Int32.toInt_toInt64]
        exact if_pos hd
      simp only [bnd, hin, i10, if_false, hc] at e
      cases e
      refine ⟨k, hk, hkp, by rcases hp with ⟨q, -⟩ | ⟨q, -⟩ | ⟨q, -⟩ <;> omega, fun j hj => isA_of (hA j hj) rfl rfl rfl (pk_un (by omega)), Or.inr ⟨hl, ha, Or.inr (Or.inr (Or.inr ⟨rfl, ?_⟩))⟩⟩
      rcases hp with ⟨rfl, q1, q2, q3⟩ | ⟨rfl, q1, q2, q3⟩ | ⟨rfl, q1, q2, q3, q4⟩
      · exact Or.inl ⟨rfl, q1, q2, q3, hd, pk_us⟩
      · exact Or.inr (Or.inl ⟨rfl, q1, q2, q3, hd, pk_us⟩)
      · exact Or.inr (Or.inr ⟨rfl, q1, q2, q3, q4, hd, pk_us⟩)
    · have hin : F_X6_in (s i).toInt64 48 50 = 0 := by
        rw [in_eq, Int32.toInt_toInt64]
        exact if_neg hd
      simp only [bnd, hin, if_true] at e
      cases e
      exact absurd hr (by decide)
  · -- units
    unfold F_X6_readOn at e
    rw [if_neg (by decide), if_neg (by decide), if_neg (by decide), if_neg (by decide)] at e
    have hT : ∃ t, ten t (aHour ac k) := by rcases hp with ⟨-, -, -, -, q⟩ | ⟨-, -, -, -, q⟩ | ⟨-, -, -, -, -, q⟩ <;> exact ⟨_, q⟩
    have fin : ∀ hi2 : Int64, (¬ F_X6_in (s i).toInt64 48 hi2 = 0 → (hi2.toInt ≤ 57 ∧ (aHour ac k = 20 → hi2.toInt ≤ 51)) → r = 0 ∧ u = (aActs ac + 1, upd (aAct ac) k (aAct ac k), aWho ac, upd (aHour ac) k (aHour ac k + (s i - 48)), aWhom ac) → PI s u (i + 1) r) := by
      intro hi2
      · intro h1 h2 h3
        obtain ⟨rfl, rfl⟩ := h3
        have h4 := in_spec rfl h1
        rw [Int32.toInt_toInt64] at h4
        have e48 : (48 : Int64).toInt = 48 := rfl
        have hdg : ∀ t, ten t (aHour ac k) → dig2 t (s i) (aHour ac k + (s i - 48)) := by
          intro t ht
          refine ⟨ht.1, by omega, fun q => ?_, by omega, by rw [← ht.2]⟩
          have := h2.2 ((ten20 ht).mpr q)
          omega
        have hwd : wid s (pos s k) = i + 1 - pos s k ∧ pos s k ≤ i := by
          unfold wid
          rw [if_neg (isL_ne hl (by decide))]
          rcases hp with ⟨rfl, q1, -⟩ | ⟨rfl, q1, -⟩ | ⟨rfl, q1, -⟩
          · rw [if_pos q1]
            omega
          · rw [if_neg (by rw [q1]; decide), if_pos q1]
            omega
          · rw [if_neg (by rw [q1]; decide), if_neg (by rw [q1]; decide), if_pos q1]
            omega
        have hw1 : 1 ≤ wid s (pos s k) := by omega
        refine ⟨k + 1, hk1, by show k + 1 ≤ pos s k + wid s (pos s k); omega, by show pos s k + wid s (pos s k) ≤ _; omega, fun j hj => ?_, Or.inl ⟨rfl, by show _ = pos s k + wid s (pos s k); omega⟩⟩
        rcases Nat.lt_or_ge j k with q | q
        · exact isA_of (hA j q) (pk_un (by omega)) rfl rfl (pk_un (by omega))
        · have ej : j = k := by omega
          subst ej
          unfold isA
          show isAct s (pos s j) (upd (aAct ac) j (aAct ac j) j) (aWho ac j) (aWhom ac j) (upd (aHour ac) j (aHour ac j + (s i - 48)) j)
          rw [pk_us, pk_us]
          rcases hp with ⟨rfl, q1, q2, q3, q4⟩ | ⟨rfl, q1, q2, q3, q4⟩ | ⟨rfl, q1, q2, q3, q4, q5⟩
          · exact Or.inr ⟨hl, ha, Or.inr (Or.inr (Or.inr (Or.inl ⟨q1, q2, q3, hdg _ q4⟩)))⟩
          · exact Or.inr ⟨hl, ha, Or.inr (Or.inr (Or.inr (Or.inr (Or.inl ⟨q1, q2, q3, hdg _ q4⟩))))⟩
          · exact Or.inr ⟨hl, ha, Or.inr (Or.inr (Or.inr (Or.inr (Or.inr ⟨q1, q2, q3, q4, hdg _ q5⟩))))⟩
    by_cases h20 : aHour ac k = 20
    · simp only [bnd, F_X6_close, hc, eq_true h20, if_true] at e
      by_cases hz : F_X6_in (s i).toInt64 48 51 = 0
      · rw [if_pos hz] at e
        cases e
        exact absurd hr (by decide)
      · rw [if_neg hz] at e
        cases e
        exact fin 51 hz ⟨by decide, fun _ => by decide⟩ ⟨rfl, rfl⟩
    · simp only [bnd, F_X6_close, hc, eq_false h20, if_false] at e
      by_cases hz : F_X6_in (s i).toInt64 48 57 = 0
      · rw [if_pos hz] at e
        cases e
        exact absurd hr (by decide)
      · rw [if_neg hz] at e
        cases e
        exact fin 57 hz ⟨by decide, fun q => absurd q h20⟩ ⟨rfl, rfl⟩
theorem le_gI {N : Nat} {x : Int32} {i : Nat} (h : x ≤ nI i) (hN : x.toNatClampNeg = N) (h0 : 0 ≤ x.toInt) (hi : i ≤ N) (hb : N < 2147483648) : i = N := by
  rw [Int32.le_iff_toInt_le, nI_toInt (show i < 2 ^ 31 by omega)] at h
  have e : x.toNatClampNeg = x.toInt.toNat := rfl
  omega
theorem vp_nn {x : Int32} {n : Nat} (h : vp_in x n) : 0 ≤ x.toInt := (vp_in_iff.mp h).1
theorem fault_n {pd : PD} (hq : vp_in (qPadMany pd) 61) : ∀ (n i : Nat) (due : Int32) (ac u : AC) (r : Int32), PI (qPad pd) ac i due → i ≤ (qPadMany pd).toNatClampNeg → (qPadMany pd).toNatClampNeg < i + n → L_X6_fault_9 pd n i due ac = (r, u) → r < 0 → PI (qPad pd) u (qPadMany pd).toNatClampNeg 0 ∧ r = -6 := by
  have hq2 := in_61 hq
  have hq0 := vp_nn hq
  intro n
  induction n with
  | zero => intro i due ac u r h1 h2 h3; omega
  | succ n ih =>
    intro i due ac u r h1 h2 h3 e hr
    rw [L_X6_fault_9_s] at e
    by_cases c : qPadMany pd ≤ nI i
    · rw [if_pos c] at e
      have hi := le_gI c rfl hq0 h2 (by omega)
      by_cases d : due = 0
      · rw [if_pos d] at e
        cases e
        rw [← hi]
        exact ⟨by rw [← d]; exact h1, rfl⟩
      · rw [if_neg d] at e
        cases e
        rw [Int32.lt_iff_toInt_lt] at hr
        have e0 : (0 : Int32).toInt = 0 := rfl
        omega
    · rw [if_neg c] at e
      have hi := lt_c c h2
      simp only [bnd] at e
      rw [nI_clamp (by omega)] at e
      by_cases d : 0 ≤ (F_X6_readOn ac due (qPad pd i)).1
      · rw [if_pos d] at e
        exact ih (i + 1) _ _ u r (PI_step h1 (by omega) rfl d) (by omega) (by omega) e hr
      · rw [if_neg d] at e
        cases e
        exact absurd hr (nI_pos (by omega))
theorem PI_0 (s : Nat → Int32) (a b c d : Nat → Int32) : PI s ((0 : Int32), a, b, c, d) 0 0 := ⟨0, rfl, Nat.le_refl _, Nat.le_refl _, fun j hj => absurd hj (Nat.not_lt_zero j), Or.inl ⟨rfl, rfl⟩⟩
/-- the whole pad is acts: how many, where they stand -/
def Acts (s : Nat → Int32) (N : Nat) (ac : AC) : Prop := ∃ k : Nat, aActs ac = nI k ∧ k ≤ N ∧ pos s k = N ∧ ∀ j, j < k → isA s ac j
theorem PI_acts {s : Nat → Int32} {ac : AC} {N : Nat} (h : PI s ac N 0) : Acts s N ac := by
  obtain ⟨k, hk, hkp, hpi, hA, hp⟩ := h
  rcases hp with ⟨-, e⟩ | ⟨-, -, ⟨q, -⟩ | ⟨q, -⟩ | ⟨q, -⟩ | ⟨q, -⟩⟩
  · exact ⟨k, hk, by omega, e.symm, hA⟩
  · exact absurd q (by decide)
  · exact absurd q (by decide)
  · exact absurd q (by decide)
  · exact absurd q (by decide)
theorem fault_acts {pd : PD} {ac u : AC} {r : Int32} (h : F_X6_fault pd ac = (r, u)) (hr : r < 0) (hq : vp_in (qPadMany pd) 61) : Acts (qPad pd) (qPadMany pd).toNatClampNeg u ∧ r = -6 := by
  have h1 := fault_n hq _ 0 0 _ u r (PI_0 _ _ _ _ _) (Nat.zero_le _) (by omega) h hr
  exact ⟨PI_acts h1.1, h1.2⟩
def nds (a : Nat → Int32) : Nat → Nat
  | 0 => 0
  | j + 1 => nds a j + ndOf (a j)
theorem nds_mono (a : Nat → Int32) {i j : Nat} (h : i ≤ j) : nds a i ≤ nds a j := by
  induction j with
  | zero =>
    have : i = 0 := by omega
    subst this
    exact Nat.le_refl _
  | succ j ih =>
    rcases Nat.lt_or_ge i (j + 1) with q | q
    · exact Nat.le_trans (ih (by omega)) (Nat.le_add_right _ _)
    · have : i = j + 1 := by omega
      subst this
      exact Nat.le_refl _
theorem nds_pos {s : Nat → Int32} {ac : AC} : ∀ (k : Nat), (∀ j, j < k → isA s ac j) → nds (aAct ac) k ≤ pos s k := by
  intro k
  induction k with
  | zero => intro _; exact Nat.le_refl _
  | succ k ih =>
    intro h
    have h1 := ih (fun j hj => h j (by omega))
    have h2 := (isAct_nd (h k (by omega))).1
    show nds (aAct ac) k + ndOf (aAct ac k) ≤ pos s k + wid s (pos s k)
    omega
theorem goDay_n {ac : AC} (hac : (aActs ac).toNatClampNeg ≤ 60) (hnd : nds (aAct ac) (aActs ac).toNatClampNeg ≤ 60) : ∀ (n i : Nat) (lv : LV) (dd : DD) (bd : BD), i ≤ (aActs ac).toNatClampNeg → (aActs ac).toNatClampNeg < i + n → 0 ≤ (eDeeds dd).toInt ∧ (eDeeds dd).toInt ≤ (nds (aAct ac) i : Int) → 0 ≤ (eDeeds (L_X6_goDay_18 ac n i lv dd bd).2.1).toInt ∧ (eDeeds (L_X6_goDay_18 ac n i lv dd bd).2.1).toInt ≤ (nds (aAct ac) (aActs ac).toNatClampNeg : Int) := by
  intro n
  induction n with
  | zero => intro i lv dd bd h1 h2; omega
  | succ n ih =>
    intro i lv dd bd h1 h2 h3
    have hm := nds_mono (aAct ac) h1
    rw [L_X6_goDay_18_s]
    have hend : 0 ≤ (eDeeds dd).toInt ∧ (eDeeds dd).toInt ≤ (nds (aAct ac) (aActs ac).toNatClampNeg : Int) := ⟨h3.1, by omega⟩
    by_cases c : aActs ac ≤ nI i
    · rw [if_pos c]
      exact hend
    rw [if_neg c]
    have hi := lt_c c h1
    by_cases c2 : 0 ≤ bBadAct bd
    · rw [if_pos c2]
      exact hend
    rw [if_neg c2]
    have hn : (nI i).toNatClampNeg = i := nI_clamp (by omega)
    have e1 : nds (aAct ac) (i + 1) = nds (aAct ac) i + ndOf (aAct ac i) := rfl
    have hH : ∀ (a b h : Int32), 0 ≤ (eDeeds (F_X6_happen lv dd (aAct ac i) a b h).2).toInt ∧ (eDeeds (F_X6_happen lv dd (aAct ac i) a b h).2).toInt ≤ (nds (aAct ac) (i + 1) : Int) := by
      intro a b h
      rw [happen_nd ⟨h3.1, by omega⟩]
      omega
    have h0 : 0 ≤ (eDeeds dd).toInt ∧ (eDeeds dd).toInt ≤ (nds (aAct ac) (i + 1) : Int) := ⟨h3.1, by omega⟩
    dsimp only [bnd]
    rw [hn]
    by_cases a : F_X6_whyNot lv (aAct ac i) (aWho ac i) (aWhom ac i) (aHour ac i) ≤ 0
    · rw [if_pos a, if_pos a]
      by_cases b : F_X6_whyNot lv (aAct ac i) (aWho ac i) (aWhom ac i) (aHour ac i) = 0
      · rw [if_pos b]
        exact ih (i + 1) _ _ _ (by omega) (by omega) (hH _ _ _)
      · rw [if_neg b]
        exact ih (i + 1) _ _ _ (by omega) (by omega) h0
    · rw [if_neg a, if_neg a]
      by_cases b : F_X6_whyNot lv (aAct ac i) (aWho ac i) (aWhom ac i) (aHour ac i) = 0
      · rw [if_pos b]
        exact ih (i + 1) _ _ _ (by omega) (by omega) (hH _ _ _)
      · rw [if_neg b]
        exact ih (i + 1) _ _ _ (by omega) (by omega) h0
theorem goDay_deeds {lv : LV} {ac : AC} {dd : DD} {bd : BD} (hac : (aActs ac).toNatClampNeg ≤ 60) (hnd : nds (aAct ac) (aActs ac).toNatClampNeg ≤ 60) : 0 ≤ (eDeeds (F_X6_goDay lv ac dd bd).2.1).toInt ∧ (eDeeds (F_X6_goDay lv ac dd bd).2.1).toInt ≤ 60 := by
  have h1 := goDay_n hac hnd ((aActs ac).toNatClampNeg + 1) 0 lv (F_X6_beginCount dd) ((-6 : Int32), (-6 : Int32)) (Nat.zero_le _) (by omega) acts0
  exact ⟨h1.1, Int.le_trans h1.2 (by omega)⟩
theorem Acts_nds {s : Nat → Int32} {N : Nat} {ac : AC} (h : Acts s N ac) (hN : N ≤ 60) : (aActs ac).toNatClampNeg ≤ 60 ∧ nds (aAct ac) (aActs ac).toNatClampNeg ≤ 60 ∧ ∀ j, j < (aActs ac).toNatClampNeg → vp_in (aHour ac j) 24 := by
  obtain ⟨k, hk, hkN, hp, hA⟩ := h
  have hc : (aActs ac).toNatClampNeg = k := by rw [hk]; exact nI_clamp (by omega)
  rw [hc]
  exact ⟨by omega, by have := nds_pos k hA; omega, fun j hj => isAct_in (hA j hj)⟩
theorem refusal_cases {lv : LV} {pd : PD} {ac : AC} {dd : DD} {hd : HD} {le : LE} {bd : BD} : F_X6_refusal lv pd ac dd hd le bd = (let x := F_X6_fault pd ac; if x.1 < 0 then (let g := F_X6_goDay lv x.2 dd bd; (if bBadAct g.2.2 < 0 then (-6 : Int32) else (-3 : Int32), F_X6_lay_had g.1 (F_X6_store_had lv hd), x.2, g.2.1, F_X6_store_had lv hd, F_X6_store_leaves g.1 le, g.2.2)) else ((-5 : Int32), lv, x.2, dd, hd, le, bd)) := by
  simp only [F_X6_refusal, bnd]
  split
  · split <;> rfl
  · rfl
theorem refusal_inv {lv : LV} {pd : PD} {ac : AC} {dd : DD} {hd : HD} {le : LE} {bd : BD} {r : Int32} {u : LV × AC × DD × HD × LE × BD} (h : F_X6_refusal lv pd ac dd hd le bd = (r, u)) (hr : r = (-6 : Int32)) : (F_X6_fault pd ac).1 < 0 ∧ u = (F_X6_lay_had (F_X6_goDay lv (F_X6_fault pd ac).2 dd bd).1 (F_X6_store_had lv hd), (F_X6_fault pd ac).2, (F_X6_goDay lv (F_X6_fault pd ac).2 dd bd).2.1, F_X6_store_had lv hd, F_X6_store_leaves (F_X6_goDay lv (F_X6_fault pd ac).2 dd bd).1 le, (F_X6_goDay lv (F_X6_fault pd ac).2 dd bd).2.2) := by
  rw [refusal_cases] at h
  dsimp only at h
  by_cases c : (F_X6_fault pd ac).1 < 0
  · rw [if_pos c] at h
    exact ⟨c, (Prod.mk.inj h).2.symm⟩
  · rw [if_neg c] at h
    have h1 := (Prod.mk.inj h).1
    rw [hr] at h1
    exact absurd h1 (by decide)
def stF (lv : LV) (h0 : Nat → Int32) : Nat → Int32 := fun j => if j < 6 then vLeft lv j else if j < 12 then vRight lv (j - 6) else if j < 18 then vScandals lv (j - 12) else if j < 162 then vWearOf lv (j - 18) else if j = 162 then vClock lv else h0 j
theorem up_at {f : Nat → Int32} {k : Nat} {x : Int32} (j : Nat) : upd f k x j = if j = k then x else f j := by
  by_cases q : j = k
  · subst q
    rw [if_pos rfl, pk_us]
  · rw [if_neg q, pk_un q]
theorem st2 {lv : LV} : ∀ (n i : Nat) (hd : HD), i ≤ 6 → 6 < i + n → ∀ j, L_X6_store_had_2 lv n i hd j = if i ≤ j ∧ j < 6 then vLeft lv j else if 6 + i ≤ j ∧ j < 12 then vRight lv (j - 6) else if 12 + i ≤ j ∧ j < 18 then vScandals lv (j - 12) else hd j := by
  intro n
  induction n with
  | zero => intro i hd h1 h2; omega
  | succ n ih =>
    intro i hd h1 h2 j
    rw [L_X6_store_had_2_s]
    by_cases c : (6 : Int32) ≤ nI i
    · rw [if_pos c]
      have hi : i = 6 := le_gI (x := 6) c rfl (by decide) h1 (by decide)
      subst hi
      rw [if_neg (by omega), if_neg (by omega), if_neg (by omega)]
    · rw [if_neg c]
      have hi := lt_g c h1 (by decide)
      rw [ih (i + 1) _ (by omega) (by omega) j, nI_clamp (by omega), nI_clamp (by omega), nI_clamp (by omega), up_at, up_at, up_at]
      by_cases q1 : j = i
      · subst q1
        rw [if_neg (by omega), if_neg (by omega), if_neg (by omega), if_neg (by omega), if_neg (by omega), if_pos rfl, if_pos (by omega)]
      by_cases q2 : j = 6 + i
      · subst q2
        rw [if_neg (by omega), if_neg (by omega), if_neg (by omega), if_neg (by omega), if_pos rfl, if_neg (by omega), if_pos (by omega), Nat.add_sub_cancel_left]
      by_cases q3 : j = 12 + i
      · subst q3
        rw [if_neg (by omega), if_neg (by omega), if_neg (by omega), if_pos rfl, if_neg (by omega), if_neg (by omega), if_pos (by omega), Nat.add_sub_cancel_left]
      rw [if_neg q3, if_neg q2, if_neg q1]
      by_cases p1 : i ≤ j ∧ j < 6
      · rw [if_pos p1, if_pos (by omega)]
      rw [if_neg p1, if_neg (by omega)]
      by_cases p2 : 6 + i ≤ j ∧ j < 12
      · rw [if_pos p2, if_pos (by omega)]
      rw [if_neg p2, if_neg (by omega)]
      by_cases p3 : 12 + i ≤ j ∧ j < 18
      · rw [if_pos p3, if_pos (by omega)]
      rw [if_neg p3, if_neg (by omega)]
theorem st49 {lv : LV} : ∀ (n i : Nat) (hd : HD), i ≤ 144 → 144 < i + n → ∀ j, L_X6_store_had_49 lv n i hd j = if 18 + i ≤ j ∧ j < 162 then vWearOf lv (j - 18) else hd j := by
  intro n
  induction n with
  | zero => intro i hd h1 h2; omega
  | succ n ih =>
    intro i hd h1 h2 j
    rw [L_X6_store_had_49_s]
    by_cases c : (144 : Int32) ≤ nI i
    · rw [if_pos c]
      have hi : i = 144 := le_gI (x := 144) c rfl (by decide) h1 (by decide)
      subst hi
      rw [if_neg (by omega)]
    · rw [if_neg c]
      have hi := lt_g c h1 (by decide)
      rw [ih (i + 1) _ (by omega) (by omega) j, nI_clamp (by omega), nI_clamp (by omega), up_at]
      by_cases q1 : j = 18 + i
      · subst q1
        rw [if_neg (by omega), if_pos rfl, if_pos (by omega), Nat.add_sub_cancel_left]
      rw [if_neg q1]
      by_cases p1 : 18 + i ≤ j ∧ j < 162
      · rw [if_pos p1, if_pos (by omega)]
      rw [if_neg p1, if_neg (by omega)]
theorem store_had (lv : LV) (hd : HD) : F_X6_store_had lv hd = stF lv hd := by
  funext j
  unfold F_X6_store_had
  dsimp only [bnd, hHad]
  rw [up_at, st49 _ 0 _ (by omega) (by omega), st2 _ 0 _ (by omega) (by omega)]
  have e : (162 : Int32).toNatClampNeg = 162 := rfl
  rw [e]
  unfold stF
  by_cases q1 : j < 6
  · rw [if_neg (by omega), if_neg (by omega), if_pos (by omega), if_pos q1]
  by_cases q2 : j < 12
  · rw [if_neg (by omega), if_neg (by omega), if_neg (by omega), if_pos (by omega), if_neg q1, if_pos q2]
  by_cases q3 : j < 18
  · rw [if_neg (by omega), if_neg (by omega), if_neg (by omega), if_neg (by omega), if_pos (by omega), if_neg q1, if_neg q2, if_pos q3]
  by_cases q4 : j < 162
  · rw [if_neg (by omega), if_pos (by omega), if_neg q1, if_neg q2, if_neg q3, if_pos q4]
  by_cases q5 : j = 162
  · rw [if_pos q5, if_neg q1, if_neg q2, if_neg q3, if_neg q4, if_pos q5]
  · rw [if_neg q5, if_neg (by omega), if_neg (by omega), if_neg (by omega), if_neg (by omega), if_neg q1, if_neg q2, if_neg q3, if_neg q4, if_neg q5]
theorem st_same2 (lv : LV) : ∀ (n i : Nat) (h : Nat → Int32), L_X6_store_leaves_2 lv n i h = L_X6_store_had_2 lv n i h := by
  intro n
  induction n with
  | zero => intro i h; rfl
  | succ n ih => intro i h; rw [L_X6_store_leaves_2_s, L_X6_store_had_2_s]; split; rfl; exact ih _ _
theorem st_same49 (lv : LV) : ∀ (n i : Nat) (h : Nat → Int32), L_X6_store_leaves_49 lv n i h = L_X6_store_had_49 lv n i h := by
  intro n
  induction n with
  | zero => intro i h; rfl
  | succ n ih => intro i h; rw [L_X6_store_leaves_49_s, L_X6_store_had_49_s]; split; rfl; exact ih _ _
theorem store_leaves (lv : LV) (le : LE) : F_X6_store_leaves lv le = stF lv le := by
  rw [← store_had]
  simp only [F_X6_store_leaves, F_X6_store_had, bnd]
  rw [st_same2, st_same49]
theorem lay2 {hd : HD} : ∀ (n i : Nat) (lv : LV), i ≤ 6 → 6 < i + n → (vCourtiers (L_X6_lay_had_2 hd n i lv) = vCourtiers lv ∧ vTears (L_X6_lay_had_2 hd n i lv) = vTears lv ∧ vWearOf (L_X6_lay_had_2 hd n i lv) = vWearOf lv) ∧ ∀ j, vLeft (L_X6_lay_had_2 hd n i lv) j = (if i ≤ j ∧ j < 6 then hd j else vLeft lv j) ∧ vRight (L_X6_lay_had_2 hd n i lv) j = (if i ≤ j ∧ j < 6 then hd (6 + j) else vRight lv j) ∧ vScandals (L_X6_lay_had_2 hd n i lv) j = (if i ≤ j ∧ j < 6 then hd (12 + j) else vScandals lv j) := by
  intro n
  induction n with
  | zero => intro i lv h1 h2; omega
  | succ n ih =>
    intro i lv h1 h2
    rw [L_X6_lay_had_2_s]
    by_cases c : (6 : Int32) ≤ nI i
    · rw [if_pos c]
      have hi : i = 6 := le_gI (x := 6) c rfl (by decide) h1 (by decide)
      subst hi
      exact ⟨⟨rfl, rfl, rfl⟩, fun j => ⟨(if_neg (by omega)).symm, (if_neg (by omega)).symm, (if_neg (by omega)).symm⟩⟩
    · rw [if_neg c]
      have hi := lt_g c h1 (by decide)
      obtain ⟨⟨g1, g2, g3⟩, g4⟩ := ih (i + 1) (vCourtiers lv, vClock lv, vTears lv, (upd (vLeft lv) (nI i).toNatClampNeg ((hHad hd) (nI i).toNatClampNeg)), (upd (vRight lv) (nI i).toNatClampNeg ((hHad hd) (nI (6 + i)).toNatClampNeg)), (upd (vScandals lv) (nI i).toNatClampNeg ((hHad hd) (nI (12 + i)).toNatClampNeg)), vWearOf lv) (by omega) (by omega)
      refine ⟨⟨g1, g2, g3⟩, fun j => ?_⟩
      obtain ⟨k1, k2, k3⟩ := g4 j
      rw [k1, k2, k3]
      dsimp only [vLeft, vRight, vScandals, hHad]
      rw [nI_clamp (by omega), nI_clamp (by omega), nI_clamp (by omega), up_at, up_at, up_at]
      by_cases q1 : j = i
      · subst q1
        rw [if_neg (by omega), if_pos rfl, if_pos (by omega), if_neg (by omega), if_pos rfl, if_pos (by omega), if_neg (by omega), if_pos rfl, if_pos (by omega)]
        exact ⟨rfl, rfl, rfl⟩
      rw [if_neg q1, if_neg q1, if_neg q1]
      by_cases p1 : i ≤ j ∧ j < 6
      · rw [if_pos p1, if_pos p1, if_pos p1, if_pos (by omega), if_pos (by omega), if_pos (by omega)]
        exact ⟨rfl, rfl, rfl⟩
      rw [if_neg p1, if_neg p1, if_neg p1, if_neg (by omega), if_neg (by omega), if_neg (by omega)]
      exact ⟨rfl, rfl, rfl⟩
theorem lay49 {hd : HD} : ∀ (n i : Nat) (lv : LV), i ≤ 144 → 144 < i + n → (vCourtiers (L_X6_lay_had_49 hd n i lv) = vCourtiers lv ∧ vTears (L_X6_lay_had_49 hd n i lv) = vTears lv ∧ vLeft (L_X6_lay_had_49 hd n i lv) = vLeft lv ∧ vRight (L_X6_lay_had_49 hd n i lv) = vRight lv ∧ vScandals (L_X6_lay_had_49 hd n i lv) = vScandals lv) ∧ ∀ j, vWearOf (L_X6_lay_had_49 hd n i lv) j = (if i ≤ j ∧ j < 144 then hd (18 + j) else vWearOf lv j) := by
  intro n
  induction n with
  | zero => intro i lv h1 h2; omega
  | succ n ih =>
    intro i lv h1 h2
    rw [L_X6_lay_had_49_s]
    by_cases c : (144 : Int32) ≤ nI i
    · rw [if_pos c]
      have hi : i = 144 := le_gI (x := 144) c rfl (by decide) h1 (by decide)
      subst hi
      exact ⟨⟨rfl, rfl, rfl, rfl, rfl⟩, fun j => (if_neg (by omega)).symm⟩
    · rw [if_neg c]
      have hi := lt_g c h1 (by decide)
      obtain ⟨g1, g4⟩ := ih (i + 1) (vCourtiers lv, vClock lv, vTears lv, vLeft lv, vRight lv, vScandals lv, (upd (vWearOf lv) (nI i).toNatClampNeg ((hHad hd) (nI (18 + i)).toNatClampNeg))) (by omega) (by omega)
      refine ⟨g1, fun j => ?_⟩
      rw [g4 j]
      dsimp only [vWearOf, hHad]
      rw [nI_clamp (by omega), nI_clamp (by omega), up_at]
      by_cases q1 : j = i
      · subst q1
        rw [if_neg (by omega), if_pos rfl, if_pos (by omega)]
      rw [if_neg q1]
      by_cases p1 : i ≤ j ∧ j < 144
      · rw [if_pos p1, if_pos (by omega)]
      rw [if_neg p1, if_neg (by omega)]
theorem lay_had (lv : LV) (hd : HD) : (vCourtiers (F_X6_lay_had lv hd) = vCourtiers lv ∧ vTears (F_X6_lay_had lv hd) = vTears lv ∧ vClock (F_X6_lay_had lv hd) = hd 162) ∧ (∀ j, j < 6 → vLeft (F_X6_lay_had lv hd) j = hd j ∧ vRight (F_X6_lay_had lv hd) j = hd (6 + j) ∧ vScandals (F_X6_lay_had lv hd) j = hd (12 + j)) ∧ ∀ j, j < 144 → vWearOf (F_X6_lay_had lv hd) j = hd (18 + j) := by
  have h1 := lay2 (hd := hd) (6 + 1) 0 lv (by omega) (by omega)
  have h2 := lay49 (hd := hd) (144 + 1) 0 (L_X6_lay_had_2 hd (6 + 1) 0 lv) (by omega) (by omega)
  simp only [F_X6_lay_had, bnd]
  refine ⟨⟨h2.1.1.trans h1.1.1, h2.1.2.1.trans h1.1.2.1, rfl⟩, fun j hj => ⟨?_, ?_, ?_⟩, fun j hj => ?_⟩
  · exact ((congrFun h2.1.2.2.1 j).trans (h1.2 j).1).trans (if_pos ⟨Nat.zero_le _, hj⟩)
  · exact ((congrFun h2.1.2.2.2.1 j).trans (h1.2 j).2.1).trans (if_pos ⟨Nat.zero_le _, hj⟩)
  · exact ((congrFun h2.1.2.2.2.2 j).trans (h1.2 j).2.2).trans (if_pos ⟨Nat.zero_le _, hj⟩)
  · exact (h2.2 j).trans (if_pos ⟨Nat.zero_le _, hj⟩)

theorem fault_ok {pd : PD} {ac u : AC} {r : Int32} (h : F_X6_fault pd ac = (r, u)) (hr : r < 0) (hq : vp_in (qPadMany pd) 61) : (aActs u).toNatClampNeg ≤ 60 ∧ ∀ j, j < (aActs u).toNatClampNeg → vp_in (aHour u j) 24 := by
  have h1 := fault_acts h hr hq
  have h2 := Acts_nds h1.1 (in_61 hq)
  exact ⟨h2.1, h2.2.2⟩
theorem at18_in {c h' r : Int32} (h : F_X6_at c h' = r) (hc : vp_in c 6) (hh : vp_in h' 24) : vp_in ((18 : Int32) + r) 163 := by
  subst h
  obtain ⟨j, hj, rfl⟩ := vp_in_of hc (by decide)
  obtain ⟨q, hq, rfl⟩ := vp_in_of hh (by decide)
  unfold F_X6_at
  rw [show (24 : Int32) = nI 24 from rfl, pk_mul, nI_add, show (18 : Int32) = nI 18 from rfl, nI_add]
  exact vp_in_nI (by omega) (by decide)
theorem beh_in {x c r : Int32} (h : F_X6_in x.toInt64 0 3 = r) (hn : ¬ r = 0) (h3 : ¬ x = (3 : Int32)) (hc : vp_in c 6) : vp_in ((6 : Int32) * x + c) 163 := by
  have h1 := in_in (n := 4) h hn (by decide)
  have h2 : vp_in x 3 := in_less h1 h3 (by decide)
  obtain ⟨j, hj, rfl⟩ := vp_in_of hc (by decide)
  obtain ⟨q, hq, rfl⟩ := vp_in_of h2 (by decide)
  rw [show (6 : Int32) = nI 6 from rfl, pk_mul, nI_add]
  exact vp_in_nI (by omega) (by decide)
theorem deedk_in {k d r : Int32} (h : F_X6_in k.toInt64 0 (d.toInt64 - 1) = r) (hn : ¬ r = 0) (hd : d.toNatClampNeg ≤ 60 ∧ 0 ≤ d.toInt) : vp_in k 60 := by
  have h1 := in_spec h hn
  obtain ⟨j, hj, rfl⟩ := nI_nn hd.2
  rw [nI_clamp hj] at hd
  rw [Int32.toInt_toInt64, nI_l (by omega), show (1 : Int64) = lN 1 from rfl] at h1
  have e0 : (0 : Int64).toInt = 0 := rfl
  rw [e0] at h1
  rcases Nat.eq_zero_or_pos j with q | q
  · subst q
    have e1 : (lN 0 - lN 1).toInt = -1 := rfl
    rw [e1] at h1
    omega
  · rw [lN_sub (by omega), lN_toInt (by omega)] at h1
    exact vp_in_iff.mpr (by omega)
theorem refusal_deeds {lv : LV} {pd : PD} {ac : AC} {dd : DD} {hd : HD} {le : LE} {bd : BD} {r : Int32} {u : LV × AC × DD × HD × LE × BD} (h : F_X6_refusal lv pd ac dd hd le bd = (r, u)) (hr : r = (-6 : Int32)) (hq : vp_in (qPadMany pd) 61) (hrk : rOK lv) : (eDeeds u.2.2.1).toNatClampNeg ≤ 60 ∧ 0 ≤ (eDeeds u.2.2.1).toInt := by
  obtain ⟨h1, rfl⟩ := refusal_inv h hr
  have h2 := fault_acts (Prod.eta _).symm h1 hq
  have h3 := Acts_nds h2.1 (in_61 hq)
  have h4 := goDay_deeds (lv := lv) (dd := dd) (bd := bd) h3.1 h3.2.1
  refine ⟨?_, h4.1⟩
  show (eDeeds (F_X6_goDay lv (F_X6_fault pd ac).2 dd bd).2.1).toInt.toNat ≤ 60
  omega
theorem refusal_ok {lv : LV} {pd : PD} {ac : AC} {dd : DD} {hd : HD} {le : LE} {bd : BD} {r : Int32} {u : LV × AC × DD × HD × LE × BD} (h : F_X6_refusal lv pd ac dd hd le bd = (r, u)) (hr : r = (-6 : Int32)) (hq : vp_in (qPadMany pd) 61) (hrk : rOK lv) : (aActs u.2.1).toNatClampNeg ≤ 60 ∧ (∀ j, j < (aActs u.2.1).toNatClampNeg → vp_in (aHour u.2.1 j) 24) ∧ rOK u.1 := by
  obtain ⟨h1, rfl⟩ := refusal_inv h hr
  have h2 := fault_acts (Prod.eta _).symm h1 hq
  have h3 := Acts_nds h2.1 (in_61 hq)
  refine ⟨h3.1, h3.2.2, fun j hj => ?_⟩
  have h4 := ((lay_had (F_X6_goDay lv (F_X6_fault pd ac).2 dd bd).1 (F_X6_store_had lv hd)).2.1 j hj).2.1
  show 0 ≤ (vRight (F_X6_lay_had (F_X6_goDay lv (F_X6_fault pd ac).2 dd bd).1 (F_X6_store_had lv hd)) j).toInt ∧ (vRight (F_X6_lay_had (F_X6_goDay lv (F_X6_fault pd ac).2 dd bd).1 (F_X6_store_had lv hd)) j).toInt ≤ 24
  rw [h4, store_had]
  unfold stF
  rw [if_neg (by omega), if_pos (by omega), Nat.add_sub_cancel_left]
  exact hrk j hj
theorem lt_m {i : Nat} {x : Int32} (h : ¬ x < nI i) (hx : vp_in x 24) (hi : i ≤ 24) : i < 24 := by
  rw [vp_in_iff] at hx
  rw [Int32.lt_iff_toInt_lt, nI_toInt (by omega)] at h
  omega
theorem dl_e {x : Int32} (h : 0 ≤ x.toInt) : x - (1 : Int32) = nI x.toNatClampNeg + (-1 : Int32) := by
  have e : (-1 : Int32) = -(1 : Int32) := rfl
  obtain ⟨j, hj, rfl⟩ := nI_nn h
  rw [nI_clamp hj, e, Int32.sub_eq_add_neg]
def stOK (a x b y : Int32) : Prop := (1 ≤ a.toInt ∧ a.toInt ≤ 999) ∧ (1 ≤ b.toInt ∧ b.toInt ≤ 999) ∧ (0 ≤ x.toInt ∧ x.toInt < a.toInt) ∧ (0 ≤ y.toInt ∧ y.toInt < b.toInt)
theorem strike_in {a x b y r : Int32} (h : F_X6_isStrike a x b y = r) (hn : ¬ r = 0) : stOK a x b y := by
  subst h
  simp only [F_X6_isStrike, bnd] at hn
  by_cases q1 : F_X6_in a.toInt64 1 999 = 0
  · rw [if_pos q1] at hn
    exact absurd rfl hn
  · rw [if_neg q1] at hn
    by_cases q2 : F_X6_in b.toInt64 1 999 = 0
    · rw [if_pos q2] at hn
      exact absurd rfl hn
    · rw [if_neg q2] at hn
      by_cases q3 : F_X6_in x.toInt64 0 (a - 1).toInt64 = 0
      · rw [if_pos q3] at hn
        exact absurd rfl hn
      · rw [if_neg q3] at hn
        by_cases q4 : F_X6_in y.toInt64 0 (b - 1).toInt64 = 0
        · rw [if_pos q4] at hn
          exact absurd rfl hn
        · have h1 := in_spec rfl q1
          have h2 := in_spec rfl q2
          have h3 := in_spec rfl q3
          have h4 := in_spec rfl q4
          simp only [Int32.toInt_toInt64] at h1 h2 h3 h4
          have e0 : (0 : Int64).toInt = 0 := rfl
          have e1 : (1 : Int64).toInt = 1 := rfl
          have e9 : (999 : Int64).toInt = 999 := rfl
          rw [i_sub1 (by omega)] at h3 h4
          exact ⟨by omega, by omega, by omega, by omega⟩
theorem strike_b {a x b y : Int32} (h : stOK a x b y) : ¬ b = 0 := by
  intro e
  subst e
  have h1 := h.2.1
  have e0 : (0 : Int32).toInt = 0 := rfl
  omega
theorem strike_x {a x b y : Int32} (h : stOK a x b y) : 0 ≤ x.toInt ∧ x.toInt ≤ 1001000 := by
  unfold stOK at h
  omega
theorem strike_m {a x b y v : Int32} {n : Nat} (h : stOK a x b y) (hv : 0 ≤ v.toInt ∧ v.toInt ≤ 1001000) (c : ¬ (1000000 : Int32) ≤ v) (hn : (1001000 - v.toInt).toNat < n + 1) : (1001000 - (v + a).toInt).toNat < n := by
  unfold stOK at h
  rw [Int32.le_iff_toInt_le] at c
  have e : (1000000 : Int32).toInt = 1000000 := rfl
  rw [i_add (by omega) (by omega)]
  omega
theorem strike_v {a x b y v : Int32} (h : stOK a x b y) (hv : 0 ≤ v.toInt ∧ v.toInt ≤ 1001000) (c : ¬ (1000000 : Int32) ≤ v) : 0 ≤ (v + a).toInt ∧ (v + a).toInt ≤ 1001000 := by
  unfold stOK at h
  rw [Int32.le_iff_toInt_le] at c
  have e : (1000000 : Int32).toInt = 1000000 := rfl
  rw [i_add (by omega) (by omega)]
  omega
theorem often_m {a x b y v m : Int32} {n : Nat} (h : stOK a x b y) (hv : 0 ≤ v.toInt ∧ v.toInt ≤ 1001000) (c : ¬ m < v) (hm : m.toInt ≤ 999999) (hn : (1001000 - v.toInt).toNat < n + 1) : (1001000 - (v + a).toInt).toNat < n := by
  unfold stOK at h
  rw [Int32.lt_iff_toInt_lt] at c
  rw [i_add (by omega) (by omega)]
  omega
theorem often_v {a x b y v m : Int32} (h : stOK a x b y) (hv : 0 ≤ v.toInt ∧ v.toInt ≤ 1001000) (c : ¬ m < v) (hm : m.toInt ≤ 999999) : 0 ≤ (v + a).toInt ∧ (v + a).toInt ≤ 1001000 := by
  unfold stOK at h
  rw [Int32.lt_iff_toInt_lt] at c
  rw [i_add (by omega) (by omega)]
  omega
theorem minute_in {m r : Int32} (h : F_X6_in m.toInt64 0 999999 = r) (hn : ¬ r = 0) : m.toInt ≤ 999999 := by
  have h1 := in_spec h hn
  rw [Int32.toInt_toInt64] at h1
  have e : (999999 : Int64).toInt = 999999 := rfl
  omega
theorem lN_nn {x : Int64} (h : 0 ≤ x.toInt) : ∃ j : Nat, j < 2 ^ 63 ∧ x = lN j := pk_lOf (fun q => by rw [Int64.lt_iff_toInt_lt] at q; have e0 : (0 : Int64).toInt = 0 := rfl; omega)
theorem lN_ne {j : Nat} (h : ¬ lN j = 0) : 0 < j := by
  rcases Nat.eq_zero_or_pos j with q | q
  · subst q
    exact absurd rfl h
  · exact q
theorem low_m {a b : Int64} {n : Nat} (h : 0 < a.toInt ∧ 0 ≤ b.toInt) (hb : ¬ b = 0) (hn : b.toInt.toNat < n + 1) : (a - a / b * b).toInt.toNat < n := by
  obtain ⟨i, hi, rfl⟩ := lN_nn (Int.le_of_lt h.1)
  obtain ⟨j, hj, rfl⟩ := lN_nn h.2
  have hp := lN_ne hb
  rw [pk_lT hj] at hn
  rw [pk_lRem hi hp hj, pk_lT (Nat.lt_of_lt_of_le (Nat.mod_lt _ hp) (Nat.le_of_lt hj))]
  have h1 := Nat.mod_lt i hp
  omega
theorem low_p {a b : Int64} (h : 0 < a.toInt ∧ 0 ≤ b.toInt) (hb : ¬ b = 0) : 0 < b.toInt ∧ 0 ≤ (a - a / b * b).toInt := by
  obtain ⟨i, hi, rfl⟩ := lN_nn (Int.le_of_lt h.1)
  obtain ⟨j, hj, rfl⟩ := lN_nn h.2
  have hp := lN_ne hb
  rw [pk_lRem hi hp hj, pk_lT (Nat.lt_of_lt_of_le (Nat.mod_lt _ hp) (Nat.le_of_lt hj)), pk_lT hj]
  omega
theorem seed_in {x r : Int32} (h : F_X6_in x.toInt64 0 9999 = r) (hn : ¬ r = 0) : 0 ≤ x.toInt ∧ x.toInt ≤ 65536 := by
  have h1 := in_spec h hn
  rw [Int32.toInt_toInt64] at h1
  have e0 : (0 : Int64).toInt = 0 := rfl
  have e : (9999 : Int64).toInt = 9999 := rfl
  omega
theorem mcount_in {x r : Int32} (h : F_X6_in x.toInt64 1 99 = r) (hn : ¬ r = 0) : x.toNatClampNeg ≤ 99 := by
  have h1 := in_spec h hn
  rw [Int32.toInt_toInt64] at h1
  have e0 : (1 : Int64).toInt = 1 := rfl
  have e : (99 : Int64).toInt = 99 := rfl
  have e2 : x.toNatClampNeg = x.toInt.toNat := rfl
  omega
theorem rn_rng {v y : Int32} (hv : 0 ≤ v.toInt ∧ v.toInt ≤ 65536) (e : y = ((((75 : Int64) * (v.toInt64)) + (74 : Int64)) - (((75 : Int64) * (v.toInt64)) + (74 : Int64)) / (65537 : Int64) * (65537 : Int64)).toInt32) : 0 ≤ y.toInt ∧ y.toInt ≤ 65536 := by
  obtain ⟨j, hj, rfl⟩ := nI_nn hv.1
  rw [nI_toInt hj] at hv
  rw [nI_l hj, show (75 : Int64) = lN 75 from rfl, show (74 : Int64) = lN 74 from rfl, show (65537 : Int64) = lN 65537 from rfl, lN_mul, lN_add, pk_lRem (by omega) (by decide) (by decide), lN_i] at e
  subst e
  have h1 : (75 * j + 74) % 65537 < 65537 := Nat.mod_lt _ (by decide)
  rw [nI_toInt (by omega)]
  omega
theorem mod24_in {y : Int32} (h : 0 ≤ y.toInt) : vp_in (y / (24 : Int32) - y / (24 : Int32) / (24 : Int32) * (24 : Int32)) 24 := by
  obtain ⟨j, hj, rfl⟩ := nI_nn h
  rw [show (24 : Int32) = nI 24 from rfl, pk_div hj (by decide) (by decide), pk_rem (Nat.lt_of_le_of_lt (Nat.div_le_self _ _) hj) (by decide) (by decide)]
  exact vp_in_nI (Nat.mod_lt _ (by decide)) (by decide)
theorem vp_in_nIe {x : Int32} {n N : Nat} (e : x = nI n) (h : n < N) (hN : N < 2 ^ 31) : vp_in x N := by
  subst e
  exact vp_in_nI h hN
theorem pass_at {kp u : KP} {v r : Int32} {n : Nat} (h : F_X6_pass kp v = (r, u)) (e : iKeptAt kp = nI n) : iKeptAt u = nI (n + 1) := by
  simp only [F_X6_pass] at h
  split at h <;> (cases h; show iKeptAt kp + 1 = _; rw [e]; exact nI_1 n)
theorem pass_2 {k0 k1 k2 : KP} {v1 v2 r1 r2 : Int32} {nb i : Nat} (e : iKeptAt k0 = nI (nb + 166 + 2 * i)) (h1 : F_X6_pass k0 v1 = (r1, k1)) (h2 : F_X6_pass k1 v2 = (r2, k2)) : iKeptAt k2 = nI (nb + 166 + 2 * (i + 1)) := by
  exact pass_at h2 (pass_at h1 e)
theorem pass_3 {k0 k1 k2 k3 : KP} {v1 v2 v3 r1 r2 r3 : Int32} {nb i : Nat} (e : iKeptAt k0 = nI (nb + 4 + 3 * i)) (h1 : F_X6_pass k0 v1 = (r1, k1)) (h2 : F_X6_pass k1 v2 = (r2, k2)) (h3 : F_X6_pass k2 v3 = (r3, k3)) : iKeptAt k3 = nI (nb + 4 + 3 * (i + 1)) := by
  exact pass_at h3 (pass_at h2 (pass_at h1 e))
theorem pa50_n {nb : Nat} : ∀ (n i : Nat) (lv : LV) (kp : KP), i ≤ 6 → 6 < i + n → iKeptAt kp = nI (nb + 4 + 3 * i) → iKeptAt (L_X6_passAll_50 n i lv kp).2 = nI (nb + 22 + 0) := by
  intro n
  induction n with
  | zero => intro i lv kp h1 h2; omega
  | succ n ih =>
    intro i lv kp h1 h2 e
    rw [L_X6_passAll_50_s]
    by_cases c : (6 : Int32) ≤ nI i
    · rw [if_pos c]
      have h3 : i = 6 := by
        rcases Nat.lt_or_ge i 6 with q | q
        · exact absurd c (nI_ge (a := i) (b := 6) q (by decide))
        · omega
      subst h3
      exact e
    · rw [if_neg c]
      have h3 := lt_g c h1 (by decide)
      exact ih (i + 1) _ _ (by omega) (by omega) (pass_3 e rfl rfl rfl)
theorem pa112_n {nb : Nat} : ∀ (n i : Nat) (lv : LV) (kp : KP), i ≤ 144 → 144 < i + n → iKeptAt kp = nI (nb + 22 + i) → iKeptAt (L_X6_passAll_112 n i lv kp).2 = nI (nb + 166 + 2 * 0) := by
  intro n
  induction n with
  | zero => intro i lv kp h1 h2; omega
  | succ n ih =>
    intro i lv kp h1 h2 e
    rw [L_X6_passAll_112_s]
    by_cases c : (144 : Int32) ≤ nI i
    · rw [if_pos c]
      have h3 : i = 144 := by
        rcases Nat.lt_or_ge i 144 with q | q
        · exact absurd c (nI_ge (a := i) (b := 144) q (by decide))
        · omega
      subst h3
      exact e
    · rw [if_neg c]
      have h3 := lt_g c h1 (by decide)
      exact ih (i + 1) _ _ (by omega) (by omega) (pass_at rfl e)
theorem pa50 {lv : LV} {kp : KP} {w : LV × KP} {nb : Nat} (h : L_X6_passAll_50 (6 + 1) 0 lv kp = w) (e : iKeptAt kp = nI (nb + 4)) : iKeptAt w.2 = nI (nb + 22 + 0) := by
  subst h
  exact pa50_n _ 0 lv kp (by omega) (by omega) e
theorem pa112 {lv : LV} {kp : KP} {w : LV × KP} {nb : Nat} (h : L_X6_passAll_112 (144 + 1) 0 lv kp = w) (e : iKeptAt kp = nI (nb + 22 + 0)) : iKeptAt w.2 = nI (nb + 166 + 2 * 0) := by
  subst h
  exact pa112_n _ 0 lv kp (by omega) (by omega) e
theorem im_at {k a : Int32} {b c : Nat → Int32} (h : vp_in k 2) : iKeptAt (((190 : Int32) * k), a, b, c) = nI (190 * k.toNatClampNeg) := by
  obtain ⟨j, hj, rfl⟩ := vp_in_of h (by decide)
  show (190 : Int32) * nI j = _
  rw [show (190 : Int32) = nI 190 from rfl, pk_mul, nI_clamp (by omega)]
theorem im_le {k : Int32} (h : vp_in k 2) : 190 * k.toNatClampNeg + 182 ≤ 380 := by
  obtain ⟨j, hj, rfl⟩ := vp_in_of h (by decide)
  rw [nI_clamp (by omega)]
  omega
theorem low_ne_n : ∀ (n : Nat) (b a : Int64), b.toInt.toNat < n → 0 < a.toInt → 0 ≤ b.toInt → 0 < (L_X6_lowest_6 n b a).2.toInt := by
  intro n
  induction n with
  | zero => intro b a h; omega
  | succ n ih =>
    intro b a h1 h2 h3
    rw [L_X6_lowest_6_s]
    by_cases c : lg_cmp b 0 = 0
    · rw [if_pos c]
      exact h2
    · rw [if_neg c]
      have hb := lg_ne c
      have h4 := low_p ⟨h2, h3⟩ hb
      exact ih _ _ (low_m ⟨h2, h3⟩ hb h1) h4.1 h4.2
theorem low_ne {xu xl : Int64} {w : Int64 × Int64} (h : L_X6_lowest_6 (xu.toInt.toNat + 1) xu xl = w) (hl : 0 < xl.toInt) (hu : 0 ≤ xu.toInt) : ¬ w.2 = 0 := by
  subst h
  have h1 := low_ne_n (xu.toInt.toNat + 1) xu xl (by omega) hl hu
  intro e
  rw [e] at h1
  exact absurd h1 (by decide)
