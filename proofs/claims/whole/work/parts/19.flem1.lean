/-! what the pure functions say of places in rows -/
theorem fb_rng' (x : Int32) : -2147483648 ≤ x.toInt ∧ x.toInt < 2147483648 := ⟨Int32.le_toInt x, Int32.toInt_lt x⟩
theorem in_gd {x N : Int32} {n : Nat} (h1 : ¬ x < 0) (h2 : ¬ N ≤ x) (hN : N.toInt ≤ (n : Int)) : vp_in x n := by
  rw [Int32.lt_iff_toInt_lt] at h1
  rw [Int32.le_iff_toInt_le] at h2
  have e0 : (0 : Int32).toInt = 0 := rfl
  rw [e0] at h1
  exact vp_in_iff.mpr ⟨by omega, by omega⟩
theorem in_lt {x N : Int32} {n : Nat} (h1 : ¬ x < 0) (h2 : x < N) (hN : N.toInt ≤ (n : Int)) : vp_in x n := by
  rw [Int32.lt_iff_toInt_lt] at h1 h2
  have e0 : (0 : Int32).toInt = 0 := rfl
  rw [e0] at h1
  exact vp_in_iff.mpr ⟨by omega, by omega⟩
theorem lt_g {i B : Nat} {N : Int32} (h : ¬ N ≤ nI i) (hi : i ≤ B) (hB : N.toInt = (B : Int) ∧ B < 2147483648) : i < B := by
  rw [Int32.le_iff_toInt_le, nI_toInt (show i < 2 ^ 31 by omega)] at h
  omega
theorem in_144 {xc xh : Int32} (hc : vp_in xc 6) (hh : vp_in xh 24) : vp_in (xc * (24 : Int32) + xh) 144 := by
  obtain ⟨j, hj, rfl⟩ := vp_in_of hc (by decide)
  obtain ⟨q, hq, rfl⟩ := vp_in_of hh (by decide)
  rw [show (24 : Int32) = nI 24 from rfl, pk_mul, nI_add]
  exact vp_in_nI (by omega) (by decide)
theorem wi_in {x b r : Int32} {n : Nat} (h : F_X5_isWithin x 0 b = r) (hn : ¬ r = 0) (hb : b.toInt < (n : Int)) : vp_in x n := by
  subst h
  unfold F_X5_isWithin at hn
  by_cases h1 : x < 0
  · rw [if_pos h1] at hn
    exact absurd rfl hn
  · rw [if_neg h1] at hn
    by_cases h2 : b < x
    · rw [if_pos h2] at hn
      exact absurd rfl hn
    · rw [Int32.lt_iff_toInt_lt] at h1 h2
      have e0 : (0 : Int32).toInt = 0 := rfl
      rw [e0] at h1
      exact vp_in_iff.mpr ⟨by omega, by omega⟩
theorem there_in {k : KS} {xc r : Int32} (h : F_X1_isThere k xc = r) (hn : ¬ r = 0) : vp_in xc 6 := by
  subst h
  unfold F_X1_isThere at hn
  by_cases h1 : xc < 0
  · rw [if_pos h1] at hn
    exact absurd rfl hn
  · rw [if_neg h1] at hn
    by_cases h2 : (6 : Int32) ≤ xc
    · rw [if_pos h2] at hn
      exact absurd rfl hn
    · exact in_gd h1 h2 (by decide)
theorem own_in {k : KS} {xc xh r : Int32} (h : F_X1_owns k xc xh = r) (hn : ¬ r = 0) : vp_in xc 6 ∧ vp_in xh 24 := by
  subst h
  unfold F_X1_owns at hn
  by_cases h1 : xc < 0
  · rw [if_pos h1] at hn
    exact absurd rfl hn
  · rw [if_neg h1] at hn
    by_cases h2 : (6 : Int32) ≤ xc
    · rw [if_pos h2] at hn
      exact absurd rfl hn
    · rw [if_neg h2] at hn
      by_cases h3 : xh < 0
      · rw [if_pos h3] at hn
        exact absurd rfl hn
      · rw [if_neg h3] at hn
        by_cases h4 : (24 : Int32) ≤ xh
        · rw [if_pos h4] at hn
          exact absurd rfl hn
        · exact ⟨in_gd h1 h2 (by decide), in_gd h3 h4 (by decide)⟩
theorem lt_c {i : Nat} {x : Int32} (h : ¬ x ≤ nI i) (hi : i ≤ x.toNatClampNeg) : i < x.toNatClampNeg := by
  rcases Nat.lt_or_ge i x.toNatClampNeg with q | q
  · exact q
  · exfalso
    have e : i = x.toNatClampNeg := Nat.le_antisymm hi q
    have h1 : x.toInt < 2147483648 := (fb_rng' x).2
    have h2 : x.toNatClampNeg = x.toInt.toNat := rfl
    have h3 : i < 2 ^ 31 := by omega
    rw [Int32.le_iff_toInt_le, nI_toInt h3] at h
    omega
theorem dn_pos {i : Nat} (h : ¬ nI i + (-1 : Int32) < 0) : 0 < i := by
  rcases Nat.eq_zero_or_pos i with q | q
  · subst q
    exact absurd (by decide) h
  · exact q
theorem dn_e {i : Nat} (h : 0 < i) : nI i + (-1 : Int32) = nI (i - 1) := by
  obtain ⟨j, rfl⟩ : ∃ j, i = j + 1 := ⟨i - 1, by omega⟩
  exact pk_m1 j
theorem ne_1 {b : Int32} (h : (1 : Int32) ≤ b) : ¬ b = 0 := by
  intro e
  subst e
  exact absurd h (by decide)
theorem lg_ne {b : Int64} (h : ¬ lg_cmp b 0 = 0) : ¬ b = 0 := by
  intro e
  subst e
  exact h (by decide)
theorem lg_ne1 {b : Int64} (h : 0 ≤ lg_cmp b 1) : ¬ b = 0 := by
  intro e
  subst e
  exact absurd h (by decide)
