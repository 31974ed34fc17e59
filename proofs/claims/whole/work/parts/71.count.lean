/-! Integer.bitCount below 2^24: the number of bits -/
def s1 (a : Nat) : Nat := a - ((a / 2) &&& 85)
def s2 (a : Nat) : Nat := (a &&& 51) + ((a / 4) &&& 51)
def s3 (a : Nat) : Nat := (a + a / 16) &&& 15
theorem s_tab : ∀ a, a < 256 → s1 a < 256 ∧ ((a / 2) &&& 85) ≤ a ∧ s2 (s1 a) < 256 ∧ s2 (s1 a) % 16 ≤ 4 ∧ s2 (s1 a) / 16 ≤ 4 ∧ s3 (s2 (s1 a)) = pcN 8 a ∧ (s1 a &&& 51) + ((s1 a / 4) &&& 51) < 256 := by decide +kernel
theorem m85 : ∀ a, a < 256 → ∀ e, e < 2 → (a / 2 + 128 * e) &&& 85 = (a / 2) &&& 85 := by decide +kernel
theorem m51 : ∀ a, a < 256 → ∀ e, e < 4 → (a / 4 + 64 * e) &&& 51 = (a / 4) &&& 51 := by decide +kernel
theorem m15 : ∀ a, a < 256 → a % 16 ≤ 4 → a / 16 ≤ 4 → ∀ e, e < 5 → (a + a / 16 + 16 * e) &&& 15 = s3 a := by decide +kernel
theorem l8 {a b c d : Nat} (ha : a < 256) (hc : c < 256) : (a + 256 * b) &&& (c + 256 * d) = (a &&& c) + 256 * (b &&& d) := land_split 8 a b c d ha hc
theorem and_le3 (a m : Nat) : a &&& m ≤ a := Nat.and_le_left
theorem st1 {a b c : Nat} (ha : a < 256) (hb : b < 256) (hc : c < 256) : ((a + 256 * (b + 256 * c)) / 2) &&& 1431655765 = ((a / 2) &&& 85) + 256 * (((b / 2) &&& 85) + 256 * ((c / 2) &&& 85)) := by
  have e : (a + 256 * (b + 256 * c)) / 2 = (a / 2 + 128 * (b % 2)) + 256 * ((b / 2 + 128 * (c % 2)) + 256 * (c / 2 + 128 * 0)) := by omega
  have hM : (1431655765 : Nat) = 85 + 256 * (85 + 256 * (85 + 256 * 85)) := rfl
  have e4 : c / 2 + 128 * 0 = (c / 2 + 128 * 0) + 256 * 0 := by omega
  rw [e, hM, l8 (by omega) (by omega), l8 (by omega) (by omega), e4, l8 (by omega) (by omega), m85 a ha _ (by omega), m85 b hb _ (by omega), m85 c hc 0 (by omega), Nat.zero_and, Nat.mul_zero, Nat.add_zero]
theorem st2a {a b c : Nat} (ha : a < 256) (hb : b < 256) (hc : c < 256) : (a + 256 * (b + 256 * c)) &&& 858993459 = (a &&& 51) + 256 * ((b &&& 51) + 256 * (c &&& 51)) := by
  have hM : (858993459 : Nat) = 51 + 256 * (51 + 256 * (51 + 256 * 51)) := rfl
  have e4 : a + 256 * (b + 256 * c) = a + 256 * (b + 256 * (c + 256 * 0)) := by omega
  rw [e4, hM, l8 ha (by omega), l8 hb (by omega), l8 hc (by omega), Nat.zero_and, Nat.mul_zero, Nat.add_zero]
theorem st2b {a b c : Nat} (ha : a < 256) (hb : b < 256) (hc : c < 256) : ((a + 256 * (b + 256 * c)) / 4) &&& 858993459 = ((a / 4) &&& 51) + 256 * (((b / 4) &&& 51) + 256 * ((c / 4) &&& 51)) := by
  have e : (a + 256 * (b + 256 * c)) / 4 = (a / 4 + 64 * (b % 4)) + 256 * ((b / 4 + 64 * (c % 4)) + 256 * (c / 4 + 64 * 0)) := by omega
  rw [e, st2a (by omega) (by omega) (by omega), m51 a ha _ (by omega), m51 b hb _ (by omega), m51 c hc 0 (by omega)]
theorem st3 {a b c : Nat} (ha : a < 256 ∧ a % 16 ≤ 4 ∧ a / 16 ≤ 4) (hb : b < 256 ∧ b % 16 ≤ 4 ∧ b / 16 ≤ 4) (hc : c < 256 ∧ c % 16 ≤ 4 ∧ c / 16 ≤ 4) : ((a + 256 * (b + 256 * c)) + (a + 256 * (b + 256 * c)) / 16) &&& 252645135 = s3 a + 256 * (s3 b + 256 * s3 c) := by
  have e : (a + 256 * (b + 256 * c)) + (a + 256 * (b + 256 * c)) / 16 = (a + a / 16 + 16 * (b % 16)) + 256 * ((b + b / 16 + 16 * (c % 16)) + 256 * ((c + c / 16 + 16 * 0) + 256 * 0)) := by omega
  have hM : (252645135 : Nat) = 15 + 256 * (15 + 256 * (15 + 256 * 15)) := rfl
  rw [e, hM, l8 (by omega) (by omega), l8 (by omega) (by omega), l8 (by omega) (by omega), Nat.zero_and, m15 a ha.1 ha.2.1 ha.2.2 _ (by omega), m15 b hb.1 hb.2.1 hb.2.2 _ (by omega), m15 c hc.1 hc.2.1 hc.2.2 0 (by omega), Nat.mul_zero, Nat.add_zero]
theorem mask63 (n : Nat) : n &&& 63 = n % 64 := Nat.and_two_pow_sub_one_eq_mod n 6
theorem us {n : Nat} (hn : n < 2 ^ 32) (s : Int32) (k : Nat) (hs : ((s.toUInt32 &&& Int32.toUInt32 31).toBitVec % 32).toNat = k) : ((nI n).toUInt32 >>> (s.toUInt32 &&& Int32.toUInt32 31)).toInt32 = nI (n / 2 ^ k) := pk_ushrN hn s k hs
theorem bitCount_nI {n : Nat} (h : n < 2 ^ 24) : F_J6_bitCount_0f7a4 (nI n) = nI (pcN 31 n) := by
  obtain ⟨a, b, c, ha, hb, hc, rfl⟩ : ∃ a b c, a < 256 ∧ b < 256 ∧ c < 256 ∧ n = a + 256 * (b + 256 * c) := ⟨n % 256, n / 256 % 256, n / 65536, by omega, by omega, by omega, by omega⟩
  obtain ⟨ta1, ta2, ta3, ta4, ta5, ta6, ta7⟩ := s_tab a ha
  obtain ⟨tb1, tb2, tb3, tb4, tb5, tb6, tb7⟩ := s_tab b hb
  obtain ⟨tc1, tc2, tc3, tc4, tc5, tc6, tc7⟩ := s_tab c hc
  have hpa := pcN_le 8 a
  have hpb := pcN_le 8 b
  have hpc := pcN_le 8 c
  have E1 : nI (a + 256 * (b + 256 * c)) - (((nI (a + 256 * (b + 256 * c))).toUInt32 >>> ((1 : Int32).toUInt32 &&& Int32.toUInt32 31)).toInt32 &&& (1431655765 : Int32)) = nI (s1 a + 256 * (s1 b + 256 * s1 c)) := by
    rw [us (by omega) 1 1 (by decide), show (1431655765 : Int32) = nI 1431655765 from rfl, nI_and, show (2 ^ 1 : Nat) = 2 from rfl, st1 ha hb hc, pk_sub (by omega)]
    exact congrArg nI (by unfold s1; omega)
  have E2 : (nI (s1 a + 256 * (s1 b + 256 * s1 c)) &&& (858993459 : Int32)) + (((nI (s1 a + 256 * (s1 b + 256 * s1 c))).toUInt32 >>> ((2 : Int32).toUInt32 &&& Int32.toUInt32 31)).toInt32 &&& (858993459 : Int32)) = nI (s2 (s1 a) + 256 * (s2 (s1 b) + 256 * s2 (s1 c))) := by
    rw [us (by omega) 2 2 (by decide), show (858993459 : Int32) = nI 858993459 from rfl, nI_and, nI_and, show (2 ^ 2 : Nat) = 4 from rfl, st2a ta1 tb1 tc1, st2b ta1 tb1 tc1, nI_add]
    exact congrArg nI (by unfold s2; omega)
  have E3 : (nI (s2 (s1 a) + 256 * (s2 (s1 b) + 256 * s2 (s1 c))) + ((nI (s2 (s1 a) + 256 * (s2 (s1 b) + 256 * s2 (s1 c)))).toUInt32 >>> ((4 : Int32).toUInt32 &&& Int32.toUInt32 31)).toInt32) &&& (252645135 : Int32) = nI (pcN 8 a + 256 * (pcN 8 b + 256 * pcN 8 c)) := by
    rw [us (by omega) 4 4 (by decide), show (252645135 : Int32) = nI 252645135 from rfl, nI_add, nI_and, show (2 ^ 4 : Nat) = 16 from rfl, st3 ⟨ta3, ta4, ta5⟩ ⟨tb3, tb4, tb5⟩ ⟨tc3, tc4, tc5⟩, ta6, tb6, tc6]
  have E4 : nI (pcN 8 a + 256 * (pcN 8 b + 256 * pcN 8 c)) + ((nI (pcN 8 a + 256 * (pcN 8 b + 256 * pcN 8 c))).toUInt32 >>> ((8 : Int32).toUInt32 &&& Int32.toUInt32 31)).toInt32 = nI ((pcN 8 a + pcN 8 b) + 256 * (pcN 8 b + pcN 8 c) + 65536 * pcN 8 c) := by
    rw [us (by omega) 8 8 (by decide), nI_add, show (2 ^ 8 : Nat) = 256 from rfl]
    exact congrArg nI (by omega)
  have E5 : nI ((pcN 8 a + pcN 8 b) + 256 * (pcN 8 b + pcN 8 c) + 65536 * pcN 8 c) + ((nI ((pcN 8 a + pcN 8 b) + 256 * (pcN 8 b + pcN 8 c) + 65536 * pcN 8 c)).toUInt32 >>> ((16 : Int32).toUInt32 &&& Int32.toUInt32 31)).toInt32 = nI ((pcN 8 a + pcN 8 b + pcN 8 c) + 64 * (4 * (pcN 8 b + pcN 8 c) + 1024 * pcN 8 c)) := by
    rw [us (by omega) 16 16 (by decide), nI_add, show (2 ^ 16 : Nat) = 65536 from rfl]
    exact congrArg nI (by omega)
  have P1 : pcN 31 (a + 256 * (b + 256 * c)) = pcN 8 a + pcN 23 (b + 256 * c) := pcN_add 8 23 a _ ha
  have P2 : pcN 23 (b + 256 * c) = pcN 8 b + pcN 15 c := pcN_add 8 15 b c hb
  have P3 : pcN 15 (c + 2 ^ 8 * 0) = pcN 8 c + pcN 7 0 := pcN_add 8 7 c 0 hc
  rw [pcN_z, Nat.mul_zero, Nat.add_zero, Nat.add_zero] at P3
  unfold F_J6_bitCount_0f7a4
  rw [E1, E2, E3, E4, E5, show (63 : Int32) = nI 63 from rfl, nI_and, mask63]
  exact congrArg nI (by omega)
theorem bitCount_ones {x : Int32} (h : vp_in x (2 ^ 24)) : F_J6_bitCount_0f7a4 x = F_X6_ones x := by
  obtain ⟨n, hn, rfl⟩ := vp_in_of h (by decide)
  rw [bitCount_nI hn, ones_nI (by omega)]
