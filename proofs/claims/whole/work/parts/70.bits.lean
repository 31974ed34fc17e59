/-! bits (the first family of kit/laws/BITS.to-paste, as given there) -/
def bt (x : Int32) (i : Nat) : Bool := x.toBitVec.getLsbD i
theorem b_ext {x y : Int32} (h : ∀ i, i < 32 → bt x i = bt y i) : x = y := Int32.toBitVec_inj.mp (BitVec.eq_of_getLsbD_eq (fun i hi => h i hi))
theorem b_or (x y : Int32) (i : Nat) : bt (x ||| y) i = (bt x i || bt y i) := by unfold bt; rw [Int32.toBitVec_or, BitVec.getLsbD_or]
theorem b_and (x y : Int32) (i : Nat) : bt (x &&& y) i = (bt x i && bt y i) := by unfold bt; rw [Int32.toBitVec_and, BitVec.getLsbD_and]
theorem b_xor (x y : Int32) (i : Nat) : bt (x ^^^ y) i = (bt x i ^^ bt y i) := by unfold bt; rw [Int32.toBitVec_xor, BitVec.getLsbD_xor]
theorem b_big {x : Int32} {i : Nat} (h : 32 ≤ i) : bt x i = false := BitVec.getLsbD_of_ge _ _ h
theorem b_m1 : ∀ i, i < 32 → bt (-1) i = true := by decide +kernel
theorem b_0 (i : Nat) : bt 0 i = false := BitVec.getLsbD_zero
theorem s_l : ∀ n, n < 32 → ((nI n &&& 31).toBitVec.smod 32).toNat = n := by decide +kernel
theorem s_u : ∀ n, n < 32 → (((nI n).toUInt32 &&& Int32.toUInt32 31).toBitVec % 32).toNat = n := by decide +kernel
theorem b_shl (n : Nat) (hn : n < 32) (x : Int32) {i : Nat} (hi : i < 32) : bt (x <<< (nI n &&& 31)) i = (decide (n ≤ i) && bt x (i - n)) := by
  unfold bt
  rw [Int32.toBitVec_shiftLeft]
  show (x.toBitVec <<< ((nI n &&& 31).toBitVec.smod 32).toNat).getLsbD i = _
  rw [s_l n hn, BitVec.getLsbD_shiftLeft]
  rcases Nat.lt_or_ge i n with h | h
  · simp [h, Nat.not_le.mpr h]
  · simp [hi, h, Nat.not_lt.mpr h]
theorem b_ushr (n : Nat) (hn : n < 32) (x : Int32) (i : Nat) : bt ((x.toUInt32 >>> ((nI n).toUInt32 &&& Int32.toUInt32 31)).toInt32) i = bt x (n + i) := by
  show (x.toUInt32 >>> ((nI n).toUInt32 &&& Int32.toUInt32 31)).toBitVec.getLsbD i = x.toUInt32.toBitVec.getLsbD (n + i)
  rw [UInt32.toBitVec_shiftRight]
  show (x.toUInt32.toBitVec >>> (((nI n).toUInt32 &&& Int32.toUInt32 31).toBitVec % 32).toNat).getLsbD i = _
  rw [s_u n hn, BitVec.getLsbD_ushiftRight]
theorem b_sshr (n : Nat) (hn : n < 32) (x : Int32) {i : Nat} (hi : i < 32) : bt (x >>> (nI n &&& 31)) i = if n + i < 32 then bt x (n + i) else bt x 31 := by
  unfold bt
  rw [Int32.toBitVec_shiftRight]
  show (x.toBitVec.sshiftRight ((nI n &&& 31).toBitVec.smod 32).toNat).getLsbD i = _
  rw [s_l n hn, BitVec.getLsbD_sshiftRight, BitVec.msb_eq_getLsbD_last]
  simp [hi]
theorem sh1 : ∀ i, i < 32 → ((1 : Int32) <<< (nI i &&& 31)).toBitVec = BitVec.twoPow 32 i := by decide +kernel
theorem bt_and0 {x : Int32} {i : Nat} (hi : i < 32) : (x &&& ((1 : Int32) <<< (nI i &&& 31))) = 0 ↔ bt x i = false := by
  rw [← Int32.toBitVec_inj, Int32.toBitVec_and, sh1 i hi, BitVec.and_twoPow]
  unfold bt
  by_cases h : x.toBitVec.getLsbD i = true
  · rw [if_pos h, h]
    constructor
    · intro e
      have h1 := (by decide +kernel : ∀ l, l < 32 → BitVec.twoPow 32 l ≠ 0#32) i hi
      exact absurd e h1
    · intro e
      cases e
  · rw [if_neg h]
    have h2 : x.toBitVec.getLsbD i = false := by simpa using h
    exact ⟨fun _ => h2, fun _ => rfl⟩
theorem bt_one {i : Nat} (hi : i < 32) {j : Nat} (hj : j < 32) : bt ((1 : Int32) <<< (nI i &&& 31)) j = decide (i = j) := by
  unfold bt
  rw [sh1 i hi, BitVec.getLsbD_twoPow]
  by_cases h : i = j
  · subst h
    simp [hi]
  · simp [h]
theorem bt_not (x : Int32) {i : Nat} (hi : i < 32) : bt (x ^^^ (-1 : Int32)) i = !bt x i := by
  rw [b_xor, b_m1 i hi]
  cases bt x i <;> rfl
theorem bt_shr1 {x : Int32} {i : Nat} (hi : i < 32) : ((x >>> (nI i &&& 31)) &&& (1 : Int32)) = 1 ↔ bt x i = true := by
  have one : ∀ j, j < 32 → bt (1 : Int32) j = decide (j = 0) := by decide +kernel
  have h0 : bt (x >>> (nI i &&& 31)) 0 = bt x i := by
    rw [b_sshr i hi x (by omega), if_pos (by omega)]
    rfl
  constructor
  · intro e
    have h1 : bt ((x >>> (nI i &&& 31)) &&& (1 : Int32)) 0 = bt (1 : Int32) 0 := by rw [e]
    rw [b_and, one 0 (by omega), h0] at h1
    simpa using h1
  · intro e
    refine b_ext (fun j hj => ?_)
    rw [b_and, one j hj]
    by_cases q : j = 0
    · subst q
      rw [h0, e]
      rfl
    · simp [q]
theorem bt_nI {n : Nat} (h : n < 2 ^ 32) (i : Nat) : bt (nI n) i = n.testBit i := by
  show (BitVec.ofNat 32 n).getLsbD i = n.testBit i
  rw [BitVec.getLsbD_ofNat]
  by_cases q : i < 32
  · simp [q]
  · have h1 : n.testBit i = false := Nat.testBit_lt_two_pow (Nat.lt_of_lt_of_le h (Nat.pow_le_pow_right (by decide) (by omega)))
    simp [q, h1]
/-- a number below 2^k has no bit from k on -/
theorem bt_small {x : Int32} {k : Nat} (h : vp_in x (2 ^ k)) (hk : k ≤ 30) {i : Nat} (hi : k ≤ i) : bt x i = false := by
  have hk2 : 2 ^ k ≤ 2 ^ 30 := Nat.pow_le_pow_right (by decide) hk
  obtain ⟨n, hn, rfl⟩ := vp_in_of h (by omega)
  rw [bt_nI (by omega)]
  exact Nat.testBit_lt_two_pow (Nat.lt_of_lt_of_le hn (Nat.pow_le_pow_right (by decide) hi))
theorem bt_in {x : Int32} {k : Nat} (hk : k ≤ 30) (h : ∀ i, k ≤ i → i < 32 → bt x i = false) : vp_in x (2 ^ k) := by
  obtain ⟨n, hn, e⟩ : ∃ n, n < 2 ^ 32 ∧ x = nI n := ⟨x.toBitVec.toNat, x.toBitVec.isLt, by
    refine Int32.toBitVec_inj.mp ?_
    show _ = BitVec.ofNat 32 _
    rw [BitVec.ofNat_toNat]
    rfl⟩
  subst e
  have hlt : n < 2 ^ k := by
    refine Nat.lt_pow_two_of_testBit n (fun i hi => ?_)
    rcases Nat.lt_or_ge i 32 with q | q
    · rw [← bt_nI hn]
      exact h i hi q
    · exact Nat.testBit_lt_two_pow (Nat.lt_of_lt_of_le hn (Nat.pow_le_pow_right (by decide) q))
  exact vp_in_nI hlt (by have := Nat.pow_le_pow_right (n := 2) (by decide) hk; omega)
/-! counting bits -/
def pcN : Nat → Nat → Nat
  | 0, _ => 0
  | k + 1, n => n % 2 + pcN k (n / 2)
theorem pcN_z : ∀ k, pcN k 0 = 0 := by
  intro k
  induction k with
  | zero => rfl
  | succ k ih =>
    show 0 % 2 + pcN k (0 / 2) = 0
    rw [Nat.zero_div, ih]
theorem pcN_le : ∀ k n, pcN k n ≤ k := by
  intro k
  induction k with
  | zero => intro n; exact Nat.le_refl _
  | succ k ih =>
    intro n
    show n % 2 + pcN k (n / 2) ≤ k + 1
    have := ih (n / 2)
    omega
theorem pcN_add : ∀ (j k a m : Nat), a < 2 ^ j → pcN (j + k) (a + 2 ^ j * m) = pcN j a + pcN k m := by
  intro j
  induction j with
  | zero =>
    intro k a m h
    have : a = 0 := by omega
    subst this
    show pcN (0 + k) (0 + 1 * m) = 0 + pcN k m
    rw [Nat.zero_add, Nat.zero_add, Nat.one_mul, Nat.zero_add]
  | succ j ih =>
    intro k a m h
    rw [show j + 1 + k = (j + k) + 1 by omega]
    show (a + 2 ^ (j + 1) * m) % 2 + pcN (j + k) ((a + 2 ^ (j + 1) * m) / 2) = a % 2 + pcN j (a / 2) + pcN k m
    have e : a + 2 ^ (j + 1) * m = a + 2 * (2 ^ j * m) := by rw [Nat.pow_succ, Nat.mul_comm (2 ^ j) 2, Nat.mul_assoc]
    rw [e, show (a + 2 * (2 ^ j * m)) % 2 = a % 2 by omega, show (a + 2 * (2 ^ j * m)) / 2 = a / 2 + 2 ^ j * m by omega, ih k (a / 2) m (by rw [Nat.pow_succ] at h; omega)]
    omega
theorem land_split (j a b c d : Nat) (ha : a < 2 ^ j) (hc : c < 2 ^ j) : (a + 2 ^ j * b) &&& (c + 2 ^ j * d) = (a &&& c) + 2 ^ j * (b &&& d) := by
  have hac : a &&& c < 2 ^ j := Nat.lt_of_le_of_lt Nat.and_le_left ha
  apply Nat.eq_of_testBit_eq
  intro i
  have key : ∀ x y : Nat, x < 2 ^ j → (x + 2 ^ j * y).testBit i = if i < j then x.testBit i else y.testBit (i - j) := by
    intro x y hx
    rw [Nat.add_comm, Nat.testBit_two_pow_mul_add y hx]
  rw [Nat.testBit_and, key a b ha, key c d hc, key _ _ hac, Nat.testBit_and, Nat.testBit_and]
  by_cases q : i < j
  · simp only [q, if_true]
  · simp only [q, if_false]
theorem pc_low : ∀ (k n : Nat), 0 < n → n < 2 ^ k → pcN k (n &&& (n - 1)) + 1 = pcN k n := by
  intro k
  induction k with
  | zero => intro n h1 h2; omega
  | succ k ih =>
    intro n h1 h2
    rw [Nat.pow_succ] at h2
    have hs := fun a b c d (h : a < 2) (h' : c < 2) => land_split 1 a b c d h h'
    rcases Nat.mod_two_eq_zero_or_one n with q | q
    · obtain ⟨m, rfl⟩ : ∃ m, n = 0 + 2 ^ 1 * m := ⟨n / 2, by omega⟩
      have e1 : 0 + 2 ^ 1 * m - 1 = 1 + 2 ^ 1 * (m - 1) := by omega
      rw [e1, hs 0 m 1 (m - 1) (by omega) (by omega)]
      show ((0 &&& 1) + 2 ^ 1 * (m &&& (m - 1))) % 2 + pcN k (((0 &&& 1) + 2 ^ 1 * (m &&& (m - 1))) / 2) + 1 = (0 + 2 ^ 1 * m) % 2 + pcN k ((0 + 2 ^ 1 * m) / 2)
      rw [show (0 &&& 1 : Nat) = 0 from rfl, show (0 + 2 ^ 1 * (m &&& (m - 1))) % 2 = 0 by omega, show (0 + 2 ^ 1 * (m &&& (m - 1))) / 2 = m &&& (m - 1) by omega, show (0 + 2 ^ 1 * m) % 2 = 0 by omega, show (0 + 2 ^ 1 * m) / 2 = m by omega]
      have := ih m (by omega) (by omega)
      omega
    · obtain ⟨m, rfl⟩ : ∃ m, n = 1 + 2 ^ 1 * m := ⟨n / 2, by omega⟩
      have e1 : 1 + 2 ^ 1 * m - 1 = 0 + 2 ^ 1 * m := by omega
      rw [e1, hs 1 m 0 m (by omega) (by omega)]
      show ((1 &&& 0) + 2 ^ 1 * (m &&& m)) % 2 + pcN k (((1 &&& 0) + 2 ^ 1 * (m &&& m)) / 2) + 1 = (1 + 2 ^ 1 * m) % 2 + pcN k ((1 + 2 ^ 1 * m) / 2)
      rw [Nat.and_self, show (1 &&& 0 : Nat) = 0 from rfl, show (0 + 2 ^ 1 * m) % 2 = 0 by omega, show (0 + 2 ^ 1 * m) / 2 = m by omega, show (1 + 2 ^ 1 * m) % 2 = 1 by omega, show (1 + 2 ^ 1 * m) / 2 = m by omega]
      omega
theorem nI_and (a b : Nat) : nI a &&& nI b = nI (a &&& b) := by
  apply Int32.toBitVec_inj.1
  show BitVec.ofNat 32 a &&& BitVec.ofNat 32 b = BitVec.ofNat 32 (a &&& b)
  apply BitVec.eq_of_getLsbD_eq
  intro i hi
  simp [hi]
theorem ones_n : ∀ (f n c : Nat), n < f → n < 2 ^ 31 → L_X6_ones_4 f (nI n) (nI c) = ((0 : Int32), nI (c + pcN 31 n)) := by
  intro f
  induction f with
  | zero => intro n c h; omega
  | succ f ih =>
    intro n c h1 h2
    rw [L_X6_ones_4_s]
    by_cases q : n = 0
    · subst q
      rw [if_pos nI_0, pcN_z]
      rfl
    · rw [if_neg (nI_ne0 (by omega) h2), show (1 : Int32) = nI 1 from rfl, pk_sub (by omega), nI_and, nI_add]
      have h3 : n &&& (n - 1) ≤ n - 1 := Nat.and_le_right
      rw [ih (n &&& (n - 1)) (c + 1) (by omega) (by omega)]
      have h4 := pc_low 31 n (by omega) h2
      rw [show c + 1 + pcN 31 (n &&& (n - 1)) = c + pcN 31 n by omega]
theorem ones_nI {n : Nat} (h : n < 2 ^ 31) : F_X6_ones (nI n) = nI (pcN 31 n) := by
  simp only [F_X6_ones, bnd]
  have e : (nI n).toBitVec.toNat = n := pk_tn (by omega)
  rw [e, show (0 : Int32) = nI 0 from rfl, ones_n _ n 0 (by omega) h, Nat.zero_add]
