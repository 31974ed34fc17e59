/-! strikes and how often -/
theorem count6 (xa xx xb xy : Int32) : F_X6_isStrike xa xx xb xy = F_X5_areCountries xa xx xb xy := by
  unfold F_X6_isStrike F_X5_areCountries
  simp only [bnd_def]
  rw [inW (x := xa) (a := 1) (b := 999) (by decide) (by decide), inW (x := xb) (a := 1) (b := 999) (by decide) (by decide), inW (x := xx) (a := 0) (b := xa - 1) (by decide) (Int32.toInt_toInt64 _), inW (x := xy) (a := 0) (b := xb - 1) (by decide) (Int32.toInt_toInt64 _)]
def hitN (A X B Y j : Nat) : Prop := (X + A * j) % B = Y
theorem hit_mod (A X B Y j : Nat) : hitN A X B Y j ↔ hitN A X B Y (j % B) := by
  unfold hitN
  have e : (X + A * j) % B = (X + A * (j % B)) % B := by
    rw [Nat.add_mod, Nat.mul_mod, Nat.add_mod X (A * (j % B)), Nat.mul_mod A (j % B), Nat.mod_mod]
  rw [e]
theorem mul_lt1000 {a b : Nat} (ha : a ≤ 999) (hb : b ≤ 999) : a * b ≤ 998001 := Nat.le_trans (Nat.mul_le_mul ha hb) (by decide)
theorem fs_n {A X B Y : Nat} (hA : 1 ≤ A ∧ A ≤ 999) (hB : 1 ≤ B ∧ B ≤ 999) (hX : X < A) (hY : Y < B) : ∀ (n i : Nat), i ≤ B → B < i + n → ((∀ j, i ≤ j → j < B → ¬ hitN A X B Y j) → L_X5_firstStrike_14 (nI A) (nI B) (nI Y) n i (nI (X + A * i)) = -6) ∧ (∀ j, i ≤ j → j < B → hitN A X B Y j → (∀ t, i ≤ t → t < j → ¬ hitN A X B Y t) → L_X5_firstStrike_14 (nI A) (nI B) (nI Y) n i (nI (X + A * i)) = nI (X + A * j)) := by
  intro n
  induction n with
  | zero => intro i h1 h2; omega
  | succ n ih =>
    intro i h1 h2
    rw [L_X5_firstStrike_14_s]
    by_cases q : i = B
    · rw [if_pos (nI_le (by omega) (by omega))]
      exact ⟨fun _ => rfl, fun j h3 h4 => by omega⟩
    · have hm : A * i ≤ 998001 := mul_lt1000 hA.2 (by omega)
      rw [if_neg (nI_ge (by omega) (by omega)), pk_rem (by omega) (by omega) (by omega), nI_add, show X + A * i + A = X + A * (i + 1) by rw [Nat.mul_succ]; omega]
      obtain ⟨g1, g2⟩ := ih (i + 1) (by omega) (by omega)
      have hmod : (X + A * i) % B < B := Nat.mod_lt _ (by omega)
      by_cases h : hitN A X B Y i
      · rw [if_pos (by rw [show (X + A * i) % B = Y from h])]
        refine ⟨fun z => absurd h (z i (by omega) (by omega)), fun j h3 h4 h5 h6 => ?_⟩
        by_cases e : j = i
        · rw [e]
        · exact absurd h (h6 i (by omega) (by omega))
      · rw [if_neg (fun e => h ((nI_eq (by omega) (by omega)).mp e))]
        refine ⟨fun z => g1 (fun j h3 h4 => z j (by omega) h4), fun j h3 h4 h5 h6 => ?_⟩
        have hj : j ≠ i := fun e => h (by rw [← e]; exact h5)
        exact g2 j (by omega) h4 h5 (fun t h7 h8 => h6 t (by omega) h8)
theorem st_n {A X B Y : Nat} (hA : 1 ≤ A ∧ A ≤ 999) (hB : 1 ≤ B ∧ B ≤ 999) (hX : X < A) (hY : Y < B) : ∀ (n i : Nat), X + A * i < 1001000 → 1001000 < X + A * i + n → ((∀ j, ¬ hitN A X B Y j) → L_X6_strikes_17 (nI A) (nI B) (nI Y) n (nI (X + A * i)) = -6) ∧ (∀ j, i ≤ j → X + A * j < 1000000 → hitN A X B Y j → (∀ t, i ≤ t → t < j → ¬ hitN A X B Y t) → L_X6_strikes_17 (nI A) (nI B) (nI Y) n (nI (X + A * i)) = nI (X + A * j)) := by
  intro n
  induction n with
  | zero => intro i h1 h2; omega
  | succ n ih =>
    intro i h1 h2
    rw [L_X6_strikes_17_s]
    by_cases q : 1000000 ≤ X + A * i
    · rw [if_pos (show (1000000 : Int32) ≤ nI (X + A * i) from nI_le (a := 1000000) q (by omega))]
      refine ⟨fun _ => rfl, fun j h3 h4 => ?_⟩
      have := Nat.mul_le_mul_left A h3
      omega
    · have es : X + A * i + A = X + A * (i + 1) := by rw [Nat.mul_succ]; omega
      rw [if_neg (show ¬ (1000000 : Int32) ≤ nI (X + A * i) from nI_ge (b := 1000000) (by omega) (by decide)), pk_rem (by omega) (by omega) (by omega), nI_add, es]
      obtain ⟨g1, g2⟩ := ih (i + 1) (by omega) (by omega)
      have hmod : (X + A * i) % B < B := Nat.mod_lt _ (by omega)
      by_cases h : hitN A X B Y i
      · rw [if_pos (by rw [show (X + A * i) % B = Y from h])]
        refine ⟨fun z => absurd h (z i), fun j h3 h4 h5 h6 => ?_⟩
        by_cases e : j = i
        · rw [e]
        · exact absurd h (h6 i (by omega) (by omega))
      · rw [if_neg (fun e => h ((nI_eq (by omega) (by omega)).mp e))]
        refine ⟨fun z => g1 z, fun j h3 h4 h5 h6 => ?_⟩
        have hj : j ≠ i := fun e => h (by rw [← e]; exact h5)
        exact g2 j (by omega) h4 h5 (fun t h7 h8 => h6 t (by omega) h8)
/-- the first strike, in numbers -/
theorem fs_all {A X B Y : Nat} (hA : 1 ≤ A ∧ A ≤ 999) (hB : 1 ≤ B ∧ B ≤ 999) (hX : X < A) (hY : Y < B) : ((∀ j, ¬ hitN A X B Y j) ∧ F_X5_firstStrike (nI A) (nI X) (nI B) (nI Y) = -6) ∨ (∃ j, j < B ∧ hitN A X B Y j ∧ (∀ t, t < j → ¬ hitN A X B Y t) ∧ F_X5_firstStrike (nI A) (nI X) (nI B) (nI Y) = nI (X + A * j)) := by
  have e : F_X5_firstStrike (nI A) (nI X) (nI B) (nI Y) = L_X5_firstStrike_14 (nI A) (nI B) (nI Y) (B + 1) 0 (nI (X + A * 0)) := by
    unfold F_X5_firstStrike
    rw [if_pos ((nI1_le (by omega)).mpr hB.1), nI_clamp (by omega), show X + A * 0 = X by omega]
  rw [e]
  obtain ⟨g1, g2⟩ := fs_n hA hB hX hY (B + 1) 0 (by omega) (by omega)
  by_cases h : ∃ j, hitN A X B Y j
  · right
    obtain ⟨j, hj, hl⟩ := pk_least _ h
    have hjB : j < B := by
      rcases Nat.lt_or_ge j B with t | t
      · exact t
      · have h2 := (hit_mod A X B Y j).mp hj
        have h3 : j % B < B := Nat.mod_lt _ (by omega)
        exact absurd h2 (hl _ (by omega))
    exact ⟨j, hjB, hj, hl, g2 j (Nat.zero_le _) hjB hj (fun t _ ht => hl t ht)⟩
  · left
    have h' : ∀ j, ¬ hitN A X B Y j := fun j hj => h ⟨j, hj⟩
    exact ⟨h', g1 (fun j _ _ => h' j)⟩
theorem st_nat {a x b y : Int32} (h : stOK a x b y) : ∃ A X B Y : Nat, a = nI A ∧ x = nI X ∧ b = nI B ∧ y = nI Y ∧ (1 ≤ A ∧ A ≤ 999) ∧ (1 ≤ B ∧ B ≤ 999) ∧ X < A ∧ Y < B := by
  unfold stOK at h
  obtain ⟨A, hA, rfl⟩ := nI_nn (x := a) (by omega)
  obtain ⟨X, hX, rfl⟩ := nI_nn (x := x) (by omega)
  obtain ⟨B, hB, rfl⟩ := nI_nn (x := b) (by omega)
  obtain ⟨Y, hY, rfl⟩ := nI_nn (x := y) (by omega)
  rw [nI_toInt hA, nI_toInt hX, nI_toInt hB, nI_toInt hY] at h
  exact ⟨A, X, B, Y, rfl, rfl, rfl, rfl, by omega, by omega, by omega, by omega⟩
section A5
variable {gg : GS} {k kE kF : KS} {pp : PS} {lv : LV} {sg : SG} {pd : PD} {kp : KP}
theorem api_strikes {xa xx xb xy : Int32} {r1 r2 : Int32} (hrel : REL gg k kE kF pp lv sg pd kp) (e1 : F_X5_strikes xa xx xb xy = r1) (e2 : F_X6_strikes xa xx xb xy = r2) : r1 = r2 ∧ REL gg k kE kF pp lv sg pd kp := by
  refine ⟨?_, hrel⟩
  rw [← e1, ← e2]
  clear e1 e2
  unfold F_X5_strikes F_X6_strikes
  simp only [bnd_def]
  rw [count6]
  by_cases w : F_X5_areCountries xa xx xb xy = 0
  · rw [if_pos w, if_pos w]
  · rw [if_neg w, if_neg w]
    obtain ⟨A, X, B, Y, rfl, rfl, rfl, rfl, hA, hB, hX, hY⟩ := st_nat (strike_in (count6 _ _ _ _) w)
    have ef : L_X6_strikes_17 (nI A) (nI B) (nI Y) ((1001000 - (nI X).toInt).toNat + 1) (nI X) = L_X6_strikes_17 (nI A) (nI B) (nI Y) ((1001000 - (nI X).toInt).toNat + 1) (nI (X + A * 0)) := by rw [show X + A * 0 = X by omega]
    rw [ef]
    obtain ⟨g1, g2⟩ := st_n hA hB hX hY ((1001000 - (nI X).toInt).toNat + 1) 0 (by omega) (by rw [nI_toInt (by omega)]; omega)
    rcases fs_all hA hB hX hY with ⟨h1, h2⟩ | ⟨j, hj, h1, h2, h3⟩
    · rw [h2, g1 h1]
    · have hm : A * j ≤ 999 * 998 := Nat.mul_le_mul hA.2 (by omega)
      rw [h3, g2 j (Nat.zero_le _) (by omega) h1 (fun t _ ht => h2 t ht)]
end A5
/-- Euclid in a hundred turns -/
theorem half {t r : Nat} (h0 : 0 < r) (h1 : r < t) : 2 * (t % r) < t := by
  have e := Nat.div_add_mod t r
  have h2 : t % r < r := Nat.mod_lt _ h0
  have h3 : 1 ≤ t / r := Nat.div_pos (Nat.le_of_lt h1) h0
  have h4 : r * 1 ≤ r * (t / r) := Nat.mul_le_mul_left r h3
  omega
theorem lN0 {t : Nat} (ht : t < 2 ^ 63) : lg_cmp (lN t) 0 = 0 ↔ t = 0 := by
  rw [lgc_zero]
  exact pk_lEQ (b := 0) ht (by decide)
theorem gcd_n : ∀ (e n i t o : Nat), t < 2 ^ e → i + 2 * e + 1 ≤ 100 → 100 < i + n → t < 2 ^ 63 → o < 2 ^ 63 → (L_X5_commonDivisor_9 n i (lN t) (lN o)).2 = lN (Nat.gcd t o) := by
  intro e
  induction e with
  | zero =>
    intro n i t o h1 h2 h3 h4 h5
    have : t = 0 := by omega
    subst this
    obtain ⟨m, rfl⟩ : ∃ m, n = m + 1 := ⟨n - 1, by omega⟩
    rw [L_X5_commonDivisor_9_s, if_neg (show ¬ (100 : Int32) ≤ nI i from nI_ge (b := 100) (by omega) (by decide)), if_pos ((lN0 (by decide)).mpr rfl), Nat.gcd_zero_left]
  | succ e ih =>
    intro n i t o h1 h2 h3 h4 h5
    obtain ⟨m, rfl⟩ : ∃ m, n = m + 1 := ⟨n - 1, by omega⟩
    rw [L_X5_commonDivisor_9_s, if_neg (show ¬ (100 : Int32) ≤ nI i from nI_ge (b := 100) (by omega) (by decide))]
    by_cases t0 : t = 0
    · subst t0
      rw [if_pos ((lN0 (by decide)).mpr rfl), Nat.gcd_zero_left]
    · rw [if_neg (fun z => t0 ((lN0 h4).mp z)), pk_lRem h5 (by omega) h4]
      have hr : o % t < t := Nat.mod_lt _ (by omega)
      obtain ⟨m2, rfl⟩ : ∃ m2, m = m2 + 1 := ⟨m - 1, by omega⟩
      rw [Nat.gcd_rec t o, L_X5_commonDivisor_9_s, if_neg (show ¬ (100 : Int32) ≤ nI (i + 1) from nI_ge (b := 100) (by omega) (by decide))]
      by_cases r0 : o % t = 0
      · rw [r0, if_pos ((lN0 (by decide)).mpr rfl), Nat.gcd_zero_left]
      · rw [if_neg (fun z => r0 ((lN0 (by omega)).mp z)), pk_lRem h4 (by omega) (by omega), Nat.gcd_rec (o % t) t]
        have hh := half (Nat.pos_of_ne_zero r0) hr
        rw [Nat.pow_succ] at h1
        have hr2 : t % (o % t) < o % t := Nat.mod_lt _ (by omega)
        exact ih m2 (i + 1 + 1) _ _ (by omega) (by omega) (by omega) (by omega) (by omega)
theorem cdiv {o t : Nat} (ht : t < 2 ^ 49) (ho : o < 2 ^ 63) : F_X5_commonDivisor (lN o) (lN t) = lN (Nat.gcd t o) := by
  unfold F_X5_commonDivisor
  rw [bnd_def]
  exact gcd_n 49 (100 + 1) 0 t o ht (by omega) (by omega) (Nat.lt_of_lt_of_le ht (by decide)) ho
theorem i64_nI {n : Nat} (h : n < 2 ^ 31) : (nI n).toInt64 = lN n := by
  refine Int64.toInt_inj.mp ?_
  rw [Int32.toInt_toInt64, nI_toInt h, pk_lT (Nat.lt_of_lt_of_le h (by decide))]
theorem i32_lN {n : Nat} (h : n < 2 ^ 31) : (lN n).toInt32 = nI n := by
  refine Int32.toInt_inj.mp ?_
  rw [Int64.toInt_toInt32, pk_lT (Nat.lt_of_lt_of_le h (by decide)), nI_toInt h]
  exact bm32 (by omega) (by omega)
