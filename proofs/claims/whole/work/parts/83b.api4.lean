/-! vespers, told, all -/
theorem nI1_le {s : Nat} (h : s < 2 ^ 31) : (1 : Int32) ≤ nI s ↔ 1 ≤ s := nI_leI (a := 1) (by decide) h
theorem nI_0iff {s : Nat} (h : s < 2 ^ 31) : nI s = 0 ↔ s = 0 := nI_eq (b := 0) h (by decide)
theorem bm32 {z : Int} (h1 : -2147483648 ≤ z) (h2 : z < 2147483648) : z.bmod (2 ^ 32) = z := Int.bmod_eq_of_le (by omega) (by omega)
theorem div_10 (x : Int32) : ∃ q : Int, (x / 10 - 1).toInt = q - 1 ∧ ((0 ≤ x.toInt ∧ q = x.toInt / 10) ∨ (x.toInt < 0 ∧ q ≤ 0)) := by
  have hb := fb_rng' x
  have key : (0 ≤ x.toInt ∧ x.toInt.tdiv 10 = x.toInt / 10) ∨ (x.toInt < 0 ∧ -2147483647 ≤ x.toInt.tdiv 10 ∧ x.toInt.tdiv 10 ≤ 0) := by
    rcases (show x.toInt < 0 ∨ 0 ≤ x.toInt by omega) with h | h
    · right
      have e : x.toInt.tdiv 10 = -((-x.toInt) / 10) := by
        rw [← Int.tdiv_eq_ediv_of_nonneg (by omega), Int.neg_tdiv, Int.neg_neg]
      omega
    · left
      exact ⟨h, Int.tdiv_eq_ediv_of_nonneg h⟩
  refine ⟨x.toInt.tdiv 10, ?_, by omega⟩
  have e10 : (10 : Int32).toInt = 10 := rfl
  have e1 : (1 : Int32).toInt = 1 := rfl
  rw [Int32.toInt_sub, Int32.toInt_div, e10, e1, bm32 (z := x.toInt.tdiv 10) (by omega) (by omega), bm32 (by omega) (by omega)]
theorem div_100 (x : Int32) : ∃ q : Int, (x / 100 - 1).toInt = q - 1 ∧ ((0 ≤ x.toInt ∧ q = x.toInt / 100) ∨ (x.toInt < 0 ∧ q ≤ 0)) := by
  have hb := fb_rng' x
  have key : (0 ≤ x.toInt ∧ x.toInt.tdiv 100 = x.toInt / 100) ∨ (x.toInt < 0 ∧ -2147483647 ≤ x.toInt.tdiv 100 ∧ x.toInt.tdiv 100 ≤ 0) := by
    rcases (show x.toInt < 0 ∨ 0 ≤ x.toInt by omega) with h | h
    · right
      have e : x.toInt.tdiv 100 = -((-x.toInt) / 100) := by
        rw [← Int.tdiv_eq_ediv_of_nonneg (by omega), Int.neg_tdiv, Int.neg_neg]
      omega
    · left
      exact ⟨h, Int.tdiv_eq_ediv_of_nonneg h⟩
  refine ⟨x.toInt.tdiv 100, ?_, by omega⟩
  have e10 : (100 : Int32).toInt = 100 := rfl
  have e1 : (1 : Int32).toInt = 1 := rfl
  rw [Int32.toInt_sub, Int32.toInt_div, e10, e1, bm32 (z := x.toInt.tdiv 100) (by omega) (by omega), bm32 (by omega) (by omega)]
theorem set_dec : ∀ i, i < 64 → ∀ p, p < 64 → i &&& p ≠ i → i &&& p < i ∧ pcN 31 (i &&& p) < pcN 31 i := by decide +kernel
section A4
variable {gg : GS} {k kE kF : KS} {pp : PS} {lv : LV} {sg : SG} {pd : PD} {kp : KP}
theorem api_vespers {xc : Int32} {xn : Int32} {r1 r2 : Int32} (hrel : REL gg k kE kF pp lv sg pd kp) (e1 : F_X5_vespers k xc xn = r1) (e2 : F_X6_vespers lv xc xn = r2) : r1 = r2 ∧ REL gg k kE kF pp lv sg pd kp := by
  refine ⟨?_, hrel⟩
  have hC := hrel.1
  have l1 : ∀ (n i : Nat) (v : Int32), L_X5_candlesOf_5 k n i v = L_X6_vespers_30 lv n i v := by
    intro n
    induction n with
    | zero => intro i v; rfl
    | succ n ih =>
      intro i v
      rw [L_X5_candlesOf_5_s, L_X6_vespers_30_s]
      by_cases c : (6 : Int32) ≤ nI i
      · rw [if_pos c, if_pos c]
      · rw [if_neg c, if_neg c, bnd_def, bnd_def, bnd_def, countEq hC, ih]
  have l2 : ∀ (n i v : Nat), v + 31 * n < 1000 → ∃ s, s < 1000 ∧ L_X6_vespers_30 lv n i (nI v) = nI s := by
    intro n
    induction n with
    | zero => intro i v h; exact ⟨v, by omega, rfl⟩
    | succ n ih =>
      intro i v h
      rw [L_X6_vespers_30_s]
      by_cases c : (6 : Int32) ≤ nI i
      · rw [if_pos c]
        exact ⟨v, by omega, rfl⟩
      · rw [if_neg c, bnd_def, bnd_def, pairsEq hC]
        obtain ⟨m, hm, em⟩ := vp_in_of (pairs_24 hC (nI i)) (by decide)
        have hm31 : m < 2 ^ 31 := Nat.lt_of_lt_of_le hm (by decide)
        rw [em, ones_nI hm31, nI_add]
        have := pcN_le 31 m
        exact ih (i + 1) (v + pcN 31 m) (by omega)
  have l3 : ∀ (w r : Int32) (n i : Nat) (v6 v5 : Int32), L_X5_candlesOf_56 k xc xn w r n i v6 v5 = L_X6_vespers_80 lv xc xn w r n i v6 v5 := by
    intro w r n
    induction n with
    | zero => intro i v6 v5; rfl
    | succ n ih =>
      intro i v6 v5
      rw [L_X5_candlesOf_56_s, L_X6_vespers_80_s]
      by_cases c : (6 : Int32) ≤ nI i
      · rw [if_pos c, if_pos c]
      · rw [if_neg c, if_neg c]
        simp only [bnd_def]
        rw [countEq hC, thereEq (cr_cts hC), Int32.add_zero, ih, ih]
  unfold F_X5_vespers F_X5_candlesOf at e1
  unfold F_X6_vespers at e2
  simp only [bnd_def] at e1 e2
  rw [thereEq (cr_cts hC), inW (a := 0) (b := 999) (by decide) (by decide)] at e2
  rw [← e1, ← e2]
  by_cases w : F_X1_isThere k xc = 0
  · rw [if_pos w, if_pos w]
  · rw [if_neg w, if_neg w]
    by_cases w2 : F_X5_isWithin xn 0 999 = 0
    · rw [if_pos w2, if_pos w2]
    · rw [if_neg w2, if_neg w2, l1]
      obtain ⟨s, hs, es⟩ := l2 (6 + 1) 0 0 (by decide)
      have es' : L_X6_vespers_30 lv (6 + 1) 0 0 = nI s := es
      rw [es', countEq hC, l3, Int32.add_zero]
      by_cases z : s = 0
      · rw [if_neg (fun e => absurd ((nI1_le (by omega)).mp e) (by omega)), if_pos ((nI_0iff (by omega)).mpr z)]
      · rw [if_pos ((nI1_le (by omega)).mpr (by omega)), if_neg (fun e => z ((nI_0iff (by omega)).mp e))]
theorem api_told {xw : Int32} {r1 r2 : Int32} (hrel : REL gg k kE kF pp lv sg pd kp) (e1 : F_X5_told k pp xw = r1) (e2 : F_X6_told lv sg pd xw = r2) : r1 = r2 ∧ REL gg k kE kF pp lv sg pd kp := by
  refine ⟨?_, hrel⟩
  obtain ⟨hC, hS, hP, hI, hJ⟩ := hrel
  rw [← e1, ← e2]
  clear e1 e2
  have out10 := div_10 xw
  have out100 := div_100 xw
  have hb := fb_rng' xw
  have c10 : (10 : Int64).toInt = (10 : Int32).toInt := by decide
  have z0 : (0 : Int32).toInt = 0 := rfl
  have z1 : (1 : Int32).toInt = 1 := rfl
  have z2 : (2 : Int32).toInt = 2 := rfl
  have z3 : (3 : Int32).toInt = 3 := rfl
  have z4 : (4 : Int32).toInt = 4 := rfl
  have z10 : (10 : Int32).toInt = 10 := rfl
  have z69 : (69 : Int32).toInt = 69 := rfl
  have z100 : (100 : Int32).toInt = 100 := rfl
  have z699 : (699 : Int32).toInt = 699 := rfl
  have big : ¬ (0 ≤ xw.toInt ∧ xw.toInt ≤ 4) → F_X5_told k pp xw = F_X5_toldOfCourtier k xw := by
    intro h
    unfold F_X5_told
    rw [bnd_def]
    have ne : ∀ v : Int32, 0 ≤ v.toInt ∧ v.toInt ≤ 4 → ¬ xw = v := fun v hv e => h (by rw [e]; exact hv)
    rw [if_neg (ne 0 (by decide)), if_neg (ne 1 (by decide)), if_neg (ne 2 (by decide)), if_neg (ne 3 (by decide)), if_neg (ne 4 (by decide))]
  unfold F_X6_told
  rw [bnd_def, inW (a := 100) (b := 699) (by decide) (by decide)]
  by_cases hA : 100 ≤ xw.toInt ∧ xw.toInt ≤ 699
  · rw [wi_yes (by rw [z100, z699]; exact hA), if_neg h10, big (by omega)]
    obtain ⟨n, hn, rfl⟩ := nI_nn (x := xw) (by omega)
    rw [nI_toInt hn] at hA out10 out100
    have d100 : nI n / 100 - 1 = nI (n / 100 - 1) := by
      rw [show (100 : Int32) = nI 100 from rfl, pk_div hn (by decide) (by decide)]
      exact pk_sub (b := 1) (by omega)
    have m100 : nI n - nI n / 100 * 100 = nI (n % 100) := pk_rem (d := 100) hn (by decide) (by decide)
    unfold F_X5_toldOfCourtier
    have t0 : F_X1_isThere k (nI n / 10 - 1) = 0 := there_out (fun e => by
      rw [vp_in_iff] at e
      obtain ⟨q, q1, q2⟩ := out10
      omega)
    simp only [bnd_def]
    rw [t0, if_pos rfl, d100, m100, thereEq (cr_cts hC)]
    by_cases w : F_X1_isThere k (nI (n / 100 - 1)) = 0
    · rw [if_pos w, if_pos w]
    · rw [if_neg w, if_neg w, hourW]
      by_cases w2 : F_X5_isWithin (nI (n % 100)) 0 23 = 0
      · rw [if_pos w2, if_pos w2]
      · rw [if_neg w2, if_neg w2]
        have hc : n / 100 - 1 < 6 := by omega
        have hh : n % 100 < 24 := by
          have := vp_in_iff.mp (wi_in (n := 24) rfl w2 (by decide))
          rw [nI_toInt (by omega)] at this
          omega
        unfold F_X1_wearOf
        rw [bnd_def, own_nI hc hh, at_nI, nI_clamp (by omega), show (24 : Int32) = nI 24 from rfl, pk_mul, nI_add, nI_clamp (by omega), Nat.mul_comm]
        have hb : bt (kPresent k) (n / 100 - 1) = true := by
          rw [there_nI hc] at w
          by_cases q : bt (kPresent k) (n / 100 - 1) = true
          · exact q
          · rw [if_neg q] at w
            exact absurd rfl w
        have hp := (cr_pc hC hc hb).2.2.2 _ hh
        by_cases b : bt (kPairs k (n / 100 - 1)) (n % 100) = true
        · rw [if_pos b, if_neg h10, (hp.1 b).1]
        · rw [if_neg b, if_pos rfl, hp.2 (by simpa using b)]
  · rw [wi_no (by rw [z100, z699]; exact hA), if_pos rfl, bnd_def, inW (a := 10) (b := 69) (by decide) (by decide)]
    have t100 : F_X1_isThere k (xw / 100 - 1) = 0 := there_out (fun e => by
      rw [vp_in_iff] at e
      obtain ⟨q, q1, q2⟩ := out100
      omega)
    by_cases hB : 10 ≤ xw.toInt ∧ xw.toInt ≤ 69
    · rw [wi_yes (by rw [z10, z69]; exact hB), if_neg h10, big (by omega), bnd_def]
      obtain ⟨n, hn, rfl⟩ := nI_nn (x := xw) (by omega)
      rw [nI_toInt hn] at hB out10 out100
      have m10 : nI n - nI n / 10 * 10 = nI (n % 10) := pk_rem (d := 10) hn (by decide) (by decide)
      have d10 : nI n / 10 - 1 = nI (n / 10 - 1) := by
        rw [show (10 : Int32) = nI 10 from rfl, pk_div hn (by decide) (by decide)]
        exact pk_sub (b := 1) (by omega)
      unfold F_X5_toldOfCourtier F_X6_toldOf
      simp only [bnd_def]
      rw [m10, d10, thereEq (cr_cts hC)]
      by_cases w : F_X1_isThere k (nI (n / 10 - 1)) = 0
      · rw [if_pos w, if_pos w, t100, if_pos rfl]
      · rw [if_neg w, if_neg w]
        have hc : n / 10 - 1 < 6 := by omega
        have hb : bt (kPresent k) (n / 10 - 1) = true := by
          rw [there_nI hc] at w
          by_cases q : bt (kPresent k) (n / 10 - 1) = true
          · exact q
          · rw [if_neg q] at w
            exact absurd rfl w
        obtain ⟨⟨p1, p2, p3⟩, _⟩ := cr_pc hC hc hb
        rw [nI_clamp (n := n / 10 - 1) (by omega)]
        have eqv : ∀ v : Nat, v < 10 → (nI (n % 10) = nI v ↔ n % 10 = v) := fun v hv => nI_eq (by omega) (by omega)
        by_cases w2 : n % 10 ≤ 2
        · rw [wi_yes (by rw [nI_toInt (by omega), z0, z2]; omega), if_neg h10]
          unfold F_X1_tellOf
          rw [bnd_def, if_neg w, nI_clamp (n := n / 10 - 1) (by omega)]
          have h3 : n % 10 = 0 ∨ n % 10 = 1 ∨ n % 10 = 2 := by omega
          rcases h3 with e | e | e
          · rw [e, if_neg (by decide), if_pos (by decide), if_pos (by decide), p1]
          · rw [e, if_neg (by decide), if_neg (by decide), if_neg (by decide), if_pos (by decide), p2]
          · rw [e, if_pos (by decide), if_neg (by decide), if_neg (by decide), if_pos (by decide), p3]
        · rw [wi_no (by rw [nI_toInt (by omega), z0, z2]; omega), if_pos rfl, t100, if_pos rfl]
          rw [if_neg (show ¬ nI (n % 10) = (0 : Int32) from fun e => absurd ((eqv 0 (by omega)).mp e) (by omega)), if_neg (show ¬ nI (n % 10) = (1 : Int32) from fun e => absurd ((eqv 1 (by omega)).mp e) (by omega)), if_neg (show ¬ nI (n % 10) = (2 : Int32) from fun e => absurd ((eqv 2 (by omega)).mp e) (by omega))]
    · rw [wi_no (by rw [z10, z69]; exact hB), if_pos rfl]
      have t10 : F_X1_isThere k (xw / 10 - 1) = 0 := there_out (fun e => by
        rw [vp_in_iff] at e
        obtain ⟨q, q1, q2⟩ := out10
        omega)
      have tc : F_X5_toldOfCourtier k xw = -2 := by
        unfold F_X5_toldOfCourtier
        rw [bnd_def, t10, if_pos rfl, bnd_def, t100, if_pos rfl]
      unfold F_X5_told
      rw [bnd_def, tc, hP.1, hC.1.1, hC.2.1.1, hC.2.2.1.1, hS.1]
theorem unionEq (hC : CR k lv) {s : Nat} (hs : s < 64) : ∀ (n i : Nat) (v : Int32), i ≤ 6 → L_X6_all_44 lv s n i v = L_X1_pairsOfSet_4 k (nI s) n i v := by
  intro n
  induction n with
  | zero => intro i v h; rfl
  | succ n ih =>
    intro i v h
    rw [L_X6_all_44_s, L_X1_pairsOfSet_4_s]
    by_cases q : i = 6
    · rw [if_pos (n_eq6 q), if_pos (n_eq6 q)]
    · rw [if_neg (n_ge6 (by omega)), if_neg (n_ge6 (by omega)), bnd_def, bnd_def, pairsEq hC, or0, ih _ _ (by omega), ih _ _ (by omega)]
      by_cases b : bt (nI s) i = true
      · rw [if_pos ((bt_shr1 (by omega)).mpr b), if_neg (fun e => by rw [(bt_and0 (by omega)).mp e] at b; exact absurd b (by decide))]
      · rw [if_neg (fun e => b ((bt_shr1 (by omega)).mp e)), if_pos ((bt_and0 (by omega)).mpr (by simpa using b))]
theorem union_there (hC : CR k lv) (x : Int32) : ∀ (n i : Nat) (v : Int32), i ≤ 6 → L_X1_pairsOfSet_4 k (x &&& kPresent k) n i v = L_X1_pairsOfSet_4 k x n i v := by
  intro n
  induction n with
  | zero => intro i v h; rfl
  | succ n ih =>
    intro i v h
    rw [L_X1_pairsOfSet_4_s, L_X1_pairsOfSet_4_s]
    by_cases q : i = 6
    · rw [if_pos (n_eq6 q), if_pos (n_eq6 q)]
    · rw [if_neg (n_ge6 (by omega)), if_neg (n_ge6 (by omega))]
      simp only [bnd_def]
      rw [pairs1_nI hC (by omega), ih _ _ (by omega), ih _ _ (by omega)]
      by_cases b : bt (kPresent k) i = true
      · have e : bt (x &&& kPresent k) i = bt x i := by rw [b_and, b, Bool.and_true]
        by_cases c : bt x i = true
        · rw [if_neg (fun z => by rw [(bt_and0 (by omega)).mp z] at e; rw [c] at e; exact absurd e (by decide)), if_neg (fun z => by rw [(bt_and0 (by omega)).mp z] at c; exact absurd c (by decide))]
        · have c' : bt x i = false := by simpa using c
          rw [if_pos ((bt_and0 (by omega)).mpr (by rw [e, c'])), if_pos ((bt_and0 (by omega)).mpr c')]
      · have b' : bt (kPresent k) i = false := by simpa using b
        rw [if_pos ((bt_and0 (by omega)).mpr (by rw [b_and, b', Bool.and_false])), cr_no hC (by omega) b', or0]
        by_cases c : (x &&& ((1 : Int32) <<< (nI i &&& 31))) = 0
        · rw [if_pos c]
        · rw [if_neg c]
theorem all_n (hC : CR k lv) {xs : Int32} : ∀ (n i : Nat) (v4 v3 w3 : Int32), i ≤ 64 → 64 < i + n →
    ((w3 = -6 ∧ v3 = -6 ∧ v4 = 7 ∧ ∀ s, s < i → nI s &&& (kPresent k ^^^ (-1 : Int32)) = 0 → ¬ (xs &&& (F_X1_pairsOfSet k (nI s) ^^^ (-1 : Int32))) = 0) ∨ (∃ m, m < 64 ∧ w3 = nI m ∧ v3 = nI m ∧ v4 = nI (pcN 31 m) ∧ ∀ s, s < i → nI s &&& (kPresent k ^^^ (-1 : Int32)) = 0 → (xs &&& (F_X1_pairsOfSet k (nI s) ^^^ (-1 : Int32))) = 0 → pcN 31 m ≤ pcN 31 s)) →
    (L_X5_all_32 k xs n i v4 v3).2 = L_X6_all_31 lv xs n i w3 ∧ ((L_X6_all_31 lv xs n i w3 = -6) ∨ ∃ m, m < 64 ∧ L_X6_all_31 lv xs n i w3 = nI m ∧ (L_X5_all_32 k xs n i v4 v3).1 = F_X6_ones (nI m)) := by
  intro n
  induction n with
  | zero => intro i v4 v3 w3 h1 h2; omega
  | succ n ih =>
    intro i v4 v3 w3 h1 h2 h3
    rw [L_X5_all_32_s, L_X6_all_31_s]
    by_cases q : i = 64
    · have c : (64 : Int32) ≤ nI i := by rw [q]; decide
      rw [if_pos c, if_pos c]
      rcases h3 with ⟨g1, g2, g3, g4⟩ | ⟨m, hm, g1, g2, g3, g4⟩
      · exact ⟨by rw [g1, g2], Or.inl g1⟩
      · exact ⟨by rw [g1, g2], Or.inr ⟨m, hm, g1, by rw [ones_nI (by omega), g3]⟩⟩
    · have hi : i < 64 := by omega
      have c : ¬ (64 : Int32) ≤ nI i := nI_ge hi (by decide)
      have eU : L_X6_all_44 lv i (6 + 1) 0 0 = F_X1_pairsOfSet k (nI i) := by
        unfold F_X1_pairsOfSet
        rw [bnd_def]
        exact unionEq hC hi _ _ _ (by omega)
      rw [if_neg c, if_neg c]
      simp only [bnd_def]
      rw [eU, cr_cts hC, bitCount_ones (vp_in_nI (by omega) (by decide)), ones_nI (n := i) (by omega)]
      have hpi : pcN 31 i ≤ 6 := by
        have e : pcN 31 (i + 2 ^ 6 * 0) = pcN 6 i + pcN 25 0 := pcN_add 6 25 i 0 hi
        rw [pcN_z, Nat.mul_zero, Nat.add_zero, Nat.add_zero] at e
        rw [e]
        exact pcN_le 6 i
      by_cases oS : nI i &&& (kPresent k ^^^ (-1 : Int32)) = 0
      · rw [if_pos oS]
        by_cases oU : xs &&& (F_X1_pairsOfSet k (nI i) ^^^ (-1 : Int32)) = 0
        · rw [if_pos oU, if_pos oU, if_neg h10]
          rcases h3 with ⟨g1, g2, g3, g4⟩ | ⟨m, hm, g1, g2, g3, g4⟩
          · rw [g1, g3, if_neg (show ¬ (7 : Int32) ≤ nI (pcN 31 i) from nI_ge (b := 7) (by omega) (by decide)), if_pos (show (-6 : Int32) < 0 by decide)]
            refine ih (i + 1) _ _ _ (by omega) (by omega) (Or.inr ⟨i, hi, rfl, rfl, rfl, fun s hs a1 a2 => ?_⟩)
            by_cases e : s = i
            · rw [e]
              exact Nat.le_refl _
            · exact absurd a2 (g4 s (by omega) a1)
          · rw [g1, g3, if_neg (nI_pos (n := m) (by omega)), ones_nI (n := m) (by omega)]
            have hpm := pcN_le 31 m
            by_cases l : pcN 31 m ≤ pcN 31 i
            · rw [if_pos (nI_le l (by omega)), if_pos (nI_le l (by omega))]
              refine ih (i + 1) _ _ _ (by omega) (by omega) (Or.inr ⟨m, hm, rfl, g2, rfl, fun s hs a1 a2 => ?_⟩)
              by_cases e : s = i
              · rw [e]
                exact l
              · exact g4 s (by omega) a1 a2
            · rw [if_neg (nI_ge (by omega) (by omega)), if_neg (nI_ge (by omega) (by omega))]
              refine ih (i + 1) _ _ _ (by omega) (by omega) (Or.inr ⟨i, hi, rfl, rfl, rfl, fun s hs a1 a2 => ?_⟩)
              by_cases e : s = i
              · rw [e]
                exact Nat.le_refl _
              · have := g4 s (by omega) a1 a2
                omega
        · rw [if_neg oU, if_neg oU, if_pos trivial]
          have fin : (if v4 ≤ nI (pcN 31 i) then L_X5_all_32 k xs n (i + 1) v4 v3 else L_X5_all_32 k xs n (i + 1) v4 v3) = L_X5_all_32 k xs n (i + 1) v4 v3 := by
            split <;> rfl
          rw [fin]
          refine ih (i + 1) _ _ _ (by omega) (by omega) ?_
          rcases h3 with ⟨g1, g2, g3, g4⟩ | ⟨m, hm, g1, g2, g3, g4⟩
          · refine Or.inl ⟨g1, g2, g3, fun s hs a1 => ?_⟩
            by_cases e : s = i
            · rw [e]
              exact oU
            · exact g4 s (by omega) a1
          · refine Or.inr ⟨m, hm, g1, g2, g3, fun s hs a1 a2 => ?_⟩
            by_cases e : s = i
            · rw [e] at a2
              exact absurd a2 oU
            · exact g4 s (by omega) a1 a2
      · rw [if_neg oS, if_pos trivial]
        obtain ⟨p, hp, ep⟩ := vp_in_of hC.1.2 (by decide)
        have hne : i &&& p ≠ i := fun e => oS (by
          rw [ep, andn_iff]
          intro j hj b
          have e2 : nI i = nI i &&& nI p := by rw [nI_and, e]
          rw [e2, b_and, Bool.and_eq_true] at b
          exact b.2)
        obtain ⟨d1, d2⟩ := set_dec i hi p hp hne
        have sub : nI (i &&& p) &&& (kPresent k ^^^ (-1 : Int32)) = 0 := by
          rw [andn_iff, ep, ← nI_and]
          intro j hj b
          rw [b_and, Bool.and_eq_true] at b
          exact b.2
        have eqU : F_X1_pairsOfSet k (nI (i &&& p)) = F_X1_pairsOfSet k (nI i) := by
          unfold F_X1_pairsOfSet
          rw [bnd_def, bnd_def, ← nI_and, ← ep]
          exact union_there hC _ _ _ _ (by omega)
        have fin : (if v4 ≤ nI (pcN 31 i) then L_X5_all_32 k xs n (i + 1) v4 v3 else if xs &&& (F_X1_pairsOfSet k (nI i) ^^^ (-1 : Int32)) = 0 then L_X5_all_32 k xs n (i + 1) (nI (pcN 31 i)) (nI i) else L_X5_all_32 k xs n (i + 1) v4 v3) = L_X5_all_32 k xs n (i + 1) v4 v3 := by
          by_cases l : v4 ≤ nI (pcN 31 i)
          · rw [if_pos l]
          · rw [if_neg l]
            by_cases oU : xs &&& (F_X1_pairsOfSet k (nI i) ^^^ (-1 : Int32)) = 0
            · exfalso
              rcases h3 with ⟨g1, g2, g3, g4⟩ | ⟨m, hm, g1, g2, g3, g4⟩
              · exact g4 _ d1 sub (by rw [eqU]; exact oU)
              · have := g4 _ d1 sub (by rw [eqU]; exact oU)
                exact l (by rw [g3]; exact nI_le (by omega) (by omega))
            · rw [if_neg oU]
        rw [fin]
        refine ih (i + 1) _ _ _ (by omega) (by omega) ?_
        rcases h3 with ⟨g1, g2, g3, g4⟩ | ⟨m, hm, g1, g2, g3, g4⟩
        · refine Or.inl ⟨g1, g2, g3, fun s hs a1 => ?_⟩
          by_cases e : s = i
          · rw [e] at a1
            exact absurd a1 oS
          · exact g4 s (by omega) a1
        · refine Or.inr ⟨m, hm, g1, g2, g3, fun s hs a1 a2 => ?_⟩
          by_cases e : s = i
          · rw [e] at a1
            exact absurd a1 oS
          · exact g4 s (by omega) a1 a2
theorem api_all {xs : Int32} {xw : Int32} {r1 r2 : Int32} (hrel : REL gg k kE kF pp lv sg pd kp) (e1 : F_X5_all k xs xw = r1) (e2 : F_X6_all lv xs xw = r2) : r1 = r2 ∧ REL gg k kE kF pp lv sg pd kp := by
  refine ⟨?_, hrel⟩
  unfold F_X5_all at e1
  unfold F_X6_all at e2
  simp only [bnd_def] at e1 e2
  rw [inW (a := 0) (b := 16777215) (by decide) (by decide), inW (x := xw) (a := 0) (b := 1) (by decide) (by decide)] at e2
  rw [← e1, ← e2]
  by_cases w : F_X5_isWithin xs 0 16777215 = 0
  · rw [if_pos w, if_pos w]
  · rw [if_neg w, if_neg w]
    by_cases w2 : F_X5_isWithin xw 0 1 = 0
    · rw [if_pos w2, if_pos w2]
    · rw [if_neg w2, if_neg w2]
      obtain ⟨g1, g2⟩ := all_n hrel.1 (xs := xs) (64 + 1) 0 7 (-6) (-6) (by omega) (by omega) (Or.inl ⟨rfl, rfl, rfl, fun s hs => absurd hs (Nat.not_lt_zero s)⟩)
      rw [g1]
      rcases g2 with z | ⟨m, hm, z1, z2⟩
      · rw [z, if_pos rfl, if_pos (show (-6 : Int32) < 0 by decide)]
      · rw [z1, z2, if_neg (fun e => nI_pos (n := m) (by omega) (by rw [e]; decide)), if_neg (nI_pos (n := m) (by omega))]
end A4
