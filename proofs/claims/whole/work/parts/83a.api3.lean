/-! setting, gloves worn, asking, vespers -/
section A3
variable {gg : GS} {k kE kF : KS} {pp : PS} {lv : LV} {sg : SG} {pd : PD} {kp : KP}
theorem h10 : ¬ (1 : Int32) = 0 := by decide
theorem h01 : ¬ (0 : Int32) = 1 := by decide
theorem set6_0 (lv : LV) (v : Int32) : F_X6_set lv 0 v = if F_X5_isWithin v 0 23 = 0 then ((-2 : Int32), lv) else ((vClock lv), (vCourtiers lv, v, vTears lv, vLeft lv, vRight lv, vScandals lv, vWearOf lv)) := by
  unfold F_X6_set
  have e1 : F_X6_in (0 : Int32).toInt64 0 1 = 1 := by decide
  rw [bnd_def, e1, if_neg h10, if_pos rfl, bnd_def, inW (a := 0) (b := 23) (by decide) (by decide)]
  by_cases w : F_X5_isWithin v 0 23 = 0
  · rw [if_pos w, if_pos w]
  · rw [if_neg w, if_neg w, if_pos rfl, if_pos rfl, if_neg h01]
theorem set6_1 (lv : LV) (v : Int32) : F_X6_set lv 1 v = if F_X5_isWithin v 1 20 = 0 then ((-2 : Int32), lv) else ((vTears lv), (vCourtiers lv, vClock lv, v, vLeft lv, vRight lv, vScandals lv, vWearOf lv)) := by
  unfold F_X6_set
  have e1 : F_X6_in (1 : Int32).toInt64 0 1 = 1 := by decide
  rw [bnd_def, e1, if_neg h10, if_neg h10, bnd_def, inW (a := 1) (b := 20) (by decide) (by decide)]
  by_cases w : F_X5_isWithin v 1 20 = 0
  · rw [if_pos w, if_pos w]
  · rw [if_neg w, if_neg w, if_neg h10, if_neg h10, if_pos rfl]
theorem api_set {xw : Int32} {xv : Int32} {r1 r2 : Int32} {u1 : KS} {u2 : LV} (hrel : REL gg k kE kF pp lv sg pd kp) (e1 : F_X5_set k xw xv = (r1, u1)) (e2 : F_X6_set lv xw xv = (r2, u2)) : r1 = r2 ∧ REL gg u1 kE kF pp u2 sg pd kp := by
  obtain ⟨hC, hS, hP, hI, hJ⟩ := hrel
  have hC0 := hC
  obtain ⟨a1, ⟨a3, a3'⟩, ⟨a4, a4'⟩, a5, a6, a7, a8⟩ := hC0
  unfold F_X5_set at e1
  simp only [bnd_def] at e1
  by_cases h0 : xw = 0
  · subst h0
    rw [if_pos rfl] at e1
    rw [set6_0] at e2
    by_cases w : F_X5_isWithin xv 0 23 = 0
    · rw [if_pos w] at e2
      rw [if_pos w, if_neg h01] at e1
      cases e1
      cases e2
      exact ⟨rfl, hC, hS, hP, hI, hJ⟩
    · rw [if_neg w] at e1 e2
      cases e1
      cases e2
      exact ⟨a3.symm, ⟨a1, ⟨rfl, wi_in (n := 24) rfl w (by decide)⟩, ⟨a4, a4'⟩, a5, a6, a7, a8⟩, hS, hP, hI, hJ⟩
  · rw [if_neg h0] at e1
    by_cases h1 : xw = 1
    · subst h1
      rw [if_pos rfl] at e1
      rw [set6_1] at e2
      by_cases w : F_X5_isWithin xv 1 20 = 0
      · rw [if_pos w] at e1 e2
        cases e1
        cases e2
        exact ⟨rfl, hC, hS, hP, hI, hJ⟩
      · rw [if_neg w] at e1 e2
        cases e1
        cases e2
        exact ⟨a4.symm, ⟨a1, ⟨a3, a3'⟩, ⟨rfl, wi_iff w⟩, a5, a6, a7, a8⟩, hS, hP, hI, hJ⟩
    · rw [if_neg h1] at e1
      unfold F_X6_set at e2
      rw [bnd_def, inW (a := 0) (b := 1) (by decide) (by decide), wi_no (fun q => by
        have b0 : (0 : Int32).toInt = 0 := rfl
        have b1 : (1 : Int32).toInt = 1 := rfl
        rw [b0, b1] at q
        have : xw.toInt = 0 ∨ xw.toInt = 1 := by omega
        rcases this with t | t
        · exact h0 (Int32.toInt_inj.mp t)
        · exact h1 (Int32.toInt_inj.mp t)), if_pos rfl] at e2
      cases e1
      cases e2
      exact ⟨rfl, hC, hS, hP, hI, hJ⟩
/-- no bit in two, said by their and -/
theorem and0_iff (x y : Int32) : x &&& y = 0 ↔ ∀ i, i < 32 → bt x i = true → bt y i = false := by
  constructor
  · intro e i hi hx
    have h : bt (x &&& y) i = false := by rw [e, b_0]
    rw [b_and, hx, Bool.true_and] at h
    exact h
  · intro h
    refine b_ext (fun i hi => ?_)
    rw [b_and, b_0]
    by_cases q : bt x i = true
    · rw [h i hi q, Bool.and_false]
    · rw [show bt x i = false by simpa using q, Bool.false_and]
theorem andn_iff (x y : Int32) : x &&& (y ^^^ (-1 : Int32)) = 0 ↔ ∀ i, i < 32 → bt x i = true → bt y i = true := by
  rw [and0_iff]
  constructor
  · intro h i hi hx
    have := h i hi hx
    rw [bt_not _ hi] at this
    simpa using this
  · intro h i hi hx
    rw [bt_not _ hi, h i hi hx]
    rfl
theorem sus_bt (k : KS) {j : Nat} (hj : j < 32) : bt (F_X1_suspects k) j = (decide (j < 6) && decide (¬ F_X1_isThere k (nI j) = 0 ∧ (kHoursSeen k &&& (F_X1_pairsOf k (nI j) ^^^ (-1 : Int32))) = 0 ∧ (kHoursNotOwned k &&& F_X1_pairsOf k (nI j)) = 0)) := by
  unfold F_X1_suspects
  rw [bnd_def, or_bits (p := fun c => decide (¬ F_X1_isThere k (nI c) = 0 ∧ (kHoursSeen k &&& (F_X1_pairsOf k (nI c) ^^^ (-1 : Int32))) = 0 ∧ (kHoursNotOwned k &&& F_X1_pairsOf k (nI c)) = 0)) (N := 6) (by decide) (L := L_X1_suspects_4 k) (fun n i v e => by
    rw [L_X1_suspects_4_s, if_pos (n_eq6 e)]) (fun n i v e => by
    rw [L_X1_suspects_4_s, if_neg (n_ge6 e), bnd_def, bnd_def]
    by_cases q1 : F_X1_isThere k (nI i) = 0
    · rw [if_pos q1, if_neg (by simp [q1])]
    · rw [if_neg q1]
      by_cases q2 : (kHoursSeen k &&& (F_X1_pairsOf k (nI i) ^^^ (-1 : Int32))) = 0
      · rw [if_pos q2]
        by_cases q3 : (kHoursNotOwned k &&& F_X1_pairsOf k (nI i)) = 0
        · rw [if_pos q3, if_pos (decide_eq_true ⟨q1, q2, q3⟩)]
        · rw [if_neg q3, if_neg (fun e => q3 (of_decide_eq_true e).2.2)]
      · rw [if_neg q2, if_neg (fun e => q2 (of_decide_eq_true e).2.1)]) (6 + 1) 0 0 (by omega) (by omega) j hj, b_0]
  rw [Bool.false_or, show decide (0 ≤ j ∧ j < 6) = decide (j < 6) from decide_eq_decide.mpr (by omega)]
theorem wore_n {N : Nat} (hN : sSights sg = nI N) (h8 : N ≤ 8) {j : Nat} (hj : j < 32) : ∀ (n i : Nat) (v : Int32), i ≤ N → N < i + n → (bt (L_X6_wore_7 lv sg n i v) j = true ↔ bt v j = true ∧ ∀ q, i ≤ q → q < N → (sSightOwned sg q = 1 → bt (F_X6_ownersOf lv (sSightHour sg q)) j = true) ∧ (¬ sSightOwned sg q = 1 → bt (F_X6_ownersOf lv (sSightHour sg q)) j = false)) := by
  intro n
  induction n with
  | zero => intro i v h1 h2; omega
  | succ n ih =>
    intro i v h1 h2
    rw [L_X6_wore_7_s, hN]
    by_cases q : i = N
    · rw [if_pos (nI_le (by omega) (by omega))]
      exact ⟨fun e => ⟨e, fun q h3 h4 => by omega⟩, fun e => e.1⟩
    · rw [if_neg (nI_ge (by omega) (by omega)), bnd_def, nI_clamp (by omega)]
      have split : ∀ P : Nat → Prop, (∀ q, i ≤ q → q < N → P q) ↔ P i ∧ ∀ q, i + 1 ≤ q → q < N → P q := fun P => by
        constructor
        · intro h
          exact ⟨h i (by omega) (by omega), fun q h3 h4 => h q (by omega) h4⟩
        · intro h q h3 h4
          by_cases e : q = i
          · rw [e]
            exact h.1
          · exact h.2 q (by omega) h4
      rw [split]
      by_cases o : sSightOwned sg i = 1
      · rw [if_pos o, ih (i + 1) _ (by omega) (by omega), b_and, Bool.and_eq_true]
        constructor
        · intro ⟨⟨z1, z2⟩, z3⟩
          exact ⟨z1, ⟨fun _ => z2, fun z => absurd o z⟩, z3⟩
        · intro ⟨z1, ⟨z2, _⟩, z3⟩
          exact ⟨⟨z1, z2 o⟩, z3⟩
      · rw [if_neg o, ih (i + 1) _ (by omega) (by omega), b_and, Bool.and_eq_true, bt_not _ hj]
        constructor
        · intro ⟨⟨z1, z2⟩, z3⟩
          exact ⟨z1, ⟨fun z => absurd z o, fun _ => by simpa using z2⟩, z3⟩
        · intro ⟨z1, ⟨_, z2⟩, z3⟩
          exact ⟨⟨z1, by rw [z2 o]; rfl⟩, z3⟩
theorem woreEq (hC : CR k lv) (hS : SR k sg) : F_X6_wore lv sg = F_X1_suspects k := by
  obtain ⟨N, hN, eN⟩ := vp_in_of hS.2.1 (by decide)
  obtain ⟨s1, s2, s3, s4⟩ := hS
  have cN : (sSights sg).toNatClampNeg = N := by rw [eN, nI_clamp (by omega)]
  rw [cN] at s3 s4
  refine b_ext (fun j hj => ?_)
  unfold F_X6_wore
  rw [bnd_def, cN, Bool.eq_iff_iff, wore_n eN (by omega) hj (N + 1) 0 _ (by omega) (by omega), sus_bt k hj, cr_cts hC]
  by_cases h6 : j < 6
  · have eo : ∀ q, q < N → (bt (F_X6_ownersOf lv (sSightHour sg q)) j = true ↔ ∃ h, h < 24 ∧ sSightHour sg q = nI h ∧ bt (kPairs k j) h = true) := fun q hq => by
      obtain ⟨h, hh, eh⟩ := vp_in_of (s3 q hq).1 (by decide)
      rw [eh, ownersEq hC (vp_in_nI hh (by decide)), owners_bt k _ h6, own_nI h6 hh, decide_eq_true_iff]
      constructor
      · intro z
        refine ⟨h, hh, rfl, ?_⟩
        by_cases y : bt (kPairs k j) h = true
        · exact y
        · rw [if_neg y] at z
          exact absurd rfl z
      · intro ⟨h', hh', e', z⟩
        have : h = h' := (nI_eq (by omega) (by omega)).mp e'
        rw [this, if_pos z]
        decide
    rw [decide_eq_true h6, Bool.true_and, decide_eq_true_iff, there_nI h6, pairs1_nI hC h6, andn_iff, and0_iff]
    constructor
    · intro ⟨z1, z2⟩
      refine ⟨by rw [if_pos z1]; decide, fun i hi b => ?_, fun i hi b => ?_⟩
      · obtain ⟨q, hq, g1, g2⟩ := (s4 i hi).1.mp b
        obtain ⟨h, hh, e, y⟩ := (eo q hq).mp ((z2 q (Nat.zero_le _) hq).1 g2)
        rw [g1] at e
        rw [(nI_eq (by omega) (by omega)).mp e]
        exact y
      · obtain ⟨q, hq, g1, g2⟩ := (s4 i hi).2.mp b
        have y := (z2 q (Nat.zero_le _) hq).2 (by rw [g2]; decide)
        have hi24 : i < 24 := by
          obtain ⟨h, hh, e⟩ := vp_in_of (s3 q hq).1 (by decide)
          rw [g1] at e
          have := (nI_eq (by omega) (by omega)).mp e
          omega
        by_cases c : bt (kPairs k j) i = true
        · rw [(eo q hq).mpr ⟨i, hi24, g1, c⟩] at y
          exact absurd y (by decide)
        · simpa using c
    · intro ⟨z1, z2, z3⟩
      have hb : bt (kPresent k) j = true := by
        by_cases c : bt (kPresent k) j = true
        · exact c
        · rw [if_neg c] at z1
          exact absurd rfl z1
      refine ⟨hb, fun q _ hq => ⟨fun o => ?_, fun o => ?_⟩⟩
      · obtain ⟨h, hh, e⟩ := vp_in_of (s3 q hq).1 (by decide)
        exact (eo q hq).mpr ⟨h, hh, e, z2 h (by omega) ((s4 h (by omega)).1.mpr ⟨q, hq, e, o⟩)⟩
      · have o0 : sSightOwned sg q = 0 := by
          rcases (s3 q hq).2 with t | t
          · exact t
          · exact absurd t o
        by_cases c : bt (F_X6_ownersOf lv (sSightHour sg q)) j = true
        · obtain ⟨h, hh, e, y⟩ := (eo q hq).mp c
          have := z3 h (by omega) ((s4 h (by omega)).2.mpr ⟨q, hq, e, o0⟩)
          rw [y] at this
          exact absurd this (by decide)
        · simpa using c
  · rw [decide_eq_false h6, Bool.false_and, bt_small (k := 6) hC.1.2 (by decide) (by omega)]
    exact ⟨fun z => absurd z.1 (by decide), fun z => absurd z (by decide)⟩
theorem api_wore {r1 r2 : Int32} (hrel : REL gg k kE kF pp lv sg pd kp) (e1 : F_X5_wore k = r1) (e2 : F_X6_wore lv sg = r2) : r1 = r2 ∧ REL gg k kE kF pp lv sg pd kp := by
  refine ⟨?_, hrel⟩
  unfold F_X5_wore at e1
  rw [bnd_def] at e1
  rw [← e1, ← e2, woreEq hrel.1 hrel.2.1]
theorem ones6 {x : Int32} (h : vp_in x 64) : ∃ n, n ≤ 6 ∧ F_X6_ones x = nI n := by
  obtain ⟨n, hn, rfl⟩ := vp_in_of h (by decide)
  refine ⟨pcN 31 n, ?_, ones_nI (by omega)⟩
  have e : pcN 31 (n + 2 ^ 6 * 0) = pcN 6 n + pcN 25 0 := pcN_add 6 25 n 0 hn
  rw [pcN_z, Nat.mul_zero, Nat.add_zero, Nat.add_zero] at e
  rw [e]
  exact pcN_le 6 n
theorem and_6 {x y : Int32} (h : vp_in x 64) : vp_in (x &&& y) 64 := by
  refine bt_in (k := 6) (by decide) (fun i h6 hi => ?_)
  rw [b_and, bt_small (k := 6) h (by decide) h6]
  rfl
theorem sus_6 (k : KS) : vp_in (F_X1_suspects k) 64 := by
  refine bt_in (k := 6) (by decide) (fun i h6 hi => ?_)
  rw [sus_bt k hi, decide_eq_false (by omega)]
  rfl
theorem maxEq (a b : Int32) : (if a < b then b else a) = if a ≤ b then b else a := by
  by_cases c : a < b
  · rw [if_pos c, if_pos (by rw [Int32.le_iff_toInt_le]; rw [Int32.lt_iff_toInt_lt] at c; omega)]
  · rw [if_neg c]
    by_cases d : a ≤ b
    · rw [if_pos d]
      rw [Int32.le_iff_toInt_le] at d
      rw [Int32.lt_iff_toInt_lt] at c
      exact Int32.toInt_inj.mp (by omega)
    · rw [if_neg d]
theorem ask_n (hC : CR k lv) {S : Int32} (hS : vp_in S 64) (hS0 : ¬ S = 0) : ∀ (n i : Nat) (v4 v3 w4 w3 : Int32), i ≤ 24 → 24 < i + n → ((v4 = 7 ∧ w3 < 0 ∧ i < 24) ∨ (v4 = w4 ∧ v3 = w3 ∧ ¬ w3 < 0)) → L_X5_ask_36 k S n i v4 v3 = L_X6_ask_27 lv S n i w4 w3 ∧ ¬ (L_X6_ask_27 lv S n i w4 w3).2 < 0 := by
  intro n
  induction n with
  | zero => intro i v4 v3 w4 w3 h1 h2; omega
  | succ n ih =>
    intro i v4 v3 w4 w3 h1 h2 h3
    rw [L_X5_ask_36_s, L_X6_ask_27_s]
    by_cases q : i = 24
    · rw [if_pos (n_eq24 q), if_pos (n_eq24 q)]
      rcases h3 with z | ⟨z1, z2, z3⟩
      · omega
      · rw [z1, z2]
        exact ⟨rfl, z3⟩
    · have hi : i < 24 := by omega
      rw [if_neg (n_ge24 hi), if_neg (n_ge24 hi), if_neg hS0]
      simp only [bnd_def]
      rw [ownersEq hC (vp_in_nI hi (by decide)), bitCount_ones (in_mono (and_6 hS) (by decide)), bitCount_ones (in_mono hS (by decide)), maxEq]
      obtain ⟨a, ha, ea⟩ := ones6 (and_6 (y := F_X1_ownersOf k (nI i)) hS)
      obtain ⟨b, hb, eb⟩ := ones6 hS
      rw [ea, eb]
      have i0 : ¬ nI i < 0 := nI_pos (by omega)
      have l7 : ∀ t : Nat, t ≤ 6 → ¬ (7 : Int32) ≤ nI t := fun t ht => nI_ge (b := 7) (by omega) (by decide)
      have hd : ¬ (7 : Int32) ≤ nI b - nI a := by
        rcases Nat.lt_or_ge b a with t | t
        · have t2 := pk_sneg (by omega) t
          rw [Int32.le_iff_toInt_le]
          rw [Int32.lt_iff_toInt_lt] at t2
          have c0 : (0 : Int32).toInt = 0 := rfl
          have c7 : (7 : Int32).toInt = 7 := rfl
          omega
        · rw [pk_sub t]
          exact l7 _ (by omega)
      by_cases m : nI a ≤ nI b - nI a
      · rw [if_pos m, if_pos m]
        rcases h3 with ⟨z1, z2, z3⟩ | ⟨z1, z2, z3⟩
        · rw [z1, if_neg hd, if_pos z2]
          exact ih (i + 1) _ _ _ _ (by omega) (by omega) (Or.inr ⟨rfl, rfl, i0⟩)
        · rw [if_neg z3, z1]
          by_cases y : w4 ≤ nI b - nI a
          · rw [if_pos y, if_pos y]
            exact ih (i + 1) _ _ _ _ (by omega) (by omega) (Or.inr ⟨rfl, z2, z3⟩)
          · rw [if_neg y, if_neg y]
            exact ih (i + 1) _ _ _ _ (by omega) (by omega) (Or.inr ⟨rfl, rfl, i0⟩)
      · rw [if_neg m, if_neg m]
        rcases h3 with ⟨z1, z2, z3⟩ | ⟨z1, z2, z3⟩
        · rw [z1, if_neg (l7 a ha), if_pos z2]
          exact ih (i + 1) _ _ _ _ (by omega) (by omega) (Or.inr ⟨rfl, rfl, i0⟩)
        · rw [if_neg z3, z1]
          by_cases y : w4 ≤ nI a
          · rw [if_pos y, if_pos y]
            exact ih (i + 1) _ _ _ _ (by omega) (by omega) (Or.inr ⟨rfl, z2, z3⟩)
          · rw [if_neg y, if_neg y]
            exact ih (i + 1) _ _ _ _ (by omega) (by omega) (Or.inr ⟨rfl, rfl, i0⟩)
theorem api_ask {xw : Int32} {r1 r2 : Int32} (hrel : REL gg k kE kF pp lv sg pd kp) (e1 : F_X5_ask k xw = r1) (e2 : F_X6_ask lv sg xw = r2) : r1 = r2 ∧ REL gg k kE kF pp lv sg pd kp := by
  refine ⟨?_, hrel⟩
  unfold F_X5_ask at e1
  unfold F_X6_ask at e2
  simp only [bnd_def] at e1 e2
  rw [inW (a := 0) (b := 1) (by decide) (by decide), woreEq hrel.1 hrel.2.1] at e2
  rw [← e1, ← e2]
  by_cases w : F_X5_isWithin xw 0 1 = 0
  · rw [if_pos w, if_pos w]
  · rw [if_neg w, if_neg w]
    by_cases s : F_X1_suspects k = 0
    · rw [if_pos s, s]
      have e : L_X6_ask_27 lv 0 (24 + 1) 0 0 (-6) = (0, -6) := by
        rw [L_X6_ask_27_s, if_neg (by decide), if_pos rfl]
      rw [e, if_pos (show (-6 : Int32) < 0 by decide)]
    · rw [if_neg s]
      obtain ⟨g1, g2⟩ := ask_n hrel.1 (sus_6 k) s (24 + 1) 0 7 0 0 (-6) (by omega) (by omega) (Or.inl ⟨rfl, by decide, by decide⟩)
      rw [g1, if_neg g2]
end A3
