/-! how often; gloves that tear -/
def cntN (j0 P i : Nat) : Nat := if i ≤ j0 then 0 else (i - 1 - j0) / P + 1
theorem cnt_s {j0 P i : Nat} (hP : 0 < P) : cntN j0 P (i + 1) = cntN j0 P i + if j0 ≤ i ∧ P ∣ i - j0 then 1 else 0 := by
  unfold cntN
  rcases Nat.lt_or_ge i j0 with h | h
  · rw [if_pos (by omega), if_pos (by omega), if_neg (by omega)]
  · rw [if_neg (by omega)]
    by_cases e : i = j0
    · subst e
      rw [if_pos (Nat.le_refl _), if_pos ⟨Nat.le_refl _, by rw [Nat.sub_self]; exact Nat.dvd_zero P⟩, show i + 1 - 1 - i = 0 by omega, Nat.zero_div]
    · rw [if_neg (by omega)]
      obtain ⟨d, hd⟩ : ∃ d, i - j0 = d + 1 := ⟨i - j0 - 1, by omega⟩
      rw [show i + 1 - 1 - j0 = d + 1 by omega, show i - 1 - j0 = d by omega, Nat.succ_div, hd]
      by_cases q : P ∣ d + 1
      · rw [if_pos q, if_pos ⟨by omega, q⟩]
      · rw [if_neg q, if_neg (fun z => q z.2)]
theorem of_n {A X B Y j0 P M : Nat} (hA : 1 ≤ A ∧ A ≤ 999) (hB : 1 ≤ B ∧ B ≤ 999) (hX : X < A) (hY : Y < B) (hM : M ≤ 999999) (hP : 0 < P) (hh : ∀ j, hitN A X B Y j ↔ j0 ≤ j ∧ P ∣ j - j0) : ∀ (n i : Nat), X + A * i < 1001000 → 1001000 < X + A * i + n → (∀ j, j < i → X + A * j ≤ M) → ∃ I, (L_X6_often_33 (nI A) (nI B) (nI Y) (nI M) n (nI (X + A * i)) (nI (cntN j0 P i))).2 = nI (cntN j0 P I) ∧ M < X + A * I ∧ ∀ j, j < I → X + A * j ≤ M := by
  intro n
  induction n with
  | zero => intro i h1 h2; omega
  | succ n ih =>
    intro i h1 h2 h3
    rw [L_X6_often_33_s]
    by_cases q : M < X + A * i
    · rw [if_pos (nI_lt q (by omega))]
      exact ⟨i, rfl, q, h3⟩
    · have es : X + A * i + A = X + A * (i + 1) := by rw [Nat.mul_succ]; omega
      rw [if_neg (fun z => q ((nI_ltI (by omega) (by omega)).mp z)), pk_rem (by omega) (by omega) (by omega), nI_add, es]
      have hmod : (X + A * i) % B < B := Nat.mod_lt _ (by omega)
      have h4 : ∀ j, j < i + 1 → X + A * j ≤ M := fun j hj => by
        by_cases e : j = i
        · rw [e]
          omega
        · exact h3 j (by omega)
      have g := ih (i + 1) (by omega) (by omega) h4
      rw [cnt_s hP] at g
      by_cases h : hitN A X B Y i
      · rw [if_pos (by rw [show (X + A * i) % B = Y from h])]
        rw [if_pos ((hh i).mp h)] at g
        rw [show (1 : Int32) = nI 1 from rfl, nI_add]
        exact g
      · rw [if_neg (fun e => h ((nI_eq (by omega) (by omega)).mp e))]
        rw [if_neg (fun z => h ((hh i).mpr z))] at g
        rw [Int32.add_zero]
        exact g
theorem of_0 {A X B Y : Nat} (hA : 1 ≤ A ∧ A ≤ 999) (hB : 1 ≤ B ∧ B ≤ 999) (hX : X < A) (hY : Y < B) (xm : Int32) (hh : ∀ j, ¬ hitN A X B Y j) : ∀ (n i : Nat) (c : Int32), xm.toInt ≤ 999999 → X + A * i < 1001000 → (L_X6_often_33 (nI A) (nI B) (nI Y) xm n (nI (X + A * i)) c).2 = c := by
  intro n
  induction n with
  | zero => intro i c h1 h2; rfl
  | succ n ih =>
    intro i c hm h1
    rw [L_X6_often_33_s]
    by_cases q : xm < nI (X + A * i)
    · rw [if_pos q]
    · have es : X + A * i + A = X + A * (i + 1) := by rw [Nat.mul_succ]; omega
      have hmod : (X + A * i) % B < B := Nat.mod_lt _ (by omega)
      rw [if_neg q, pk_rem (by omega) (by omega) (by omega), nI_add, es, if_neg (fun e => hh i ((nI_eq (by omega) (by omega)).mp e)), Int32.add_zero]
      rw [Int32.lt_iff_toInt_lt, nI_toInt (by omega)] at q
      exact ih (i + 1) c hm (by omega)
theorem hit_div {A X B Y j0 : Nat} (hB : 0 < B) (h0 : hitN A X B Y j0) (hl : ∀ t, t < j0 → ¬ hitN A X B Y t) (j : Nat) : hitN A X B Y j ↔ j0 ≤ j ∧ B / Nat.gcd B A ∣ j - j0 := by
  have hg : 0 < Nat.gcd B A := Nat.gcd_pos_of_pos_left _ hB
  obtain ⟨B', hB'⟩ := Nat.gcd_dvd_left B A
  obtain ⟨A', hA'⟩ := Nat.gcd_dvd_right B A
  have eB : B / Nat.gcd B A = B' := Nat.div_eq_of_eq_mul_right hg hB'
  have eA : A / Nat.gcd B A = A' := Nat.div_eq_of_eq_mul_right hg hA'
  have co : Nat.Coprime B' A' := by
    have h := Nat.coprime_div_gcd_div_gcd hg
    rw [eB, eA] at h
    exact h
  constructor
  · intro h
    have hj : j0 ≤ j := by
      rcases Nat.lt_or_ge j j0 with t | t
      · exact absurd h (hl j t)
      · exact t
    refine ⟨hj, ?_⟩
    obtain ⟨d, rfl⟩ : ∃ d, j = j0 + d := ⟨j - j0, by omega⟩
    rw [show j0 + d - j0 = d by omega, eB]
    have e : (X + A * (j0 + d)) % B = (X + A * j0) % B := by
      rw [show (X + A * (j0 + d)) % B = Y from h, show (X + A * j0) % B = Y from h0]
    have e2 := Nat.sub_mod_eq_zero_of_mod_eq e
    rw [show X + A * (j0 + d) - (X + A * j0) = A * d by rw [Nat.mul_add]; omega] at e2
    have e3 : B ∣ A * d := Nat.dvd_of_mod_eq_zero e2
    have e4 : Nat.gcd B A * B' ∣ Nat.gcd B A * (A' * d) := by
      rw [← hB', ← Nat.mul_assoc, ← hA']
      exact e3
    exact Nat.Coprime.dvd_of_dvd_mul_left co (Nat.dvd_of_mul_dvd_mul_left hg e4)
  · intro ⟨hj, q⟩
    obtain ⟨d, rfl⟩ : ∃ d, j = j0 + d := ⟨j - j0, by omega⟩
    rw [show j0 + d - j0 = d by omega, eB] at q
    obtain ⟨c, rfl⟩ := q
    show (X + A * (j0 + B' * c)) % B = Y
    have e : X + A * (j0 + B' * c) = X + A * j0 + B * (A' * c) := by
      have e1 : A * (B' * c) = B * (A' * c) := by
        have ea : A * (B' * c) = Nat.gcd B A * A' * (B' * c) := by rw [← hA']
        have eb : B * (A' * c) = Nat.gcd B A * B' * (A' * c) := by rw [← hB']
        rw [ea, eb, Nat.mul_assoc, Nat.mul_assoc, Nat.mul_left_comm A' B' c]
      rw [Nat.mul_add, e1]
      omega
    rw [e, Nat.add_mul_mod_self_left]
    exact h0

section A6
variable {gg : GS} {k kE kF : KS} {pp : PS} {lv : LV} {sg : SG} {pd : PD} {kp : KP}
theorem api_often {xa xx xb xy xm : Int32} {r1 r2 : Int32} (hrel : REL gg k kE kF pp lv sg pd kp) (e1 : F_X5_often xa xx xb xy xm = r1) (e2 : F_X6_often xa xx xb xy xm = r2) : r1 = r2 ∧ REL gg k kE kF pp lv sg pd kp := by
  refine ⟨?_, hrel⟩
  rw [← e1, ← e2]
  clear e1 e2
  unfold F_X5_often F_X6_often
  simp only [bnd_def]
  rw [count6, inW (a := 0) (b := 999999) (by decide) (by decide)]
  by_cases w : F_X5_areCountries xa xx xb xy = 0
  · rw [if_pos w, if_pos w]
  · rw [if_neg w, if_neg w]
    by_cases w2 : F_X5_isWithin xm 0 999999 = 0
    · rw [if_pos w2, if_pos w2]
    · rw [if_neg w2, if_neg w2]
      obtain ⟨A, X, B, Y, rfl, rfl, rfl, rfl, hA, hB, hX, hY⟩ := st_nat (strike_in (count6 _ _ _ _) w)
      obtain ⟨M, hM, rfl⟩ := vp_in_of (wi_in (n := 1000000) rfl w2 (by decide)) (by decide)
      have ef : nI X = nI (X + A * 0) := by rw [show X + A * 0 = X by omega]
      have efu : 1001000 < X + A * 0 + ((1001000 - (nI X).toInt).toNat + 1) := by
        rw [nI_toInt (by omega)]
        omega
      rw [i64_nI (by omega), i64_nI (by omega), cdiv (by omega) (by omega)]
      rcases fs_all hA hB hX hY with ⟨h1, h2⟩ | ⟨j0, hj, h1, h2, h3⟩
      · rw [h2, if_pos rfl, ef]
        exact (of_0 hA hB hX hY (nI M) h1 _ 0 0 (by rw [nI_toInt (by omega)]; omega) (by omega)).symm
      · have hg : 0 < Nat.gcd B A := Nat.gcd_pos_of_pos_left _ (by omega)
        have hgA : Nat.gcd B A ≤ A := Nat.le_of_dvd (by omega) (Nat.gcd_dvd_right B A)
        have hgB : Nat.gcd B A ≤ B := Nat.le_of_dvd (by omega) (Nat.gcd_dvd_left B A)
        obtain ⟨P, hP⟩ := Nat.gcd_dvd_left B A
        obtain ⟨A', hA'⟩ := Nat.gcd_dvd_right B A
        have eP : B / Nat.gcd B A = P := Nat.div_eq_of_eq_mul_right hg hP
        have eA : A / Nat.gcd B A = A' := Nat.div_eq_of_eq_mul_right hg hA'
        have hP0 : 0 < P := by
          rcases Nat.eq_zero_or_pos P with t | t
          · rw [t, Nat.mul_zero] at hP
            omega
          · exact t
        have hA0 : 0 < A' := by
          rcases Nat.eq_zero_or_pos A' with t | t
          · rw [t, Nat.mul_zero] at hA'
            omega
          · exact t
        have hA1 : A' ≤ A := by rw [← eA]; exact Nat.div_le_self _ _
        have eL : A' * B = A * P := by
          have ea : A' * B = A' * (Nat.gcd B A * P) := by rw [← hP]
          have eb : A * P = Nat.gcd B A * A' * P := by rw [← hA']
          rw [ea, eb, ← Nat.mul_assoc, Nat.mul_comm A']
        have hL : A' * B ≤ 998001 := mul_lt1000 (by omega) hB.2
        have hL0 : 0 < A' * B := Nat.mul_pos hA0 (by omega)
        have hm : A * j0 ≤ 999 * 998 := Nat.mul_le_mul hA.2 (by omega)
        have hd := hit_div (by omega) h1 h2
        rw [eP] at hd
        obtain ⟨I, g1, g2, g3⟩ := of_n hA hB hX hY (show M ≤ 999999 by omega) hP0 hd ((1001000 - (nI X).toInt).toNat + 1) 0 (by omega) efu (fun j hj => absurd hj (Nat.not_lt_zero j))
        have g1' : (L_X6_often_33 (nI A) (nI B) (nI Y) (nI M) ((1001000 - (nI X).toInt).toNat + 1) (nI X) 0).2 = nI (cntN j0 P I) := by
          rw [ef]
          have c0 : cntN j0 P 0 = 0 := if_pos (Nat.zero_le _)
          rw [c0] at g1
          have g := g1
          rw [show X + A * 0 = X by omega] at g ⊢
          exact g
        rw [h3, g1', if_neg (fun e => nI_pos (n := X + A * j0) (by omega) (by rw [e]; decide)), i32_lN (by omega), pk_div (by omega) hg (by omega), eA, pk_mul]
        by_cases c : M < X + A * j0
        · rw [if_pos (nI_lt c (by omega))]
          have hI : I ≤ j0 := by
            rcases Nat.lt_or_ge j0 I with t | t
            · have := g3 j0 t
              omega
            · exact t
          rw [show cntN j0 P I = 0 from if_pos hI]
          rfl
        · rw [if_neg (fun z => c ((nI_ltI (by omega) (by omega)).mp z)), if_pos ((nI1_le (by omega)).mpr hg), if_pos ((nI1_le (by omega)).mpr hL0)]
          have hI : j0 < I := by
            rcases Nat.lt_or_ge j0 I with t | t
            · exact t
            · have := Nat.mul_le_mul_left A t
              omega
          obtain ⟨d, rfl⟩ : ∃ d, I = j0 + d + 1 := ⟨I - j0 - 1, by omega⟩
          have g4 := g3 (j0 + d) (by omega)
          rw [Nat.mul_add] at g4
          rw [show A * (j0 + d + 1) = A * j0 + A * d + A by rw [Nat.mul_add, Nat.mul_add, Nat.mul_one]] at g2
          have eq1 : (M - (X + A * j0)) / A = d := by
            refine Nat.div_eq_of_lt_le ?_ ?_
            · rw [Nat.mul_comm]
              omega
            · rw [Nat.add_mul, Nat.one_mul, Nat.mul_comm d A]
              omega
          have eq2 : (M - (X + A * j0)) / (A' * B) = d / P := by
            rw [eL, ← Nat.div_div_eq_div_mul, eq1]
          have ec : cntN j0 P (j0 + d + 1) = d / P + 1 := by
            unfold cntN
            rw [if_neg (by omega), show j0 + d + 1 - 1 - j0 = d by omega]
          rw [pk_sub (by omega), pk_div (by omega) hL0 (by omega), eq2, ec, show (1 : Int32) = nI 1 from rfl, nI_add]
theorem td_n {t : Nat} (ht : t ≤ 10) : ∀ (m i : Nat) (ch : CS) (f : Nat → Nat), 1 ≤ i → i ≤ 10 → 10 < i + m → (∀ k, i ≤ k → k ≤ 10 → cLeft ch k = lN (f k)) → ∃ W, L_X0_tryDeed_2 (nI t) m i ch = (cWhole ch, cDeedsDone ch, W) ∧ (∀ k, i ≤ k → k < 10 → W k = lN ((10 - t) * f k + t * f (k + 1))) ∧ ∀ k, ¬ (i ≤ k ∧ k < 10) → W k = cLeft ch k := by
  intro m
  induction m with
  | zero => intro i ch f h0 h1 h2; omega
  | succ m ih =>
    intro i ch f h0 h1 h2 h3
    rw [L_X0_tryDeed_2_s]
    by_cases q : i = 10
    · rw [if_pos (show (10 : Int32) ≤ nI i by rw [q]; decide)]
      exact ⟨cLeft ch, rfl, fun k h4 h5 => by omega, fun k _ => rfl⟩
    · rw [if_neg (show ¬ (10 : Int32) ≤ nI i from nI_ge (b := 10) (by omega) (by decide)), nI_clamp (n := i) (by omega), nI_clamp (n := i + 1) (by omega), h3 i (by omega) (by omega), h3 (i + 1) (by omega) (by omega)]
      have e10 : (10 : Int32) - nI t = nI (10 - t) := pk_sub (a := 10) ht
      rw [e10, nI_l (n := 10 - t) (by omega), nI_l (n := t) (by omega), lN_mul, lN_mul, lN_add]
      obtain ⟨W, g1, g2, g3⟩ := ih (i + 1) (cWhole ch, cDeedsDone ch, vp_updL (cLeft ch) i (lN ((10 - t) * f i + t * f (i + 1)))) f (by omega) (by omega) (by omega) (fun k h4 h5 => by
        show vp_updL (cLeft ch) i _ k = _
        rw [pk_uLn (by omega)]
        exact h3 k (by omega) h5)
      refine ⟨W, g1, fun k h4 h5 => ?_, fun k h4 => ?_⟩
      · by_cases e : k = i
        · subst e
          rw [g3 k (by omega)]
          exact pk_uLs
        · exact g2 k (by omega) h5
      · rw [g3 k (by omega)]
        exact pk_uLn (by omega)
theorem sl_n {ch : CS} {f : Nat → Nat} (hf : ∀ k, 1 ≤ k → k < 10 → cLeft ch k = lN (f k)) : ∀ (m i v : Nat), 1 ≤ i → i ≤ 10 → 10 < i + m → ∃ s, L_X0_someLeft_4 ch m i (lN v) = lN s ∧ s + tsum f i = v + tsum f 10 := by
  intro m
  induction m with
  | zero => intro i v h0 h1 h2; omega
  | succ m ih =>
    intro i v h0 h1 h2
    rw [L_X0_someLeft_4_s]
    by_cases q : i = 10
    · rw [if_pos (show (10 : Int32) ≤ nI i by rw [q]; decide), q]
      exact ⟨v, rfl, rfl⟩
    · rw [if_neg (show ¬ (10 : Int32) ≤ nI i from nI_ge (b := 10) (by omega) (by decide)), nI_clamp (n := i) (by omega), hf i h0 (by omega), lN_add]
      obtain ⟨s, g1, g2⟩ := ih (i + 1) (v + f i) (by omega) (by omega) (by omega)
      refine ⟨s, g1, ?_⟩
      have e : tsum f (i + 1) = tsum f i + f i := rfl
      omega
theorem sl_all {ch : CS} {a c e : Nat} (ha : a ≤ 9) (hc : c ≤ 10) (hf : ∀ k, 1 ≤ k → k < 10 → cLeft ch k = lN (tp a c e k)) : F_X0_someLeft ch = lN (10 ^ e - tp a c e 0) := by
  unfold F_X0_someLeft
  rw [bnd_def]
  obtain ⟨s, g1, g2⟩ := sl_n hf (10 + 1) 1 0 (by omega) (by omega) (by omega)
  rw [tsum_tp a c ha hc e] at g2
  have e1 : tsum (tp a c e) 1 = 0 + tp a c e 0 := rfl
  rw [e1] at g2
  have g1' : L_X0_someLeft_4 ch (10 + 1) 1 0 = lN s := g1
  rw [g1']
  exact congrArg lN (by omega)
theorem run3_n {a : Nat} (ha : a ≤ 9) : ∀ (m i : Nat) (ch : CS), i ≤ 11 → 11 < i + m → ∀ k, cLeft (L_X0_run_3 (nI a) m i ch) k = if i ≤ k ∧ k < 11 then (if k = a then 1 else 0) else cLeft ch k := by
  intro m
  induction m with
  | zero => intro i ch h1 h2; omega
  | succ m ih =>
    intro i ch h1 h2 k
    rw [L_X0_run_3_s]
    by_cases q : i = 11
    · rw [if_pos (show (11 : Int32) ≤ nI i by rw [q]; decide), if_neg (by omega)]
    · rw [if_neg (show ¬ (11 : Int32) ≤ nI i from nI_ge (b := 11) (by omega) (by decide)), nI_clamp (n := i) (by omega)]
      have ea : nI i = nI a ↔ i = a := nI_eq (by omega) (by omega)
      by_cases e : i = a
      · rw [if_pos (ea.mpr e), ih (i + 1) _ (by omega) (by omega) k]
        show (if i + 1 ≤ k ∧ k < 11 then (if k = a then (1 : Int64) else 0) else vp_updL (cLeft ch) i 1 k) = _
        by_cases z : k = i
        · subst z
          rw [if_neg (by omega), if_pos (by omega), if_pos e]
          exact pk_uLs
        · rw [pk_uLn z]
          by_cases y : i ≤ k ∧ k < 11
          · rw [if_pos y, if_pos (by omega)]
          · rw [if_neg y, if_neg (by omega)]
      · rw [if_neg (fun z => e (ea.mp z)), ih (i + 1) _ (by omega) (by omega) k]
        show (if i + 1 ≤ k ∧ k < 11 then (if k = a then (1 : Int64) else 0) else vp_updL (cLeft ch) i 0 k) = _
        by_cases z : k = i
        · subst z
          rw [if_neg (by omega), if_pos (by omega), if_neg e]
          exact pk_uLs
        · rw [pk_uLn z]
          by_cases y : i ≤ k ∧ k < 11
          · rw [if_pos y, if_pos (by omega)]
          · rw [if_neg y, if_neg (by omega)]
theorem run47_n {a c : Nat} (ha : a ≤ 9) (hc : c ≤ 10) {xm : Int32} (hm : 0 ≤ xm.toInt) : ∀ (m i : Nat) (ch : CS), i ≤ xm.toNatClampNeg → xm.toNatClampNeg < i + m → xm.toNatClampNeg ≤ 12 → cDeedsDone ch = lN (tdn a c i) → cWhole ch = lN (10 ^ i) → (∀ k, 1 ≤ k → k ≤ 10 → cLeft ch k = lN (tp a c i k)) → cDeedsDone (L_X0_run_47 xm (nI c) m i ch) = lN (tdn a c xm.toNatClampNeg) ∧ cWhole (L_X0_run_47 xm (nI c) m i ch) = lN (10 ^ xm.toNatClampNeg) ∧ ∀ k, 1 ≤ k → k ≤ 10 → cLeft (L_X0_run_47 xm (nI c) m i ch) k = lN (tp a c xm.toNatClampNeg k) := by
  intro m
  induction m with
  | zero => intro i ch h1 h2; omega
  | succ m ih =>
    intro i ch h1 h2 h12 hd hw hl
    rw [L_X0_run_47_s]
    by_cases q : xm ≤ nI i
    · rw [if_pos q]
      have hi := le_gI q rfl hm h1 (by omega)
      rw [← hi]
      exact ⟨hd, hw, hl⟩
    · rw [if_neg q]
      have hi := lt_c q h1
      simp only [bnd_def]
      have es := sl_all ha hc (fun k h3 h4 => hl k h3 (by omega))
      unfold F_X0_tryDeed
      rw [bnd_def, es, hd, hw, show (10 : Int64) = lN 10 from rfl, lN_add, lN_mul, lN_mul]
      obtain ⟨W, g1, g2, g3⟩ := td_n hc (10 + 1) 1 (lN (10 ^ i * 10), lN (10 * (tdn a c i + (10 ^ i - tp a c i 0))), cLeft ch) (tp a c i) (by omega) (by omega) (by omega) (fun k h3 h4 => hl k h3 h4)
      rw [g1]
      refine ih (i + 1) _ (by omega) (by omega) h12 ?_ ?_ (fun k h3 h4 => ?_)
      · refine congrArg lN ?_
        show 10 * (tdn a c i + (10 ^ i - tp a c i 0)) = 10 * (tdn a c i + 10 ^ i - tp a c i 0)
        rw [Nat.add_sub_assoc (tp_le a c ha hc i 0)]
      · rw [Nat.pow_succ]
      · show W k = _
        by_cases e : k = 10
        · rw [g3 k (by omega), e, tp_10 a c (i + 1) (by omega)]
          have := hl 10 (by omega) (by omega)
          rw [tp_10 a c i (by omega)] at this
          exact this
        · rw [g2 k h3 (by omega)]
          refine congrArg lN ?_
          show _ = (if k = 0 then _ else if k < 10 then _ else 0)
          rw [if_neg (by omega), if_pos (by omega)]
theorem low_n : ∀ (n t o : Nat), t < n → t < 2 ^ 63 → o < 2 ^ 63 → (L_X6_lowest_6 n (lN t) (lN o)).2 = lN (Nat.gcd t o) := by
  intro n
  induction n with
  | zero => intro t o h; omega
  | succ n ih =>
    intro t o h h1 h2
    rw [L_X6_lowest_6_s]
    by_cases t0 : t = 0
    · subst t0
      rw [if_pos ((lN0 (by decide)).mpr rfl), Nat.gcd_zero_left]
    · rw [if_neg (fun z => t0 ((lN0 h1).mp z)), pk_lRem h2 (by omega) h1, Nat.gcd_rec t o]
      have hr : o % t < t := Nat.mod_lt _ (by omega)
      exact ih _ _ (by omega) (by omega) h1
theorem lowest_nat {u w : Nat} (hu : u < 2 ^ 49) (hw : w < 2 ^ 49) (hw0 : 0 < w) (xp : Int32) : F_X6_lowest (lN u) (lN w) xp = if 0 ≤ lg_cmp (F_X5_commonDivisor (lN u) (lN w)) 1 then (if xp = 0 then lN u / F_X5_commonDivisor (lN u) (lN w) else lN w / F_X5_commonDivisor (lN u) (lN w)) else 0 := by
  have big : (2 : Nat) ^ 49 ≤ 2 ^ 63 := by decide
  rw [cdiv hw (by omega)]
  unfold F_X6_lowest
  have hg : 0 < Nat.gcd w u := Nat.gcd_pos_of_pos_left _ hw0
  have hgl : Nat.gcd w u ≤ w := Nat.le_of_dvd hw0 (Nat.gcd_dvd_left w u)
  have h := lgc_neg (lN (Nat.gcd w u)) 1
  have e1 : (1 : Int64).toInt = 1 := rfl
  rw [pk_lT (by omega), e1] at h
  have h3 : ¬ lg_cmp (lN (Nat.gcd w u)) 1 < 0 := fun z => by
    have := h.mp z
    omega
  have hle : 0 ≤ lg_cmp (lN (Nat.gcd w u)) 1 := le_of_nlt h3
  rw [bnd_def, pk_lT (by omega), low_n _ _ _ (by omega) (by omega) (by omega), Nat.gcd_comm u w, if_pos hle]
theorem api_tear {ch : CS} {pa : PA} {xn xm xt xw xp : Int32} {r1 r2 : Int64} {u1 : CS} {u2 : PA} (hrel : REL gg k kE kF pp lv sg pd kp) (e1 : F_X5_tear ch xn xm xt xw xp = (r1, u1)) (e2 : F_X6_tear pa xn xm xt xw xp = (r2, u2)) : r1 = r2 ∧ REL gg k kE kF pp lv sg pd kp := by
  refine ⟨?_, hrel⟩
  unfold F_X5_tear at e1
  unfold F_X6_tear at e2
  rw [bnd_def] at e1 e2
  by_cases w1 : F_X5_isWithin xn 0 9 = 0
  · rw [inW (a := 0) (b := 9) (by decide) (by decide), if_pos w1] at e2
    rw [if_pos w1, if_pos rfl] at e1
    cases e1
    cases e2
    rfl
  have n1 : ¬ F_X6_in xn.toInt64 0 9 = 0 := by
    rw [inW (a := 0) (b := 9) (by decide) (by decide)]
    exact w1
  rw [if_neg n1, bnd_def] at e2
  rw [if_neg w1, bnd_def] at e1
  by_cases w2 : F_X5_isWithin xm 0 12 = 0
  · rw [inW (a := 0) (b := 12) (by decide) (by decide), if_pos w2] at e2
    rw [if_pos w2, if_pos rfl] at e1
    cases e1
    cases e2
    rfl
  have n2 : ¬ F_X6_in xm.toInt64 0 12 = 0 := by
    rw [inW (a := 0) (b := 12) (by decide) (by decide)]
    exact w2
  rw [if_neg n2, bnd_def] at e2
  rw [if_neg w2, bnd_def] at e1
  by_cases w3 : F_X5_isWithin xt 0 10 = 0
  · rw [inW (a := 0) (b := 10) (by decide) (by decide), if_pos w3] at e2
    rw [if_pos w3, if_pos rfl] at e1
    cases e1
    cases e2
    rfl
  have n3 : ¬ F_X6_in xt.toInt64 0 10 = 0 := by
    rw [inW (a := 0) (b := 10) (by decide) (by decide)]
    exact w3
  rw [if_neg n3, bnd_def] at e2
  rw [if_neg w3, bnd_def] at e1
  rw [inW (a := 0) (b := 1) (by decide) (by decide)] at e2
  by_cases w4 : F_X5_isWithin xw 0 1 = 0
  · rw [if_pos w4] at e2
    rw [if_pos w4, if_pos rfl] at e1
    cases e1
    cases e2
    rfl
  rw [if_neg w4, bnd_def] at e2
  rw [if_neg w4, bnd_def] at e1
  rw [inW (a := 0) (b := 1) (by decide) (by decide)] at e2
  by_cases w5 : F_X5_isWithin xp 0 1 = 0
  · rw [if_pos w5] at e2
    rw [if_pos w5, if_pos rfl] at e1
    cases e1
    cases e2
    rfl
  rw [if_neg w5, bnd_def, bnd_def] at e2
  rw [if_neg w5, if_neg h10, bnd_def] at e1
  obtain ⟨a, c, ha, ha9, hc, hc10, h12, t1, t2, t3⟩ := tear_all (n := xn) (m := xm) (t := xt) (pa := pa) rfl rfl rfl n1 rfl n2 rfl n3
  subst ha
  subst hc
  have hm0 : 0 ≤ xm.toInt := vp_nn (in_in (n := 13) rfl n2 (by decide))
  have hR : F_X0_run ch (nI a) xm (nI c) = L_X0_run_47 xm (nI c) (xm.toNatClampNeg + 1) 0 (1, 0, cLeft (L_X0_run_3 (nI a) (11 + 1) 0 ch)) := by
    unfold F_X0_run
    rw [bnd_def, bnd_def]
  obtain ⟨g1, g2, g3⟩ := run47_n ha9 hc10 hm0 (xm.toNatClampNeg + 1) 0 (1, 0, cLeft (L_X0_run_3 (nI a) (11 + 1) 0 ch)) (Nat.zero_le _) (by omega) h12 rfl rfl (fun k h3 h4 => by
    show cLeft (L_X0_run_3 (nI a) (11 + 1) 0 ch) k = lN (if k < 10 ∧ k = a then 1 else 0)
    rw [run3_n ha9 _ _ _ (by omega) (by omega), if_pos (by omega)]
    by_cases e : k = a
    · rw [if_pos e, if_pos ⟨by omega, e⟩]
      rfl
    · rw [if_neg e, if_neg (fun z => e z.2)]
      rfl)
  rw [← hR] at g1 g2 g3
  have p12 := pow10_le h12
  have p0 : 0 < 10 ^ xm.toNatClampNeg := Nat.pow_pos (by decide)
  have big : (1000000000000 : Nat) < 2 ^ 49 := by decide
  have hd1 := tdn_le a c xm.toNatClampNeg
  have hd2 : xm.toNatClampNeg * 10 ^ xm.toNatClampNeg ≤ 12 * 1000000000000 := Nat.mul_le_mul h12 p12
  have big2 : (12000000000000 : Nat) < 2 ^ 49 := by decide
  have hs := sl_all ha9 hc10 (fun k h3 h4 => g3 k h3 (by omega))
  have z : (0 : Int32).toNatClampNeg = 0 := rfl
  by_cases w : xw = 0
  · rw [if_pos w, bnd_def] at e2
    rw [if_pos w, bnd_def, bnd_def, hs, g2] at e1
    have e3 : F_X6_lowest ((L_X6_tear_105 xm (nI c) (xm.toNatClampNeg + 1) 0 0 1 (L_X6_tear_65 (nI a) (10 + 1) 0 pa)).2.1 - tParts (L_X6_tear_105 xm (nI c) (xm.toNatClampNeg + 1) 0 0 1 (L_X6_tear_65 (nI a) (10 + 1) 0 pa)).2.2 (0 : Int32).toNatClampNeg) (L_X6_tear_105 xm (nI c) (xm.toNatClampNeg + 1) 0 0 1 (L_X6_tear_65 (nI a) (10 + 1) 0 pa)).2.1 xp = F_X6_lowest (lN (10 ^ xm.toNatClampNeg - tp a c xm.toNatClampNeg 0)) (lN (10 ^ xm.toNatClampNeg)) xp := by
      rw [t2, z]
      dsimp only [tParts]
      rw [t3 0 (by omega), lN_sub (tp_le a c ha9 hc10 _ 0)]
    rw [e3, lowest_nat (by omega) (by omega) p0] at e2
    have f2 : _ = r2 := congrArg Prod.fst e2
    have f1 : _ = r1 := congrArg Prod.fst e1
    rw [← f1, ← f2]
    show Prod.fst _ = (if _ then _ else _)
    split
    · split <;> rfl
    · rfl
  · rw [if_neg w, bnd_def] at e2
    rw [if_neg w, bnd_def, g1, g2] at e1
    rw [t1, t2, lowest_nat (by omega) (by omega) p0] at e2
    have f2 : _ = r2 := congrArg Prod.fst e2
    have f1 : _ = r1 := congrArg Prod.fst e1
    rw [← f1, ← f2]
    show Prod.fst _ = (if _ then _ else _)
    split
    · split <;> rfl
    · rfl
end A6
