/-! match: cuts, and why the greedy choice is right -/
def sumI (f : Nat → Int) : Nat → Int
  | 0 => 0
  | n + 1 => sumI f n + f n
theorem sumI_congr {f g : Nat → Int} : ∀ n, (∀ i, i < n → f i = g i) → sumI f n = sumI g n := by
  intro n
  induction n with
  | zero => intro _; rfl
  | succ n ih =>
    intro h
    show sumI f n + f n = sumI g n + g n
    rw [ih (fun i hi => h i (by omega)), h n (by omega)]
theorem sumI_le {f g : Nat → Int} : ∀ n, (∀ i, i < n → f i ≤ g i) → sumI f n ≤ sumI g n := by
  intro n
  induction n with
  | zero => intro _; exact Int.le_refl _
  | succ n ih =>
    intro h
    show sumI f n + f n ≤ sumI g n + g n
    have a := ih (fun i hi => h i (by omega))
    have b := h n (by omega)
    omega
theorem sumI_add (f g : Nat → Int) : ∀ n, sumI (fun i => f i + g i) n = sumI f n + sumI g n := by
  intro n
  induction n with
  | zero => rfl
  | succ n ih =>
    show sumI (fun i => f i + g i) n + (f n + g n) = (sumI f n + f n) + (sumI g n + g n)
    rw [ih]
    omega
theorem sumI_mul (v : Int) (f : Nat → Int) : ∀ n, sumI (fun i => v * f i) n = v * sumI f n := by
  intro n
  induction n with
  | zero => exact (Int.mul_zero v).symm
  | succ n ih =>
    show sumI (fun i => v * f i) n + v * f n = v * (sumI f n + f n)
    rw [ih, Int.mul_add]
theorem sumI_at {f g : Nat → Int} {c : Nat} : ∀ n, c < n → (∀ i, i < n → i ≠ c → f i = g i) → sumI f n = sumI g n + (f c - g c) := by
  intro n
  induction n with
  | zero => intro h; omega
  | succ n ih =>
    intro h e
    show sumI f n + f n = sumI g n + g n + (f c - g c)
    by_cases z : c = n
    · rw [sumI_congr n (fun i hi => e i (by omega) (by omega)), z]
      omega
    · rw [ih (by omega) (fun i hi hn => e i (by omega) hn), e n (by omega) (fun q => z q.symm)]
      omega
theorem sumI_bd {f : Nat → Int} {B : Int} : ∀ n, (∀ i, i < n → 0 ≤ f i ∧ f i ≤ B) → 0 ≤ sumI f n ∧ sumI f n ≤ B * n := by
  intro n
  induction n with
  | zero => intro _; exact ⟨Int.le_refl _, by simp [sumI]⟩
  | succ n ih =>
    intro h
    have a := ih (fun i hi => h i (by omega))
    have b := h n (by omega)
    have e : B * ((n + 1 : Nat) : Int) = B * (n : Int) + B := by rw [Int.natCast_add, Int.mul_add]; simp
    rw [e]
    show 0 ≤ sumI f n + f n ∧ sumI f n + f n ≤ _
    omega
def subB (o : Nat → Bool) (S : Nat) : Nat → Bool
  | 0 => true
  | n + 1 => subB o S n && (!(o n) || S.testBit n)
theorem subB_iff {o : Nat → Bool} {S : Nat} : ∀ n, subB o S n = true ↔ ∀ c, c < n → o c = true → S.testBit c = true := by
  intro n
  induction n with
  | zero => exact ⟨fun _ c hc => absurd hc (Nat.not_lt_zero c), fun _ => rfl⟩
  | succ n ih =>
    show (subB o S n && (!(o n) || S.testBit n)) = true ↔ _
    rw [Bool.and_eq_true, ih]
    constructor
    · rintro ⟨h1, h2⟩ c hc ho
      by_cases z : c = n
      · rw [z] at ho ⊢
        rw [ho] at h2
        exact h2
      · exact h1 c (by omega) ho
    · intro h
      refine ⟨fun c hc ho => h c (by omega) ho, ?_⟩
      by_cases ho : o n = true
      · rw [h n (by omega) ho, Bool.or_true]
      · have ho' : o n = false := by simpa using ho
        rw [ho']
        rfl
def rC (r : Nat → Int) (S c : Nat) : Int := if S.testBit c = true then r c else 0
def cH (R : Nat → Bool) (O : Nat → Nat → Bool) (S h : Nat) : Int := if R h = true then (if subB (O h) S 6 = true then 0 else 1) else 0
def iH (R : Nat → Bool) (O : Nat → Nat → Bool) (S h : Nat) : Int := if R h = true then (if subB (O h) S 6 = true then 1 else 0) else 0
def nH (R : Nat → Bool) (h : Nat) : Int := if R h = true then 1 else 0
def cutR (r : Nat → Int) (S : Nat) : Int := sumI (rC r S) 6
def cutH (R : Nat → Bool) (O : Nat → Nat → Bool) (S : Nat) : Int := sumI (cH R O S) 24
def inH (R : Nat → Bool) (O : Nat → Nat → Bool) (S : Nat) : Int := sumI (iH R O S) 24
def cntH (R : Nat → Bool) : Int := sumI (nH R) 24
def cut (r : Nat → Int) (R : Nat → Bool) (O : Nat → Nat → Bool) (S : Nat) : Int := cutR r S + cutH R O S
theorem cnt_in (R : Nat → Bool) (O : Nat → Nat → Bool) (S : Nat) : cntH R = inH R O S + cutH R O S := by
  unfold cntH inH cutH
  rw [← sumI_add]
  refine sumI_congr 24 (fun h _ => ?_)
  show nH R h = iH R O S h + cH R O S h
  unfold nH iH cH
  by_cases z : R h = true
  · rw [if_pos z, if_pos z, if_pos z]
    split <;> rfl
  · rw [if_neg z, if_neg z, if_neg z]
    rfl
theorem cut_congr {r r' : Nat → Int} {R R' : Nat → Bool} (O : Nat → Nat → Bool) (hr : ∀ c, c < 6 → r' c = r c) (hR : ∀ h, h < 24 → R' h = R h) (S : Nat) : cut r' R' O S = cut r R O S ∧ cutR r' S = cutR r S ∧ inH R' O S = inH R O S ∧ cntH R' = cntH R := by
  have e1 : cutR r' S = cutR r S := sumI_congr 6 (fun c hc => by unfold rC; rw [hr c hc])
  have e2 : cutH R' O S = cutH R O S := sumI_congr 24 (fun h hh => by unfold cH; rw [hR h hh])
  have e3 : inH R' O S = inH R O S := sumI_congr 24 (fun h hh => by unfold iH; rw [hR h hh])
  have e4 : cntH R' = cntH R := sumI_congr 24 (fun h hh => by unfold nH; rw [hR h hh])
  refine ⟨?_, e1, e3, e4⟩
  unfold cut
  rw [e1, e2]
/-- one hour less -/
theorem cut_hour {R R' : Nat → Bool} (O : Nat → Nat → Bool) {h : Nat} (hh : h < 24) (hR : R h = true) (hR' : R' h = false) (ho : ∀ i, i < 24 → i ≠ h → R i = R' i) (S : Nat) : cutH R O S = cutH R' O S + (if subB (O h) S 6 = true then 0 else 1) ∧ inH R O S = inH R' O S + (if subB (O h) S 6 = true then 1 else 0) ∧ cntH R = cntH R' + 1 := by
  have nn : ¬ R' h = true := by rw [hR']; decide
  have e1 := sumI_at (f := cH R O S) (g := cH R' O S) 24 hh (fun i hi hn => by unfold cH; rw [ho i hi hn])
  have e2 := sumI_at (f := iH R O S) (g := iH R' O S) 24 hh (fun i hi hn => by unfold iH; rw [ho i hi hn])
  have e3 := sumI_at (f := nH R) (g := nH R') 24 hh (fun i hi hn => by unfold nH; rw [ho i hi hn])
  have f1 : cH R O S h = if subB (O h) S 6 = true then 0 else 1 := if_pos hR
  have f2 : cH R' O S h = 0 := if_neg nn
  have f3 : iH R O S h = if subB (O h) S 6 = true then 1 else 0 := if_pos hR
  have f4 : iH R' O S h = 0 := if_neg nn
  have f5 : nH R h = 1 := if_pos hR
  have f6 : nH R' h = 0 := if_neg nn
  rw [f1, f2, Int.sub_zero] at e1
  rw [f3, f4, Int.sub_zero] at e2
  rw [f5, f6, Int.sub_zero] at e3
  exact ⟨e1, e2, e3⟩
def addR (r : Nat → Int) (c : Nat) (d : Int) (i : Nat) : Int := if i = c then r i + d else r i
theorem cutR_add (r : Nat → Int) {c : Nat} (hc : c < 6) (d : Int) (S : Nat) : cutR (addR r c d) S = cutR r S + (if S.testBit c = true then d else 0) := by
  have e1 := sumI_at (f := rC (addR r c d) S) (g := rC r S) 6 hc (fun i hi hn => by unfold rC addR; rw [if_neg hn])
  have f1 : rC (addR r c d) S c - rC r S c = if S.testBit c = true then d else 0 := by
    unfold rC addR
    rw [if_pos rfl]
    split
    · omega
    · omega
  rw [f1] at e1
  exact e1
def isMin (f : Nat → Int) (v : Int) : Prop := (∀ S, S < 64 → v ≤ f S) ∧ ∃ S, S < 64 ∧ f S = v
theorem isMin_u {f : Nat → Int} {v w : Int} (h : isMin f v) (g : isMin f w) : v = w := by
  obtain ⟨h1, S, hS, e1⟩ := h
  obtain ⟨g1, T, hT, e2⟩ := g
  have a := h1 T hT
  have b := g1 S hS
  omega
theorem isMin_c {f g : Nat → Int} {v : Int} (h : isMin f v) (e : ∀ S, S < 64 → g S = f S) : isMin g v := by
  obtain ⟨h1, S, hS, e1⟩ := h
  exact ⟨fun T hT => by rw [e T hT]; exact h1 T hT, S, hS, by rw [e S hS]; exact e1⟩
theorem isMin_ex (f : Nat → Int) : ∃ v, isMin f v := by
  have : ∀ n, ∃ S, S < n + 1 ∧ ∀ T, T < n + 1 → f S ≤ f T := by
    intro n
    induction n with
    | zero => exact ⟨0, by decide, fun T hT => by rw [show T = 0 by omega]; exact Int.le_refl _⟩
    | succ n ih =>
      obtain ⟨S, hS, h⟩ := ih
      by_cases q : f S ≤ f (n + 1)
      · refine ⟨S, by omega, fun T hT => ?_⟩
        by_cases z : T = n + 1
        · rw [z]; exact q
        · exact h T (by omega)
      · refine ⟨n + 1, by omega, fun T hT => ?_⟩
        by_cases z : T = n + 1
        · rw [z]; exact Int.le_refl _
        · have := h T (by omega)
          omega
  obtain ⟨S, hS, h⟩ := this 63
  exact ⟨f S, fun T hT => h T hT, S, hS, rfl⟩
theorem cut_sub (r : Nat → Int) (R : Nat → Bool) (O : Nat → Nat → Bool) (A B : Nat) : cut r R O (A ||| B) + cut r R O (A &&& B) ≤ cut r R O A + cut r R O B := by
  have e1 : cutR r (A ||| B) + cutR r (A &&& B) = cutR r A + cutR r B := by
    unfold cutR
    rw [← sumI_add, ← sumI_add]
    refine sumI_congr 6 (fun c _ => ?_)
    show rC r (A ||| B) c + rC r (A &&& B) c = rC r A c + rC r B c
    unfold rC
    rw [Nat.testBit_or, Nat.testBit_and]
    cases A.testBit c <;> cases B.testBit c <;> simp
  have e2 : cutH R O (A ||| B) + cutH R O (A &&& B) ≤ cutH R O A + cutH R O B := by
    unfold cutH
    rw [← sumI_add, ← sumI_add]
    refine sumI_le 24 (fun h _ => ?_)
    show cH R O (A ||| B) h + cH R O (A &&& B) h ≤ cH R O A h + cH R O B h
    have hA : subB (O h) A 6 = true → subB (O h) (A ||| B) 6 = true := fun q => by
      rw [subB_iff] at q ⊢
      intro c hc ho
      rw [Nat.testBit_or, q c hc ho, Bool.true_or]
    have hB : subB (O h) B 6 = true → subB (O h) (A ||| B) 6 = true := fun q => by
      rw [subB_iff] at q ⊢
      intro c hc ho
      rw [Nat.testBit_or, q c hc ho, Bool.or_true]
    have hAB : subB (O h) A 6 = true → subB (O h) B 6 = true → subB (O h) (A &&& B) 6 = true := fun q p => by
      rw [subB_iff] at q p ⊢
      intro c hc ho
      rw [Nat.testBit_and, q c hc ho, p c hc ho]
      rfl
    unfold cH
    by_cases z : R h = true
    · rw [if_pos z, if_pos z, if_pos z, if_pos z]
      by_cases a : subB (O h) A 6 = true
      · by_cases b : subB (O h) B 6 = true
        · rw [if_pos a, if_pos b, if_pos (hA a), if_pos (hAB a b)]
          decide
        · rw [if_pos a, if_neg b, if_pos (hA a)]
          split <;> decide
      · by_cases b : subB (O h) B 6 = true
        · rw [if_neg a, if_pos b, if_pos (hB b)]
          split <;> decide
        · rw [if_neg a, if_neg b]
          split <;> split <;> decide
    · rw [if_neg z, if_neg z, if_neg z, if_neg z]
      decide
  unfold cut
  omega
theorem greedy {r : Nat → Int} {R R' : Nat → Bool} {O : Nat → Nat → Bool} {h : Nat} {M M' : Int} (hh : h < 24) (hR : R h = true) (hR' : R' h = false) (ho : ∀ i, i < 24 → i ≠ h → R i = R' i) (hM : isMin (cut r R O) M) (hM' : isMin (cut r R' O) M') (hr : ∀ c, c < 6 → 0 ≤ r c) (hno : ∀ c, c < 6 → O h c = true → 0 < r c → ∀ v, isMin (cut (addR r c (-1)) R' O) v → ¬ v + 1 = M) : M' = M := by
  obtain ⟨m1, S1, hS1, m2⟩ := hM
  obtain ⟨p1, S0, hS0, p2⟩ := hM'
  have step : ∀ S, cut r R O S = cut r R' O S + (if subB (O h) S 6 = true then 0 else 1) := fun S => by
    unfold cut
    rw [(cut_hour O hh hR hR' ho S).1]
    omega
  have b1 : M' ≤ M := by
    have a := p1 S1 hS1
    have b := step S1
    rw [m2] at b
    split at b <;> omega
  have b2 : M ≤ M' + 1 := by
    have a := m1 S0 hS0
    have b := step S0
    rw [p2] at b
    split at b <;> omega
  by_cases q : M' = M
  · exact q
  · exfalso
    have tight : ∀ c, c < 6 → O h c = true → ∃ S, S < 64 ∧ S.testBit c = true ∧ cut r R' O S = M' := by
      intro c hc hO
      by_cases z : 0 < r c
      · obtain ⟨v, hv⟩ := isMin_ex (cut (addR r c (-1)) R' O)
        have hn := hno c hc hO z v hv
        obtain ⟨v1, S, hS, v2⟩ := hv
        have eS : ∀ T, cut (addR r c (-1)) R' O T = cut r R' O T + (if T.testBit c = true then -1 else 0) := fun T => by
          unfold cut
          rw [cutR_add r hc]
          omega
        have a1 := v1 S0 hS0
        have a2 := eS S0
        have a3 := p1 S hS
        have a4 := eS S
        refine ⟨S, hS, ?_, ?_⟩
        · by_cases t : S.testBit c = true
          · exact t
          · rw [if_neg t] at a4
            split at a2 <;> omega
        · split at a2 <;> split at a4 <;> omega
      · have rz : r c = 0 := by have := hr c hc; omega
        have hlt : S0 ||| 2 ^ c < 64 := by
          have h2 : 2 ^ c < 2 ^ 6 := Nat.pow_lt_pow_right (by decide) hc
          exact Nat.or_lt_two_pow (n := 6) hS0 h2
        have tb : ∀ i, (S0 ||| 2 ^ c).testBit i = (S0.testBit i || decide (c = i)) := fun i => by
          rw [Nat.testBit_or, Nat.testBit_two_pow]
        refine ⟨S0 ||| 2 ^ c, hlt, by rw [tb, decide_eq_true rfl, Bool.or_true], ?_⟩
        have e1 : cutR r (S0 ||| 2 ^ c) = cutR r S0 := by
          unfold cutR
          refine sumI_congr 6 (fun i _ => ?_)
          unfold rC
          rw [tb]
          by_cases w : c = i
          · rw [← w, rz]
            split <;> split <;> rfl
          · rw [decide_eq_false w, Bool.or_false]
        have e2 : cutH R' O (S0 ||| 2 ^ c) ≤ cutH R' O S0 := by
          unfold cutH
          refine sumI_le 24 (fun x _ => ?_)
          unfold cH
          have mono : subB (O x) S0 6 = true → subB (O x) (S0 ||| 2 ^ c) 6 = true := fun q => by
            rw [subB_iff] at q ⊢
            intro i hi hO'
            rw [tb, q i hi hO', Bool.true_or]
          by_cases w : R' x = true
          · rw [if_pos w, if_pos w]
            by_cases y : subB (O x) S0 6 = true
            · rw [if_pos y, if_pos (mono y)]
              decide
            · rw [if_neg y]
              split <;> decide
          · rw [if_neg w, if_neg w]
            decide
        have a := p1 _ hlt
        unfold cut at a p2 ⊢
        omega
    have all : ∀ n, n ≤ 6 → ∃ T, T < 64 ∧ cut r R' O T = M' ∧ ∀ c, c < n → O h c = true → T.testBit c = true := by
      intro n
      induction n with
      | zero => intro _; exact ⟨S0, hS0, p2, fun c hc => absurd hc (Nat.not_lt_zero c)⟩
      | succ n ih =>
        intro hn
        obtain ⟨T, hT, t1, t2⟩ := ih (by omega)
        by_cases z : O h n = true
        · obtain ⟨S, hS, s1, s2⟩ := tight n (by omega) z
          have u1 : T ||| S < 64 := Nat.or_lt_two_pow (n := 6) hT hS
          have u2 : T &&& S < 64 := Nat.lt_of_le_of_lt Nat.and_le_left hT
          have a := p1 _ u1
          have b := p1 _ u2
          have d := cut_sub r R' O T S
          refine ⟨T ||| S, u1, by omega, fun c hc hO => ?_⟩
          rw [Nat.testBit_or]
          by_cases y : c = n
          · rw [y, s1, Bool.or_true]
          · rw [t2 c (by omega) hO, Bool.true_or]
        · refine ⟨T, hT, t1, fun c hc hO => ?_⟩
          by_cases y : c = n
          · rw [y] at hO
            exact absurd hO z
          · exact t2 c (by omega) hO
    obtain ⟨T, hT, t1, t2⟩ := all 6 (Nat.le_refl _)
    have a := m1 T hT
    have b := step T
    rw [if_pos ((subB_iff 6).mpr t2)] at b
    omega
