/-! match: the class's side -/
def ownB (k : KS) (h c : Nat) : Bool := bt (F_X1_ownersOf k (nI h)) c
theorem own_sub (k : KS) (h : Nat) {S : Nat} (hS : S < 64) : (F_X1_ownersOf k (nI h) &&& (nI S ^^^ (-1 : Int32))) = 0 ↔ subB (ownB k h) S 6 = true := by
  rw [andn_iff, subB_iff]
  constructor
  · intro q c hc ho
    have := q c (by omega) ho
    rw [bt_nI (by omega)] at this
    exact this
  · intro q i hi ho
    rw [bt_nI (by omega)]
    by_cases z : i < 6
    · exact q i z ho
    · rw [bt_small (owners_6 k (nI h)) (by decide) (by omega)] at ho
      exact absurd ho (by decide)
def RB (r : Nat → Int) : Prop := ∀ c, c < 6 → 0 ≤ r c ∧ r c ≤ 24
theorem rC_bd {r : Nat → Int} (h : RB r) (S : Nat) {c : Nat} (hc : c < 6) : 0 ≤ rC r S c ∧ rC r S c ≤ 24 := by
  have := h c hc
  unfold rC
  split <;> omega
theorem cutR_bd {r : Nat → Int} (h : RB r) (S : Nat) : 0 ≤ cutR r S ∧ cutR r S ≤ 144 := by
  have a := sumI_bd (f := rC r S) (B := 24) 6 (fun c hc => rC_bd h S hc)
  exact a
theorem iH_bd (R : Nat → Bool) (O : Nat → Nat → Bool) (S c : Nat) : 0 ≤ iH R O S c ∧ iH R O S c ≤ 1 := by
  unfold iH
  split
  · split <;> decide
  · decide
theorem cH_bd (R : Nat → Bool) (O : Nat → Nat → Bool) (S c : Nat) : 0 ≤ cH R O S c ∧ cH R O S c ≤ 1 := by
  unfold cH
  split
  · split <;> decide
  · decide
theorem inH_bd (R : Nat → Bool) (O : Nat → Nat → Bool) (S : Nat) : 0 ≤ inH R O S ∧ inH R O S ≤ 24 := by
  have a := sumI_bd (f := iH R O S) (B := 1) 24 (fun c _ => iH_bd R O S c)
  exact a
theorem cutH_bd (R : Nat → Bool) (O : Nat → Nat → Bool) (S : Nat) : 0 ≤ cutH R O S ∧ cutH R O S ≤ 24 := by
  have a := sumI_bd (f := cH R O S) (B := 1) 24 (fun c _ => cH_bd R O S c)
  exact a
theorem cntH_bd (R : Nat → Bool) : 0 ≤ cntH R ∧ cntH R ≤ 24 := by
  have a := sumI_bd (f := nH R) (B := 1) 24 (fun c _ => by
    unfold nH
    split <;> decide)
  exact a
theorem add32 {a b : Int32} (h1 : -1000 ≤ a.toInt + b.toInt) (h2 : a.toInt + b.toInt ≤ 1000) : (a + b).toInt = a.toInt + b.toInt := by
  rw [Int32.toInt_add]
  exact bm32 (by omega) (by omega)
theorem sub32 {a b : Int32} (h1 : -1000 ≤ a.toInt - b.toInt) (h2 : a.toInt - b.toInt ≤ 1000) : (a - b).toInt = a.toInt - b.toInt := by
  rw [Int32.toInt_sub]
  exact bm32 (by omega) (by omega)
def MI (k : KS) (r : Nat → Int) (R : Nat → Bool) (mm : MS) : Prop := (mHoursToCome mm).toInt = cntH R ∧ (∀ c, c < 6 → (mRoom mm c).toInt = r c) ∧ ∀ S, S < 64 → (mSlack mm S).toInt = cutR r S - inH R (ownB k) S
theorem mi_cong {k : KS} {r r' : Nat → Int} {R R' : Nat → Bool} {mm : MS} (h : MI k r R mm) (hr : ∀ c, c < 6 → r' c = r c) (hR : ∀ x, x < 24 → R' x = R x) : MI k r' R' mm := by
  obtain ⟨h1, h2, h3⟩ := h
  refine ⟨?_, fun c hc => by rw [hr c hc]; exact h2 c hc, fun S hS => ?_⟩
  · rw [(cut_congr (ownB k) hr hR 0).2.2.2]
    exact h1
  · rw [(cut_congr (ownB k) hr hR S).2.1, (cut_congr (ownB k) hr hR S).2.2.1]
    exact h3 S hS
theorem most_n {mm : MS} : ∀ (n i : Nat) (v : Int32), i ≤ 64 → 64 < i + n → (L_X3_most_9 mm n i v).toInt ≤ v.toInt ∧ (∀ S, i ≤ S → S < 64 → (L_X3_most_9 mm n i v).toInt ≤ (mSlack mm S).toInt) ∧ (L_X3_most_9 mm n i v = v ∨ ∃ S, i ≤ S ∧ S < 64 ∧ L_X3_most_9 mm n i v = mSlack mm S) := by
  intro n
  induction n with
  | zero => intro i v h1 h2; omega
  | succ n ih =>
    intro i v h1 h2
    rw [L_X3_most_9_s]
    by_cases q : i = 64
    · rw [if_pos (show (64 : Int32) ≤ nI i by rw [q]; decide)]
      exact ⟨Int.le_refl _, fun S h3 h4 => by omega, Or.inl rfl⟩
    · rw [if_neg (show ¬ (64 : Int32) ≤ nI i from nI_ge (b := 64) (by omega) (by decide)), nI_clamp (n := i) (by omega)]
      by_cases z : mSlack mm i < v
      · rw [if_pos z]
        rw [Int32.lt_iff_toInt_lt] at z
        obtain ⟨g1, g2, g3⟩ := ih (i + 1) (mSlack mm i) (by omega) (by omega)
        refine ⟨by omega, fun S h3 h4 => ?_, ?_⟩
        · by_cases y : S = i
          · rw [y]; exact g1
          · exact g2 S (by omega) h4
        · rcases g3 with g3 | ⟨S, s1, s2, s3⟩
          · exact Or.inr ⟨i, Nat.le_refl _, by omega, g3⟩
          · exact Or.inr ⟨S, by omega, s2, s3⟩
      · rw [if_neg z]
        rw [Int32.lt_iff_toInt_lt] at z
        obtain ⟨g1, g2, g3⟩ := ih (i + 1) v (by omega) (by omega)
        refine ⟨g1, fun S h3 h4 => ?_, ?_⟩
        · by_cases y : S = i
          · rw [y]; omega
          · exact g2 S (by omega) h4
        · rcases g3 with g3 | ⟨S, s1, s2, s3⟩
          · exact Or.inl g3
          · exact Or.inr ⟨S, by omega, s2, s3⟩
theorem most_min {k : KS} {r : Nat → Int} {R : Nat → Bool} {mm : MS} (h : MI k r R mm) (hb : RB r) : isMin (cut r R (ownB k)) (F_X3_most mm).toInt := by
  obtain ⟨h1, h2, h3⟩ := h
  obtain ⟨g1, g2, g3⟩ := most_n (mm := mm) (64 + 1) 1 (mSlack mm 0) (by decide) (by decide)
  have e0 : ∀ S, S < 64 → cut r R (ownB k) S = cntH R + (mSlack mm S).toInt := fun S hS => by
    rw [h3 S hS, cnt_in R (ownB k) S]
    unfold cut
    omega
  have at' : ∃ S, S < 64 ∧ L_X3_most_9 mm (64 + 1) 1 (mSlack mm 0) = mSlack mm S := by
    rcases g3 with g3 | ⟨S, s1, s2, s3⟩
    · exact ⟨0, by decide, g3⟩
    · exact ⟨S, s2, s3⟩
  obtain ⟨S, hS, s3⟩ := at'
  have eM : F_X3_most mm = mHoursToCome mm + L_X3_most_9 mm (64 + 1) 1 (mSlack mm 0) := by
    unfold F_X3_most
    rw [bnd_def]
    rfl
  have b1 := cutR_bd hb S
  have b2 := inH_bd R (ownB k) S
  have b3 := cntH_bd R
  have b4 := h3 S hS
  have eT : (F_X3_most mm).toInt = cntH R + (L_X3_most_9 mm (64 + 1) 1 (mSlack mm 0)).toInt := by
    rw [eM, add32 (by rw [h1, s3]; omega) (by rw [h1, s3]; omega), h1]
  refine ⟨fun T hT => ?_, S, hS, ?_⟩
  · rw [eT, e0 T hT]
    by_cases z : T = 0
    · rw [z]; omega
    · have := g2 T (by omega) hT
      omega
  · rw [eT, e0 S hS, s3]
theorem ch_n (xo xb : Int32) : ∀ (n i : Nat) (mm : MS), i ≤ 64 → 64 < i + n → mHoursToCome (L_X3_changeHours_12 xo xb n i mm) = mHoursToCome mm ∧ mRoom (L_X3_changeHours_12 xo xb n i mm) = mRoom mm ∧ ∀ S, S < 64 → mSlack (L_X3_changeHours_12 xo xb n i mm) S = if i ≤ S ∧ (xo &&& (nI S ^^^ (-1 : Int32))) = 0 then mSlack mm S - xb else mSlack mm S := by
  intro n
  induction n with
  | zero => intro i mm h1 h2; omega
  | succ n ih =>
    intro i mm h1 h2
    rw [L_X3_changeHours_12_s]
    by_cases q : i = 64
    · rw [if_pos (show (64 : Int32) ≤ nI i by rw [q]; decide)]
      exact ⟨rfl, rfl, fun S hS => by rw [if_neg (show ¬ (i ≤ S ∧ _) from fun e => by have := e.1; omega)]⟩
    · rw [if_neg (show ¬ (64 : Int32) ≤ nI i from nI_ge (b := 64) (by omega) (by decide)), nI_clamp (n := i) (by omega)]
      by_cases z : (xo &&& (nI i ^^^ (-1 : Int32))) = 0
      · rw [if_pos z]
        obtain ⟨g1, g2, g3⟩ := ih (i + 1) (mHoursToCome mm, mRoom mm, upd (mSlack mm) i (mSlack mm i - xb)) (by omega) (by omega)
        refine ⟨g1, g2, fun S hS => ?_⟩
        rw [g3 S hS]
        show (if i + 1 ≤ S ∧ _ then upd (mSlack mm) i (mSlack mm i - xb) S - xb else upd (mSlack mm) i (mSlack mm i - xb) S) = _
        by_cases y : S = i
        · rw [y, if_neg (show ¬ (i + 1 ≤ i ∧ _) from fun e => by have := e.1; omega), if_pos ⟨Nat.le_refl _, z⟩, pk_us]
        · rw [pk_un y]
          by_cases w : i + 1 ≤ S ∧ (xo &&& (nI S ^^^ (-1 : Int32))) = 0
          · rw [if_pos w, if_pos ⟨by omega, w.2⟩]
          · rw [if_neg w, if_neg (fun e => w ⟨by have := e.1; omega, e.2⟩)]
      · rw [if_neg z]
        obtain ⟨g1, g2, g3⟩ := ih (i + 1) mm (by omega) (by omega)
        refine ⟨g1, g2, fun S hS => ?_⟩
        rw [g3 S hS]
        by_cases y : S = i
        · rw [y, if_neg (show ¬ (i + 1 ≤ i ∧ _) from fun e => by have := e.1; omega), if_neg (fun e => z e.2)]
        · by_cases w : i + 1 ≤ S ∧ (xo &&& (nI S ^^^ (-1 : Int32))) = 0
          · rw [if_pos w, if_pos ⟨by omega, w.2⟩]
          · rw [if_neg w, if_neg (fun e => w ⟨by have := e.1; omega, e.2⟩)]
theorem mi_less {k : KS} {r : Nat → Int} {R R' : Nat → Bool} {mm : MS} {h : Nat} (hh : h < 24) (hb : RB r) (hR : R h = true) (hR' : R' h = false) (ho : ∀ i, i < 24 → i ≠ h → R i = R' i) (hm : MI k r R mm) : MI k r R' (F_X3_changeHours mm (F_X1_ownersOf k (nI h)) (-1)) := by
  obtain ⟨h1, h2, h3⟩ := hm
  unfold F_X3_changeHours
  rw [bnd_def]
  obtain ⟨g1, g2, g3⟩ := ch_n (F_X1_ownersOf k (nI h)) (-1) (64 + 1) 0 (mHoursToCome mm + (-1 : Int32), mRoom mm, mSlack mm) (by decide) (by decide)
  have z1 : (-1 : Int32).toInt = -1 := rfl
  have c1 := (cut_hour (ownB k) hh hR hR' ho 0).2.2
  have c2 := cntH_bd R
  refine ⟨?_, fun c hc => by rw [g2]; exact h2 c hc, fun S hS => ?_⟩
  · rw [g1]
    show (mHoursToCome mm + (-1 : Int32)).toInt = _
    rw [add32 (by rw [h1, z1]; omega) (by rw [h1, z1]; omega), h1, z1]
    omega
  · rw [g3 S hS]
    have c3 := (cut_hour (ownB k) hh hR hR' ho S).2.1
    have b1 := cutR_bd hb S
    have b2 := inH_bd R (ownB k) S
    have b4 := h3 S hS
    by_cases w : subB (ownB k h) S 6 = true
    · rw [if_pos ⟨Nat.zero_le _, (own_sub k h hS).mpr w⟩]
      show (mSlack mm S - (-1 : Int32)).toInt = _
      rw [if_pos w] at c3
      rw [sub32 (by rw [b4, z1]; omega) (by rw [b4, z1]; omega), b4, z1]
      omega
    · rw [if_neg (fun e => w ((own_sub k h hS).mp e.2))]
      show (mSlack mm S).toInt = _
      rw [if_neg w] at c3
      rw [b4]
      omega
theorem mi_more {k : KS} {r : Nat → Int} {R R' : Nat → Bool} {mm : MS} {h : Nat} (hh : h < 24) (hb : RB r) (hR : R h = true) (hR' : R' h = false) (ho : ∀ i, i < 24 → i ≠ h → R i = R' i) (hm : MI k r R' mm) : MI k r R (F_X3_changeHours mm (F_X1_ownersOf k (nI h)) 1) := by
  obtain ⟨h1, h2, h3⟩ := hm
  unfold F_X3_changeHours
  rw [bnd_def]
  obtain ⟨g1, g2, g3⟩ := ch_n (F_X1_ownersOf k (nI h)) 1 (64 + 1) 0 (mHoursToCome mm + (1 : Int32), mRoom mm, mSlack mm) (by decide) (by decide)
  have z1 : (1 : Int32).toInt = 1 := rfl
  have c1 := (cut_hour (ownB k) hh hR hR' ho 0).2.2
  have c2 := cntH_bd R
  refine ⟨?_, fun c hc => by rw [g2]; exact h2 c hc, fun S hS => ?_⟩
  · rw [g1]
    show (mHoursToCome mm + (1 : Int32)).toInt = _
    rw [add32 (by rw [h1, z1]; omega) (by rw [h1, z1]; omega), h1, z1]
    omega
  · rw [g3 S hS]
    have c3 := (cut_hour (ownB k) hh hR hR' ho S).2.1
    have b1 := cutR_bd hb S
    have b2 := inH_bd R (ownB k) S
    have b4 := h3 S hS
    by_cases w : subB (ownB k h) S 6 = true
    · rw [if_pos ⟨Nat.zero_le _, (own_sub k h hS).mpr w⟩]
      show (mSlack mm S - (1 : Int32)).toInt = _
      rw [if_pos w] at c3
      rw [sub32 (by rw [b4, z1]; omega) (by rw [b4, z1]; omega), b4, z1]
      omega
    · rw [if_neg (fun e => w ((own_sub k h hS).mp e.2))]
      show (mSlack mm S).toInt = _
      rw [if_neg w] at c3
      rw [b4]
      omega
theorem cr_n (xc xb : Int32) : ∀ (n i : Nat) (mm : MS), i ≤ 64 → 64 < i + n → mHoursToCome (L_X3_changeRoom_22 xc xb n i mm) = mHoursToCome mm ∧ mRoom (L_X3_changeRoom_22 xc xb n i mm) = mRoom mm ∧ ∀ S, S < 64 → mSlack (L_X3_changeRoom_22 xc xb n i mm) S = if i ≤ S ∧ ¬ (nI S &&& ((1 : Int32) <<< (xc &&& 31))) = 0 then mSlack mm S + xb else mSlack mm S := by
  intro n
  induction n with
  | zero => intro i mm h1 h2; omega
  | succ n ih =>
    intro i mm h1 h2
    rw [L_X3_changeRoom_22_s]
    by_cases q : i = 64
    · rw [if_pos (show (64 : Int32) ≤ nI i by rw [q]; decide)]
      exact ⟨rfl, rfl, fun S hS => by rw [if_neg (show ¬ (i ≤ S ∧ _) from fun e => by have := e.1; omega)]⟩
    · rw [if_neg (show ¬ (64 : Int32) ≤ nI i from nI_ge (b := 64) (by omega) (by decide)), nI_clamp (n := i) (by omega)]
      by_cases z : (nI i &&& ((1 : Int32) <<< (xc &&& 31))) = 0
      · rw [if_pos z]
        obtain ⟨g1, g2, g3⟩ := ih (i + 1) mm (by omega) (by omega)
        refine ⟨g1, g2, fun S hS => ?_⟩
        rw [g3 S hS]
        by_cases y : S = i
        · rw [y, if_neg (show ¬ (i + 1 ≤ i ∧ _) from fun e => by have := e.1; omega), if_neg (fun e => e.2 z)]
        · by_cases w : i + 1 ≤ S ∧ ¬ (nI S &&& ((1 : Int32) <<< (xc &&& 31))) = 0
          · rw [if_pos w, if_pos ⟨by omega, w.2⟩]
          · rw [if_neg w, if_neg (fun e => w ⟨by have := e.1; omega, e.2⟩)]
      · rw [if_neg z]
        obtain ⟨g1, g2, g3⟩ := ih (i + 1) (mHoursToCome mm, mRoom mm, upd (mSlack mm) i (mSlack mm i + xb)) (by omega) (by omega)
        refine ⟨g1, g2, fun S hS => ?_⟩
        rw [g3 S hS]
        show (if i + 1 ≤ S ∧ _ then upd (mSlack mm) i (mSlack mm i + xb) S + xb else upd (mSlack mm) i (mSlack mm i + xb) S) = _
        by_cases y : S = i
        · rw [y, if_neg (show ¬ (i + 1 ≤ i ∧ _) from fun e => by have := e.1; omega), if_pos ⟨Nat.le_refl _, z⟩, pk_us]
        · rw [pk_un y]
          by_cases w : i + 1 ≤ S ∧ ¬ (nI S &&& ((1 : Int32) <<< (xc &&& 31))) = 0
          · rw [if_pos w, if_pos ⟨by omega, w.2⟩]
          · rw [if_neg w, if_neg (fun e => w ⟨by have := e.1; omega, e.2⟩)]
theorem mi_room {k : KS} {r : Nat → Int} {R : Nat → Bool} {mm : MS} {c : Nat} {xb : Int32} (hc : c < 6) (hb : RB r) (hx : xb.toInt = 1 ∨ xb.toInt = -1) (hm : MI k r R mm) : MI k (addR r c xb.toInt) R (F_X3_changeRoom mm (nI c) xb) := by
  obtain ⟨h1, h2, h3⟩ := hm
  have z0 : (0 : Int32).toInt = 0 := rfl
  have z5 : (5 : Int32).toInt = 5 := rfl
  unfold F_X3_changeRoom
  rw [bnd_def, wi_yes (by rw [z0, z5, nI_toInt (by omega)]; omega), if_neg h10, bnd_def, nI_clamp (n := c) (by omega)]
  obtain ⟨g1, g2, g3⟩ := cr_n (nI c) xb (64 + 1) 0 (mHoursToCome mm, upd (mRoom mm) c (mRoom mm c + xb), mSlack mm) (by decide) (by decide)
  have br := hb c hc
  refine ⟨by rw [g1]; exact h1, fun i hi => ?_, fun S hS => ?_⟩
  · rw [g2]
    show (upd (mRoom mm) c (mRoom mm c + xb) i).toInt = addR r c xb.toInt i
    unfold addR
    by_cases z : i = c
    · rw [z, pk_us, if_pos rfl, add32 (by rw [h2 c hc]; omega) (by rw [h2 c hc]; omega), h2 c hc]
    · rw [pk_un z, if_neg z]
      exact h2 i hi
  · rw [g3 S hS, cutR_add r hc]
    have b1 := cutR_bd hb S
    have b2 := inH_bd R (ownB k) S
    have b4 := h3 S hS
    have bb : (nI S &&& ((1 : Int32) <<< (nI c &&& 31))) = 0 ↔ S.testBit c = false := by
      rw [bt_and0 (by omega), bt_nI (by omega)]
    by_cases w : S.testBit c = true
    · rw [if_pos ⟨Nat.zero_le _, fun e => by rw [bb.mp e] at w; exact absurd w (by decide)⟩, if_pos w]
      show (mSlack mm S + xb).toInt = _
      rw [add32 (by rw [b4]; omega) (by rw [b4]; omega), b4]
      omega
    · rw [if_neg (fun e => e.2 (bb.mpr (by simpa using w))), if_neg w]
      show (mSlack mm S).toInt = _
      rw [b4]
      omega
/-- the class's beginning -/
theorem b8_n (xd : Int32) : ∀ (n i : Nat) (mm : MS), i ≤ 6 → 6 < i + n → mHoursToCome (L_X3_begin_8 xd n i mm) = mHoursToCome mm ∧ mSlack (L_X3_begin_8 xd n i mm) = mSlack mm ∧ ∀ c, c < 6 → mRoom (L_X3_begin_8 xd n i mm) c = if i ≤ c then xd else mRoom mm c := by
  intro n
  induction n with
  | zero => intro i mm h1 h2; omega
  | succ n ih =>
    intro i mm h1 h2
    rw [L_X3_begin_8_s]
    by_cases q : i = 6
    · rw [if_pos (n_eq6 q)]
      exact ⟨rfl, rfl, fun c hc => by rw [if_neg (by omega)]⟩
    · rw [if_neg (n_ge6 (by omega)), nI_clamp (n := i) (by omega)]
      obtain ⟨g1, g2, g3⟩ := ih (i + 1) (mHoursToCome mm, upd (mRoom mm) i xd, mSlack mm) (by omega) (by omega)
      refine ⟨g1, g2, fun c hc => ?_⟩
      rw [g3 c hc]
      show (if i + 1 ≤ c then xd else upd (mRoom mm) i xd c) = _
      by_cases y : c = i
      · rw [y, if_neg (by omega), if_pos (Nat.le_refl _), pk_us]
      · rw [pk_un y]
        by_cases w : i + 1 ≤ c
        · rw [if_pos w, if_pos (by omega)]
        · rw [if_neg w, if_neg (by omega)]
theorem b32_n (xd : Int32) : ∀ (n i : Nat) (mm : MS), i ≤ 64 → 64 < i + n → mHoursToCome (L_X3_begin_32 xd n i mm) = mHoursToCome mm ∧ mRoom (L_X3_begin_32 xd n i mm) = mRoom mm ∧ ∀ S, S < 64 → mSlack (L_X3_begin_32 xd n i mm) S = if i ≤ S then xd * nI (pcN 31 S) else mSlack mm S := by
  intro n
  induction n with
  | zero => intro i mm h1 h2; omega
  | succ n ih =>
    intro i mm h1 h2
    rw [L_X3_begin_32_s]
    by_cases q : i = 64
    · rw [if_pos (show (64 : Int32) ≤ nI i by rw [q]; decide)]
      exact ⟨rfl, rfl, fun c hc => by rw [if_neg (by omega)]⟩
    · rw [if_neg (show ¬ (64 : Int32) ≤ nI i from nI_ge (b := 64) (by omega) (by decide)), bnd_def, bitCount_nI (by omega), nI_clamp (n := i) (by omega)]
      obtain ⟨g1, g2, g3⟩ := ih (i + 1) (mHoursToCome mm, mRoom mm, upd (mSlack mm) i (xd * nI (pcN 31 i))) (by omega) (by omega)
      refine ⟨g1, g2, fun c hc => ?_⟩
      rw [g3 c hc]
      show (if i + 1 ≤ c then xd * nI (pcN 31 c) else upd (mSlack mm) i (xd * nI (pcN 31 i)) c) = _
      by_cases y : c = i
      · rw [y, if_neg (by omega), if_pos (Nat.le_refl _), pk_us]
      · rw [pk_un y]
        by_cases w : i + 1 ≤ c
        · rw [if_pos w, if_pos (by omega)]
        · rw [if_neg w, if_neg (by omega)]
theorem pc_sum : ∀ S, S < 64 → sumI (rC (fun _ => 1) S) 6 = (pcN 31 S : Int) := by decide +kernel
theorem pc_6 : ∀ S, S < 64 → pcN 31 S ≤ 6 := by decide +kernel
theorem hasH {xs : Int32} {i : Nat} (hi : i < 24) : F_X5_hasHour xs (nI i) = if bt xs i = true then 1 else 0 := by
  have z0 : (0 : Int32).toInt = 0 := rfl
  have z23 : (23 : Int32).toInt = 23 := rfl
  unfold F_X5_hasHour
  rw [bnd_def, wi_yes (by rw [z0, z23, nI_toInt (by omega)]; omega), if_neg h10]
  by_cases w : bt xs i = true
  · rw [if_neg (fun e => by rw [(bt_and0 (by omega)).mp e] at w; exact absurd w (by decide)), if_pos w]
  · rw [if_pos ((bt_and0 (by omega)).mpr (by simpa using w)), if_neg w]
theorem b62_n {k : KS} {xs : Int32} {r : Nat → Int} (hb : RB r) : ∀ (n i : Nat) (mm : MS), i ≤ 24 → 24 < i + n → MI k r (fun h => decide (h < i) && bt xs h) mm → MI k r (fun h => bt xs h) (L_X3_begin_62 k xs n i mm) := by
  intro n
  induction n with
  | zero => intro i mm h1 h2; omega
  | succ n ih =>
    intro i mm h1 h2 hm
    rw [L_X3_begin_62_s]
    by_cases q : i = 24
    · rw [if_pos (n_eq24 q)]
      exact mi_cong hm (fun _ _ => rfl) (fun x hx => by show bt xs x = (decide (x < i) && bt xs x); rw [decide_eq_true (show x < i by omega), Bool.true_and])
    · rw [if_neg (n_ge24 (by omega)), bnd_def, hasH (by omega)]
      by_cases w : bt xs i = true
      · rw [if_pos w, if_neg h10, bnd_def, bnd_def]
        refine ih (i + 1) _ (by omega) (by omega) (mi_more (h := i) (by omega) hb ?_ ?_ ?_ hm)
        · show (decide (i < i + 1) && bt xs i) = true
          rw [decide_eq_true (Nat.lt_succ_self i), w]
          rfl
        · show (decide (i < i) && bt xs i) = false
          rw [decide_eq_false (Nat.lt_irrefl i)]
          rfl
        · intro x hx hn
          show (decide (x < i + 1) && bt xs x) = (decide (x < i) && bt xs x)
          by_cases y : x < i
          · rw [decide_eq_true y, decide_eq_true (show x < i + 1 by omega)]
          · rw [decide_eq_false y, decide_eq_false (show ¬ x < i + 1 by omega)]
      · rw [if_neg w, if_pos rfl]
        refine ih (i + 1) _ (by omega) (by omega) (mi_cong hm (fun _ _ => rfl) (fun x hx => ?_))
        show (decide (x < i + 1) && bt xs x) = (decide (x < i) && bt xs x)
        by_cases y : x = i
        · have w' : bt xs i = false := by simpa using w
          rw [y, w', Bool.and_false, Bool.and_false]
        · by_cases z : x < i
          · rw [decide_eq_true z, decide_eq_true (show x < i + 1 by omega)]
          · rw [decide_eq_false z, decide_eq_false (show ¬ x < i + 1 by omega)]
theorem begin_mi {mm : MS} {k : KS} {xs : Int32} {V : Nat} (hV : V ≤ 24) : MI k (fun _ => (V : Int)) (fun h => bt xs h) (F_X3_begin mm k xs (nI V)) := by
  unfold F_X3_begin
  rw [bnd_def, bnd_def, bnd_def]
  obtain ⟨a1, a2, a3⟩ := b8_n (nI V) (6 + 1) 0 ((0 : Int32), mRoom mm, mSlack mm) (by decide) (by decide)
  obtain ⟨g1, g2, g3⟩ := b32_n (nI V) (64 + 1) 0 (L_X3_begin_8 (nI V) (6 + 1) 0 ((0 : Int32), mRoom mm, mSlack mm)) (by decide) (by decide)
  have nz : ∀ h, (decide (h < 0) && bt xs h) = false := fun h => by
    rw [decide_eq_false (Nat.not_lt_zero h)]
    rfl
  refine b62_n (fun c hc => ⟨by omega, by omega⟩) (24 + 1) 0 _ (by decide) (by decide) ⟨?_, fun c hc => ?_, fun S hS => ?_⟩
  · rw [g1, a1]
    have e0 : cntH (fun h => decide (h < 0) && bt xs h) = sumI (fun _ => 0) 24 := sumI_congr 24 (fun h _ => by
      show nH (fun h => decide (h < 0) && bt xs h) h = 0
      unfold nH
      exact if_neg (fun e => by rw [show (fun h => decide (h < 0) && bt xs h) h = false from nz h] at e; exact absurd e (by decide)))
    rw [e0]
    rfl
  · rw [g2, a3 c hc, if_pos (Nat.zero_le _), nI_toInt (by omega)]
  · have hp := pc_6 S hS
    have hm : V * pcN 31 S ≤ 24 * 6 := Nat.mul_le_mul hV hp
    rw [g3 S hS, if_pos (Nat.zero_le _), pk_mul, nI_toInt (by omega)]
    have e1 : cutR (fun _ => (V : Int)) S = (V : Int) * (pcN 31 S : Int) := by
      rw [← pc_sum S hS, ← sumI_mul]
      refine sumI_congr 6 (fun c _ => ?_)
      show rC (fun _ => (V : Int)) S c = (V : Int) * rC (fun _ => 1) S c
      unfold rC
      split
      · exact (Int.mul_one _).symm
      · exact (Int.mul_zero _).symm
    have e2 : inH (fun h => decide (h < 0) && bt xs h) (ownB k) S = 0 := by
      have e3 : inH (fun h => decide (h < 0) && bt xs h) (ownB k) S = sumI (fun _ => 0) 24 := sumI_congr 24 (fun h _ => by
        show iH (fun h => decide (h < 0) && bt xs h) (ownB k) S h = 0
        unfold iH
        exact if_neg (fun e => by rw [show (fun h => decide (h < 0) && bt xs h) h = false from nz h] at e; exact absurd e (by decide)))
      rw [e3]
      rfl
    rw [e1, e2, Int.natCast_mul, Int.sub_zero]
