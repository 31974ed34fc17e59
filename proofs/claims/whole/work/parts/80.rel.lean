/-! THE RELATION of the class and the reference -/

def PC (k : KS) (lv : LV) (c : Nat) : Prop := (vLeft lv c = kLeft k c ∧ vRight lv c = kRight k c ∧ vScandals lv c = kScandals k c) ∧ (vp_in (kLeft k c) 25 ∧ vp_in (kRight k c) 25 ∧ vp_in (kScandals k c) 100) ∧ (¬ kRight k c = 24 → bt (kPairs k c) (kRight k c).toNatClampNeg = true) ∧ ∀ h, h < 24 → (bt (kPairs k c) h = true → vWearOf lv (24 * c + h) = kWears k (24 * c + h) ∧ vp_in (kWears k (24 * c + h)) 20) ∧ (bt (kPairs k c) h = false → vWearOf lv (24 * c + h) = -6)
def CR (k : KS) (lv : LV) : Prop := (vCourtiers lv = kPresent k ∧ vp_in (kPresent k) 64) ∧ (vClock lv = kClock k ∧ vp_in (kClock k) 24) ∧ (vTears lv = kTears k ∧ 1 ≤ (kTears k).toInt ∧ (kTears k).toInt ≤ 20) ∧ (∀ c, c < 6 → bt (kPresent k) c = true → PC k lv c) ∧ (∀ c, c < 6 → bt (kPresent k) c = false → kPairs k c = 0) ∧ (∀ c, c < 6 → vp_in (kPairs k c) 16777216) ∧ rOK lv
def SR (k : KS) (sg : SG) : Prop := kSights k = sSights sg ∧ vp_in (sSights sg) 9 ∧ (∀ j, j < (sSights sg).toNatClampNeg → vp_in (sSightHour sg j) 24 ∧ (sSightOwned sg j = 0 ∨ sSightOwned sg j = 1)) ∧ ∀ h, h < 32 → (bt (kHoursSeen k) h = true ↔ ∃ j, j < (sSights sg).toNatClampNeg ∧ sSightHour sg j = nI h ∧ sSightOwned sg j = 1) ∧ (bt (kHoursNotOwned k) h = true ↔ ∃ j, j < (sSights sg).toNatClampNeg ∧ sSightHour sg j = nI h ∧ sSightOwned sg j = 0)
def PR (pp : PS) (pd : PD) : Prop := pLength pp = qPadMany pd ∧ vp_in (qPadMany pd) 61 ∧ ∀ j, j < (qPadMany pd).toNatClampNeg → pSigns pp j = qPad pd j
def lvAt (f : Nat → Int32) (b : Nat) : LV := (f b, f (b + 1), f (b + 2), fun j => f (b + 4 + 3 * j), fun j => f (b + 5 + 3 * j), fun j => f (b + 6 + 3 * j), fun j => f (b + 22 + j))
def sgAt (f : Nat → Int32) (b : Nat) : SG := (f (b + 3), fun j => f (b + 166 + 2 * j), fun j => f (b + 167 + 2 * j))
def IM (b : Int32) (kX : KS) (kp : KP) (i : Nat) : Prop := (b = 0 ∧ iIsKept kp i = 0) ∨ (b = 1 ∧ iIsKept kp i = 1 ∧ CR kX (lvAt (iKept kp) (190 * i)) ∧ SR kX (sgAt (iKept kp) (190 * i)))
def REL (gg : GS) (k kE kF : KS) (pp : PS) (lv : LV) (sg : SG) (pd : PD) (kp : KP) : Prop := CR k lv ∧ SR k sg ∧ PR pp pd ∧ IM (gFirstKept gg) kE kp 0 ∧ IM (gSecondKept gg) kF kp 1
section RL
variable {gg : GS} {k kE kF : KS} {pp : PS} {lv : LV} {sg : SG} {pd : PD} {kp : KP}
theorem rel_hq (h : REL gg k kE kF pp lv sg pd kp) : vp_in (qPadMany pd) 61 := h.2.2.1.2.1
theorem rel_hrk (h : REL gg k kE kF pp lv sg pd kp) : rOK lv := h.1.2.2.2.2.2.2
theorem rel_hs (h : REL gg k kE kF pp lv sg pd kp) : vp_in (sSights sg) 9 := h.2.1.2.1
theorem rel_hso (h : REL gg k kE kF pp lv sg pd kp) : ∀ j, j < (sSights sg).toNatClampNeg → vp_in (sSightHour sg j) 24 := fun j hj => (h.2.1.2.2.1 j hj).1
end RL
theorem bt_00 (i : Nat) : bt 0 i = false := by
  unfold bt
  show (0#32).getLsbD i = false
  exact BitVec.getLsbD_zero
theorem in_0 {n : Nat} (h : 0 < n) : vp_in 0 n := by
  rw [vp_in_iff]
  have e : (0 : Int32).toInt = 0 := rfl
  omega
theorem rel_0 : REL zGS zKS zKS zKS zPS zLV zSG zPD zKP := by
  refine ⟨⟨⟨rfl, in_0 (by decide)⟩, ⟨rfl, in_0 (by decide)⟩, ⟨rfl, by decide, by decide⟩, fun c hc h => ?_, fun c hc h => rfl, fun c hc => in_0 (by decide), fun j hj => ⟨show (0 : Int) ≤ (0 : Int32).toInt by decide, show (0 : Int32).toInt ≤ 24 by decide⟩⟩, ⟨rfl, in_0 (by decide), fun j hj => absurd hj (Nat.not_lt_zero j), fun h hh => ⟨?_, ?_⟩⟩, ⟨rfl, in_0 (by decide), fun j hj => absurd hj (Nat.not_lt_zero j)⟩, Or.inl ⟨rfl, rfl⟩, Or.inl ⟨rfl, rfl⟩⟩
  · have e : bt (kPresent zKS) c = false := bt_00 c
    rw [e] at h
    exact absurd h (by decide)
  · have e : bt (kHoursSeen zKS) h = false := bt_00 h
    rw [e]
    exact ⟨fun q => absurd q (by decide), fun ⟨j, hj, _⟩ => absurd hj (Nat.not_lt_zero j)⟩
  · have e : bt (kHoursNotOwned zKS) h = false := bt_00 h
    rw [e]
    exact ⟨fun q => absurd q (by decide), fun ⟨j, hj, _⟩ => absurd hj (Nat.not_lt_zero j)⟩
