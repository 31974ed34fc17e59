/-! one courtier's row at a time -/
theorem cr_one {k k' : KS} {lv lv' : LV} {c : Nat} (hC : CR k lv) (hc : c < 6) (hb : bt (kPresent k) c = true) (k1 : kPresent k' = kPresent k) (k2 : kClock k' = kClock k) (k3 : kTears k' = kTears k) (v1 : vCourtiers lv' = vCourtiers lv) (v2 : vClock lv' = vClock lv) (v3 : vTears lv' = vTears lv) (ko : ∀ x, x < 6 → x ≠ c → kPairs k' x = kPairs k x ∧ kLeft k' x = kLeft k x ∧ kRight k' x = kRight k x ∧ kScandals k' x = kScandals k x ∧ ∀ h, h < 24 → kWears k' (24 * x + h) = kWears k (24 * x + h)) (vo : ∀ x, x < 6 → x ≠ c → vLeft lv' x = vLeft lv x ∧ vRight lv' x = vRight lv x ∧ vScandals lv' x = vScandals lv x ∧ ∀ h, h < 24 → vWearOf lv' (24 * x + h) = vWearOf lv (24 * x + h)) (hp : PC k' lv' c) (hpp : vp_in (kPairs k' c) 16777216) : CR k' lv' := by
  obtain ⟨⟨a1, a2⟩, a3, a4, a5, a6, a7, a8⟩ := hC
  refine ⟨⟨by rw [v1, k1, a1], by rw [k1]; exact a2⟩, by rw [v2, k2]; exact a3, by rw [v3, k3]; exact a4, fun x hx q => ?_, fun x hx q => ?_, fun x hx => ?_, fun j hj => ?_⟩
  · by_cases e : x = c
    · rw [e]
      exact hp
    · rw [k1] at q
      obtain ⟨y1, y2, y3, y4, y5⟩ := ko x hx e
      obtain ⟨z1, z2, z3, z4⟩ := vo x hx e
      exact pc_cong (a5 x hx q) y1 y2 y3 y4 y5 z1 z2 z3 z4
  · rw [k1] at q
    by_cases e : x = c
    · rw [e, hb] at q
      exact absurd q (by decide)
    · rw [(ko x hx e).1]
      exact a6 x hx q
  · by_cases e : x = c
    · rw [e]
      exact hpp
    · rw [(ko x hx e).1]
      exact a7 x hx
  · by_cases e : j = c
    · rw [e, hp.1.2.1]
      have := vp_in_iff.mp hp.2.1.2.1
      omega
    · rw [(vo j hj e).2.1]
      exact a8 j hj
theorem there_yes {k : KS} {c : Nat} (hc : c < 6) (h : ¬ F_X1_isThere k (nI c) = 0) : bt (kPresent k) c = true := by
  rw [there_nI hc] at h
  by_cases q : bt (kPresent k) c = true
  · exact q
  · rw [if_neg q] at h
    exact absurd rfl h
theorem own_yes {k : KS} {c x : Nat} (hc : c < 6) (hx : x < 24) (h : ¬ F_X1_owns k (nI c) (nI x) = 0) : bt (kPairs k c) x = true := by
  rw [own_nI hc hx] at h
  by_cases q : bt (kPairs k c) x = true
  · exact q
  · rw [if_neg q] at h
    exact absurd rfl h
theorem own_there {k : KS} {lv : LV} (hC : CR k lv) {c x : Nat} (hc : c < 6) (h : bt (kPairs k c) x = true) : bt (kPresent k) c = true := by
  by_cases q : bt (kPresent k) c = true
  · exact q
  · rw [cr_no hC hc (by simpa using q), b_0] at h
    exact absurd h (by decide)
/-- a pair gone: both sides -/
theorem cr_lose {k k' : KS} {lv lv' : LV} {c x : Nat} (hC : CR k lv) (hc : c < 6) (hx : x < 24) (hb : bt (kPresent k) c = true) (k1 : kPresent k' = kPresent k) (k2 : kClock k' = kClock k) (k3 : kTears k' = kTears k) (v1 : vCourtiers lv' = vCourtiers lv) (v2 : vClock lv' = vClock lv) (v3 : vTears lv' = vTears lv)
    (p1 : kPairs k' = upd (kPairs k) c (kPairs k c &&& (((1 : Int32) <<< (nI x &&& 31)) ^^^ (-1 : Int32)))) (p2 : kLeft k' = upd (kLeft k) c (if kLeft k c = nI x then 24 else kLeft k c)) (p3 : kRight k' = upd (kRight k) c (if kRight k c = nI x then 24 else kRight k c)) (p4 : kScandals k' = kScandals k) (p5 : ∀ j, j ≠ 24 * c + x → kWears k' j = kWears k j)
    (q2 : vLeft lv' = upd (vLeft lv) c (if vLeft lv c = nI x then 24 else vLeft lv c)) (q3 : vRight lv' = upd (vRight lv) c (if vRight lv c = nI x then 24 else vRight lv c)) (q4 : vScandals lv' = vScandals lv) (q5 : vWearOf lv' (24 * c + x) = -6) (q6 : ∀ j, j ≠ 24 * c + x → vWearOf lv' j = vWearOf lv j) : CR k' lv' := by
  obtain ⟨⟨b1, b2, b3⟩, ⟨b4, b5, b6⟩, b7, b8⟩ := cr_pc hC hc hb
  have h24 : vp_in (24 : Int32) 25 := vp_in_nI (n := 24) (by decide) (by decide)
  refine cr_one hC hc hb k1 k2 k3 v1 v2 v3 (fun y hy e => ⟨by rw [p1, pk_un e], by rw [p2, pk_un e], by rw [p3, pk_un e], by rw [p4], fun h hh => p5 _ (by omega)⟩) (fun y hy e => ⟨by rw [q2, pk_un e], by rw [q3, pk_un e], by rw [q4], fun h hh => q6 _ (by omega)⟩) ⟨⟨by rw [q2, p2, pk_us, pk_us, b1], by rw [q3, p3, pk_us, pk_us, b2], by rw [q4, p4, b3]⟩, ⟨?_, ?_, by rw [p4]; exact b6⟩, ?_, fun h hh => ?_⟩ ?_
  · rw [p2, pk_us]
    split
    · exact h24
    · exact b4
  · rw [p3, pk_us]
    split
    · exact h24
    · exact b5
  · rw [p1, p3, pk_us, pk_us]
    intro n24
    by_cases e : kRight k c = nI x
    · rw [if_pos e] at n24
      exact absurd rfl n24
    · rw [if_neg e] at n24 ⊢
      have h1 := b7 n24
      obtain ⟨r, hr, er⟩ := vp_in_of b5 (by decide)
      rw [er, nI_clamp (by omega)] at h1 ⊢
      rw [leave_bits (by omega) (by omega), h1, decide_eq_false (fun q => e (by rw [er, q]))]
      rfl
  · rw [p1, pk_us, leave_bits (by omega) (by omega)]
    by_cases e : h = x
    · rw [e, decide_eq_true (show x = x from rfl), Bool.not_true, Bool.and_false]
      exact ⟨fun q => absurd q (by decide), fun _ => q5⟩
    · rw [decide_eq_false (fun q => e q.symm), Bool.not_false, Bool.and_true, p5 _ (by omega), q6 _ (by omega)]
      exact b8 h hh
  · rw [p1, pk_us]
    exact and_24 (hC.2.2.2.2.2.1 c hc)
theorem lose1 (k : KS) {c : Nat} (hc : c < 6) (x : Int32) : F_X1_losePair k (nI c) x = (kPresent k, kClock k, kTears k, kSights k, kHoursSeen k, kHoursNotOwned k, upd (kPairs k) c (kPairs k c &&& (((1 : Int32) <<< (x &&& 31)) ^^^ (-1 : Int32))), upd (kLeft k) c (if kLeft k c = x then 24 else kLeft k c), upd (kRight k) c (if kRight k c = x then 24 else kRight k c), kScandals k, kWears k) := by
  unfold F_X1_losePair
  rw [if_neg (n_lt0 (by omega)), if_pos (show nI c < (6 : Int32) from nI_lt (b := 6) hc (by decide)), nI_clamp (by omega)]
  by_cases e1 : kLeft k c = x
  · rw [if_pos e1, if_pos e1]
    by_cases e2 : kRight k c = x
    · rw [if_pos e2, if_pos e2]
    · rw [if_neg e2, if_neg e2, upd_id]
  · rw [if_neg e1, if_neg e1]
    by_cases e2 : kRight k c = x
    · rw [if_pos e2, if_pos e2, upd_id]
    · rw [if_neg e2, if_neg e2, upd_id, upd_id]
theorem lose6 (lv : LV) {c x : Nat} (hc : c < 6) (hx : x < 24) : F_X6_lose lv (nI c) (nI x) = (vCourtiers lv, vClock lv, vTears lv, upd (vLeft lv) c (if vLeft lv c = nI x then 24 else vLeft lv c), upd (vRight lv) c (if vRight lv c = nI x then 24 else vRight lv c), vScandals lv, upd (vWearOf lv) (24 * c + x) (-6)) := by
  unfold F_X6_lose
  rw [bnd_def, at_nI, nI_clamp (n := 24 * c + x) (by omega), nI_clamp (n := c) (by omega)]
  by_cases e1 : vLeft lv c = nI x
  · rw [if_pos e1, if_pos e1]
    by_cases e2 : vRight lv c = nI x
    · rw [if_pos e2, if_pos e2]
    · rw [if_neg e2, if_neg e2]
  · rw [if_neg e1, if_neg e1]
    by_cases e2 : vRight lv c = nI x
    · rw [if_pos e2, if_pos e2]
    · rw [if_neg e2, if_neg e2]
/-- what a deed does to gloves, and to the count -/
def ddL (lv : LV) (c : Nat) : LV := if vWearOf lv (24 * c + (vRight lv c).toNatClampNeg) + 1 < vTears lv then (vCourtiers lv, vClock lv, vTears lv, vLeft lv, vRight lv, vScandals lv, upd (vWearOf lv) (24 * c + (vRight lv c).toNatClampNeg) (vWearOf lv (24 * c + (vRight lv c).toNatClampNeg) + 1)) else F_X6_lose (vCourtiers lv, vClock lv, vTears lv, vLeft lv, vRight lv, vScandals lv, upd (vWearOf lv) (24 * c + (vRight lv c).toNatClampNeg) (vWearOf lv (24 * c + (vRight lv c).toNatClampNeg) + 1)) (nI c) (vRight lv c)
def ddD (lv : LV) (dd : DD) (c : Nat) : DD := (eDeeds dd + 1, if 0 ≤ eFirstLate dd then eFirstLate dd else if vRight lv c = vClock lv then eFirstLate dd else eDeeds dd, eLateMany dd + (if vRight lv c = vClock lv then 0 else 1), upd (eDeedHour dd) (eDeeds dd - eDeeds dd / 60 * 60).toNatClampNeg (vRight lv c), upd (eDeedClock dd) (eDeeds dd - eDeeds dd / 60 * 60).toNatClampNeg (vClock lv), upd (eDeedWho dd) (eDeeds dd - eDeeds dd / 60 * 60).toNatClampNeg (nI c))
theorem ddEq (lv : LV) (dd : DD) {c : Nat} (hc : c < 6) (hr : vp_in (vRight lv c) 24) : F_X6_doDeed lv dd (nI c) = (ddL lv c, ddD lv dd c) := by
  obtain ⟨x, hx, ex⟩ := vp_in_of hr (by decide)
  unfold F_X6_doDeed ddL ddD
  simp only [bnd_def]
  have ea : (F_X6_at (nI c) (vRight lv c)).toNatClampNeg = 24 * c + (vRight lv c).toNatClampNeg := by
    rw [ex, at_nI, nI_clamp (by omega), nI_clamp (by omega)]
  rw [nI_clamp (n := c) (by omega), ea, pk_us]
  by_cases f : 0 ≤ eFirstLate dd
  · rw [if_pos f, if_pos f]
    by_cases l : vRight lv c = vClock lv
    · rw [if_pos l, if_pos l]
      by_cases t : vWearOf lv (24 * c + (vRight lv c).toNatClampNeg) + 1 < vTears lv
      · rw [if_pos t, if_pos t]
      · rw [if_neg t, if_neg t]
    · rw [if_neg l, if_neg l]
      by_cases t : vWearOf lv (24 * c + (vRight lv c).toNatClampNeg) + 1 < vTears lv
      · rw [if_pos t, if_pos t]
      · rw [if_neg t, if_neg t]
  · rw [if_neg f, if_neg f]
    by_cases l : vRight lv c = vClock lv
    · rw [if_pos l, if_pos l, if_pos l, if_pos l]
      by_cases t : vWearOf lv (24 * c + (vRight lv c).toNatClampNeg) + 1 < vTears lv
      · rw [if_pos t, if_pos t]
      · rw [if_neg t, if_neg t]
    · rw [if_neg l, if_neg l, if_neg l, if_neg l]
      by_cases t : vWearOf lv (24 * c + (vRight lv c).toNatClampNeg) + 1 < vTears lv
      · rw [if_pos t, if_pos t]
      · rw [if_neg t, if_neg t]
theorem cr_use {k : KS} {lv : LV} {c x : Nat} (hC : CR k lv) (hc : c < 6) (hx : x < 24) (hb : bt (kPresent k) c = true) (hr : kRight k c = nI x) : CR (F_X1_usePair k (nI c) (nI x)) (ddL lv c) := by
  have hP := cr_pc hC hc hb
  obtain ⟨⟨b1, b2, b3⟩, ⟨b4, b5, b6⟩, b7, b8⟩ := hP
  have hbx : bt (kPairs k c) x = true := by
    have h := b7 (by rw [hr]; exact fun e => absurd ((nI_eq (b := 24) (by omega) (by decide)).mp e) (by omega))
    rw [hr, nI_clamp (by omega)] at h
    exact h
  obtain ⟨w1, w2⟩ := (b8 x hx).1 hbx
  have er : (vRight lv c).toNatClampNeg = x := by rw [b2, hr, nI_clamp (by omega)]
  have ei : (nI c * (24 : Int32) + nI x).toNatClampNeg = 24 * c + x := by
    rw [show (24 : Int32) = nI 24 from rfl, pk_mul, nI_add, nI_clamp (by omega)]
    omega
  unfold F_X1_usePair ddL
  rw [bnd_def, own_nI hc hx, if_pos hbx, if_neg h10, ei, er, w1, hC.2.2.1.1]
  by_cases t : kWears k (24 * c + x) + 1 < kTears k
  · rw [if_pos t, if_pos t]
    refine cr_one hC hc hb rfl rfl rfl rfl rfl hC.2.2.1.1.symm (fun y hy e => ⟨rfl, rfl, rfl, rfl, fun h hh => pk_un (by omega)⟩) (fun y hy e => ⟨rfl, rfl, rfl, fun h hh => pk_un (by omega)⟩) ⟨⟨b1, b2, b3⟩, ⟨b4, b5, b6⟩, b7, fun h hh => ?_⟩ (hC.2.2.2.2.2.1 c hc)
    by_cases e : h = x
    · subst e
      refine ⟨fun _ => ?_, fun q => ?_⟩
      · show upd (vWearOf lv) (24 * c + h) _ (24 * c + h) = upd (kWears k) (24 * c + h) _ (24 * c + h) ∧ vp_in (upd (kWears k) (24 * c + h) _ (24 * c + h)) 20
        rw [pk_us, pk_us]
        refine ⟨rfl, ?_⟩
        have ht := hC.2.2.1.2
        have h0 := vp_in_iff.mp w2
        rw [Int32.lt_iff_toInt_lt] at t
        rw [i_add1 (by omega) (by omega)] at t
        rw [vp_in_iff, i_add1 (by omega) (by omega)]
        omega
      · have q' : bt (kPairs k c) h = false := q
        rw [q'] at hbx
        exact absurd hbx (by decide)
    · show (_ → upd (vWearOf lv) (24 * c + x) _ (24 * c + h) = upd (kWears k) (24 * c + x) _ (24 * c + h) ∧ vp_in (upd (kWears k) (24 * c + x) _ (24 * c + h)) 20) ∧ (_ → upd (vWearOf lv) (24 * c + x) _ (24 * c + h) = -6)
      rw [pk_un (by omega), pk_un (by omega)]
      exact b8 h hh
  · rw [if_neg t, if_neg t, bnd_def, b2, hr, lose1 _ hc, lose6 _ hc hx]
    refine cr_lose (x := x) hC hc hx hb rfl rfl rfl rfl rfl hC.2.2.1.1.symm rfl rfl rfl rfl (fun j hj => pk_un hj) rfl rfl rfl pk_us (fun j hj => ?_)
    show upd (upd (vWearOf lv) (24 * c + x) _) (24 * c + x) _ j = _
    rw [pk_un hj, pk_un hj]
