/-! courtiers come and go; the glass -/
theorem pc_cong {k k' : KS} {lv lv' : LV} {c : Nat} (h : PC k lv c) (h1 : kPairs k' c = kPairs k c) (h2 : kLeft k' c = kLeft k c) (h3 : kRight k' c = kRight k c) (h4 : kScandals k' c = kScandals k c) (h5 : ∀ x, x < 24 → kWears k' (24 * c + x) = kWears k (24 * c + x)) (g2 : vLeft lv' c = vLeft lv c) (g3 : vRight lv' c = vRight lv c) (g4 : vScandals lv' c = vScandals lv c) (g5 : ∀ x, x < 24 → vWearOf lv' (24 * c + x) = vWearOf lv (24 * c + x)) : PC k' lv' c := by
  obtain ⟨⟨a1, a2, a3⟩, ⟨b1, b2, b3⟩, c1, d1⟩ := h
  refine ⟨⟨by rw [g2, h2, a1], by rw [g3, h3, a2], by rw [g4, h4, a3]⟩, ⟨by rw [h2]; exact b1, by rw [h3]; exact b2, by rw [h4]; exact b3⟩, by rw [h1, h3]; exact c1, fun x hx => ?_⟩
  rw [h1, h5 x hx, g5 x hx]
  exact d1 x hx
theorem leave_bits {p : Int32} {c : Nat} (hc : c < 32) {j : Nat} (hj : j < 32) : bt (p &&& (((1 : Int32) <<< (nI c &&& 31)) ^^^ (-1 : Int32))) j = (bt p j && !decide (c = j)) := by
  rw [b_and, bt_not _ hj, bt_one hc hj]
theorem come_bits {p : Int32} {c : Nat} (hc : c < 32) {j : Nat} (hj : j < 32) : bt (p ||| ((1 : Int32) <<< (nI c &&& 31))) j = (bt p j || decide (c = j)) := by
  rw [b_or, bt_one hc hj]
theorem cr_leave {k k' : KS} {lv lv' : LV} {c : Nat} (hC : CR k lv) (hc : c < 6) (k1 : kPresent k' = kPresent k &&& (((1 : Int32) <<< (nI c &&& 31)) ^^^ (-1 : Int32))) (k2 : kClock k' = kClock k) (k3 : kTears k' = kTears k) (k4 : kPairs k' = upd (kPairs k) c 0) (k5 : kLeft k' = kLeft k) (k6 : kRight k' = kRight k) (k7 : kScandals k' = kScandals k) (k8 : kWears k' = kWears k) (v1 : vCourtiers lv' = vCourtiers lv &&& (((1 : Int32) <<< (nI c &&& 31)) ^^^ (-1 : Int32))) (v2 : vClock lv' = vClock lv) (v3 : vTears lv' = vTears lv) (v5 : vLeft lv' = vLeft lv) (v6 : vRight lv' = vRight lv) (v7 : vScandals lv' = vScandals lv) (v8 : vWearOf lv' = vWearOf lv) : CR k' lv' := by
  obtain ⟨⟨a1, a2⟩, a3, a4, a5, a6, a7, a8⟩ := hC
  refine ⟨⟨by rw [v1, k1, a1], ?_⟩, by rw [v2, k2]; exact a3, by rw [v3, k3]; exact a4, fun x hx hb => ?_, fun x hx hb => ?_, fun x hx => ?_, ?_⟩
  · rw [k1]
    refine bt_in (k := 6) (by decide) (fun i h6 hi => ?_)
    rw [b_and, bt_small (k := 6) a2 (by decide) h6]
    rfl
  · rw [k1, leave_bits (by omega) (by omega), Bool.and_eq_true] at hb
    have hx2 : x ≠ c := fun e => by
      have := hb.2
      rw [e, decide_eq_true (show c = c from rfl)] at this
      exact absurd this (by decide)
    refine pc_cong (a5 x hx hb.1) (by rw [k4]; exact pk_un hx2) (by rw [k5]) (by rw [k6]) (by rw [k7]) (fun y _ => by rw [k8]) (by rw [v5]) (by rw [v6]) (by rw [v7]) (fun y _ => by rw [v8])
  · rw [k4]
    by_cases e : x = c
    · rw [e]
      exact pk_us
    · rw [k1, leave_bits (by omega) (by omega), decide_eq_false (fun q => e q.symm), Bool.not_false, Bool.and_true] at hb
      rw [pk_un e]
      exact a6 x hx hb
  · rw [k4]
    by_cases e : x = c
    · rw [e, pk_us]
      exact in_0 (by decide)
    · rw [pk_un e]
      exact a7 x hx
  · intro j hj
    rw [v6]
    exact a8 j hj
theorem cr_arrive {k k' : KS} {lv lv' : LV} {c : Nat} {p : Int32} (hC : CR k lv) (hc : c < 6) (hp : vp_in p 16777216) (k1 : kPresent k' = kPresent k ||| ((1 : Int32) <<< (nI c &&& 31))) (k2 : kClock k' = kClock k) (k3 : kTears k' = kTears k) (k4 : kPairs k' = upd (kPairs k) c p) (k5 : kLeft k' = upd (kLeft k) c 24) (k6 : kRight k' = upd (kRight k) c 24) (k7 : kScandals k' = upd (kScandals k) c 0) (k8 : ∀ h, 0 ≤ h → h < 24 → kWears k' (24 * c + h) = 0) (k9 : ∀ j, ¬ (24 * c + 0 ≤ j ∧ j < 24 * c + 24) → kWears k' j = kWears k j) (v1 : vCourtiers lv' = vCourtiers lv ||| ((1 : Int32) <<< (nI c &&& 31))) (v2 : vClock lv' = vClock lv) (v3 : vTears lv' = vTears lv) (v5 : vLeft lv' = upd (vLeft lv) c 24) (v6 : vRight lv' = upd (vRight lv) c 24) (v7 : vScandals lv' = upd (vScandals lv) c 0) (v8 : ∀ h, 0 ≤ h → h < 24 → vWearOf lv' (24 * c + h) = if bt p h = true then 0 else -6) (v9 : ∀ j, ¬ (24 * c + 0 ≤ j ∧ j < 24 * c + 24) → vWearOf lv' j = vWearOf lv j) : CR k' lv' := by
  obtain ⟨⟨a1, a2⟩, a3, a4, a5, a6, a7, a8⟩ := hC
  refine ⟨⟨by rw [v1, k1, a1], ?_⟩, by rw [v2, k2]; exact a3, by rw [v3, k3]; exact a4, fun x hx hb => ?_, fun x hx hb => ?_, fun x hx => ?_, ?_⟩
  · rw [k1]
    refine bt_in (k := 6) (by decide) (fun i h6 hi => ?_)
    rw [come_bits (by omega) hi, bt_small (k := 6) a2 (by decide) h6, decide_eq_false (by omega)]
    rfl
  · by_cases e : x = c
    · subst e
      have h24 : kRight k' x = 24 := by rw [k6]; exact pk_us
      refine ⟨⟨by rw [v5, k5, pk_us, pk_us], by rw [v6, k6, pk_us, pk_us], by rw [v7, k7, pk_us, pk_us]⟩, ⟨by rw [k5, pk_us]; exact vp_in_nI (n := 24) (by decide) (by decide), by rw [h24]; exact vp_in_nI (n := 24) (by decide) (by decide), by rw [k7, pk_us]; exact in_0 (by decide)⟩, fun q => absurd h24 q, fun h hh => ?_⟩
      rw [k4, pk_us, k8 h (Nat.zero_le _) hh, v8 h (Nat.zero_le _) hh]
      refine ⟨fun b => ⟨by rw [if_pos b], in_0 (by decide)⟩, fun b => by rw [if_neg (by rw [b]; decide)]⟩
    · rw [k1, come_bits (by omega) (by omega), decide_eq_false (fun q => e q.symm), Bool.or_false] at hb
      refine pc_cong (a5 x hx hb) (by rw [k4]; exact pk_un e) (by rw [k5]; exact pk_un e) (by rw [k6]; exact pk_un e) (by rw [k7]; exact pk_un e) (fun y _ => k9 _ (by omega)) (by rw [v5]; exact pk_un e) (by rw [v6]; exact pk_un e) (by rw [v7]; exact pk_un e) (fun y _ => v9 _ (by omega))
  · rw [k1, come_bits (by omega) (by omega), Bool.or_eq_false_iff] at hb
    have e : x ≠ c := fun q => by
      have h2 := hb.2
      rw [decide_eq_true q.symm] at h2
      exact absurd h2 (by decide)
    rw [k4, pk_un e]
    exact a6 x hx hb.1
  · rw [k4]
    by_cases e : x = c
    · rw [e, pk_us]
      exact hp
    · rw [pk_un e]
      exact a7 x hx
  · intro j hj
    rw [v6]
    by_cases e : j = c
    · rw [e, pk_us]
      exact ⟨by decide, by decide⟩
    · rw [pk_un e]
      exact a8 j hj
theorem arr_n {c : Nat} (hc : c < 6) : ∀ (n i : Nat) (k : KS), i ≤ 24 → 24 < i + n → ∃ W, L_X1_arrive_54 (nI c) n i k = (kPresent k, kClock k, kTears k, kSights k, kHoursSeen k, kHoursNotOwned k, kPairs k, kLeft k, kRight k, kScandals k, W) ∧ (∀ h, i ≤ h → h < 24 → W (24 * c + h) = 0) ∧ ∀ j, ¬ (24 * c + i ≤ j ∧ j < 24 * c + 24) → W j = kWears k j := by
  intro n
  induction n with
  | zero => intro i k h1 h2; omega
  | succ n ih =>
    intro i k h1 h2
    rw [L_X1_arrive_54_s]
    by_cases q : i = 24
    · rw [if_pos (n_eq24 q)]
      exact ⟨kWears k, rfl, fun h h3 h4 => by omega, fun j _ => rfl⟩
    · rw [if_neg (n_ge24 (by omega))]
      have ei : ((nI c * (24 : Int32)) + nI i).toNatClampNeg = 24 * c + i := by
        rw [show (24 : Int32) = nI 24 from rfl, pk_mul, nI_add, nI_clamp (by omega)]
        omega
      obtain ⟨W, g1, g2, g3⟩ := ih (i + 1) (kPresent k, kClock k, kTears k, kSights k, kHoursSeen k, kHoursNotOwned k, kPairs k, kLeft k, kRight k, kScandals k, upd (kWears k) (24 * c + i) 0) (by omega) (by omega)
      rw [ei]
      refine ⟨W, g1, fun h h3 h4 => ?_, fun j hj => ?_⟩
      · by_cases e : h = i
        · subst e
          rw [g3 _ (by omega)]
          exact pk_us
        · exact g2 h (by omega) h4
      · rw [g3 j (by omega)]
        exact pk_un (by omega)
theorem cou_n {c : Nat} (hc : c < 6) {p : Int32} : ∀ (n i : Nat) (lv : LV), i ≤ 24 → 24 < i + n → ∃ W, L_X6_courtier_66 (nI c) p n i lv = (vCourtiers lv, vClock lv, vTears lv, vLeft lv, vRight lv, vScandals lv, W) ∧ (∀ h, i ≤ h → h < 24 → W (24 * c + h) = if bt p h = true then 0 else -6) ∧ ∀ j, ¬ (24 * c + i ≤ j ∧ j < 24 * c + 24) → W j = vWearOf lv j := by
  intro n
  induction n with
  | zero => intro i k h1 h2; omega
  | succ n ih =>
    intro i lv h1 h2
    rw [L_X6_courtier_66_s]
    by_cases q : i = 24
    · rw [if_pos (n_eq24 q)]
      exact ⟨vWearOf lv, rfl, fun h h3 h4 => by omega, fun j _ => rfl⟩
    · rw [if_neg (n_ge24 (by omega)), bnd_def, at_nI, nI_clamp (by omega)]
      by_cases b : bt p i = true
      · rw [if_pos ((bt_shr1 (by omega)).mpr b)]
        obtain ⟨W, g1, g2, g3⟩ := ih (i + 1) (vCourtiers lv, vClock lv, vTears lv, vLeft lv, vRight lv, vScandals lv, upd (vWearOf lv) (24 * c + i) 0) (by omega) (by omega)
        refine ⟨W, g1, fun h h3 h4 => ?_, fun j hj => ?_⟩
        · by_cases e : h = i
          · subst e
            rw [g3 _ (by omega), if_pos b]
            exact pk_us
          · exact g2 h (by omega) h4
        · rw [g3 j (by omega)]
          exact pk_un (by omega)
      · rw [if_neg (fun e => b ((bt_shr1 (by omega)).mp e))]
        obtain ⟨W, g1, g2, g3⟩ := ih (i + 1) (vCourtiers lv, vClock lv, vTears lv, vLeft lv, vRight lv, vScandals lv, upd (vWearOf lv) (24 * c + i) (-6)) (by omega) (by omega)
        refine ⟨W, g1, fun h h3 h4 => ?_, fun j hj => ?_⟩
        · by_cases e : h = i
          · subst e
            rw [g3 _ (by omega), if_neg b]
            exact pk_us
          · exact g2 h (by omega) h4
        · rw [g3 j (by omega)]
          exact pk_un (by omega)
section A2
variable {gg : GS} {k kE kF : KS} {pp : PS} {lv : LV} {sg : SG} {pd : PD} {kp : KP}
theorem api_leave {xc : Int32} {r1 r2 : Int32} {u1 : KS} {u2 : LV} (hrel : REL gg k kE kF pp lv sg pd kp) (e1 : F_X5_leave k xc = (r1, u1)) (e2 : F_X6_leave lv xc = (r2, u2)) : r1 = r2 ∧ REL gg u1 kE kF pp u2 sg pd kp := by
  obtain ⟨hC, hS, hP, hI, hJ⟩ := hrel
  unfold F_X5_leave F_X1_goAway at e1
  unfold F_X6_leave at e2
  simp only [bnd_def] at e1 e2
  rw [thereEq (cr_cts hC)] at e2
  by_cases w : F_X1_isThere k xc = 0
  · rw [if_pos w] at e1 e2
    cases e1
    cases e2
    exact ⟨rfl, hC, hS, hP, hI, hJ⟩
  · rw [if_neg w, if_neg w] at e1
    rw [if_neg w] at e2
    obtain ⟨c, hc, rfl⟩ := vp_in_of (there_in rfl w) (by decide)
    rw [nI_clamp (n := c) (by omega)] at e1
    cases e1
    cases e2
    refine ⟨?_, cr_leave hC hc rfl rfl rfl rfl rfl rfl rfl rfl rfl rfl rfl rfl rfl rfl rfl, hS, hP, hI, hJ⟩
    rw [cr_cts hC]
    exact bitCount_ones (and_24 (cr_p24 hC))
theorem api_courtier {xc : Int32} {xp : Int32} {r1 r2 : Int32} {u1 : KS} {u2 : LV} (hrel : REL gg k kE kF pp lv sg pd kp) (e1 : F_X5_courtier k xc xp = (r1, u1)) (e2 : F_X6_courtier lv xc xp = (r2, u2)) : r1 = r2 ∧ REL gg u1 kE kF pp u2 sg pd kp := by
  obtain ⟨hC, hS, hP, hI, hJ⟩ := hrel
  unfold F_X5_courtier F_X1_arrive at e1
  unfold F_X6_courtier at e2
  simp only [bnd_def] at e1 e2
  rw [inW (a := 0) (b := 5) (by decide) (by decide), inW (x := xp) (a := 0) (b := 16777215) (by decide) (by decide)] at e2
  by_cases w : F_X5_isWithin xc 0 5 = 0
  · rw [if_pos w] at e1 e2
    cases e1
    cases e2
    exact ⟨rfl, hC, hS, hP, hI, hJ⟩
  · rw [if_neg w] at e1 e2
    by_cases w2 : F_X5_isWithin xp 0 16777215 = 0
    · rw [if_pos w2] at e1 e2
      cases e1
      cases e2
      exact ⟨rfl, hC, hS, hP, hI, hJ⟩
    · rw [if_neg w2] at e1 e2
      rw [if_neg w] at e1
      obtain ⟨c, hc, rfl⟩ := vp_in_of (wi_in (n := 6) rfl w (by decide)) (by decide)
      have hp24 : vp_in xp 16777216 := wi_in (n := 16777216) rfl w2 (by decide)
      rw [nI_clamp (n := c) (by omega)] at e1 e2
      obtain ⟨W, g1, g2, g3⟩ := arr_n hc (24 + 1) 0 ((kPresent k ||| ((1 : Int32) <<< (nI c &&& 31))), kClock k, kTears k, kSights k, kHoursSeen k, kHoursNotOwned k, upd (kPairs k) c xp, upd (kLeft k) c 24, upd (kRight k) c 24, upd (kScandals k) c 0, kWears k) (by omega) (by omega)
      obtain ⟨V, f1, f2, f3⟩ := cou_n hc (p := xp) (24 + 1) 0 ((vCourtiers lv ||| ((1 : Int32) <<< (nI c &&& 31))), vClock lv, vTears lv, upd (vLeft lv) c 24, upd (vRight lv) c 24, upd (vScandals lv) c 0, vWearOf lv) (by omega) (by omega)
      rw [g1] at e1
      rw [f1] at e2
      cases e1
      cases e2
      refine ⟨?_, cr_arrive hC hc hp24 rfl rfl rfl rfl rfl rfl rfl g2 g3 rfl rfl rfl rfl rfl rfl f2 f3, hS, hP, hI, hJ⟩
      show F_J6_bitCount_0f7a4 (kPresent k ||| ((1 : Int32) <<< (nI c &&& 31))) = F_X6_ones (vCourtiers lv ||| ((1 : Int32) <<< (nI c &&& 31)))
      rw [cr_cts hC]
      refine bitCount_ones (bt_in (by decide) (fun i h6 hi => ?_))
      rw [come_bits (by omega) hi, bt_small (cr_p24 hC) (by decide) h6, decide_eq_false (by omega)]
      rfl
end A2
