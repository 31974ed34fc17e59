/-! the first questions: where the two answer alike with no more ado -/
theorem le_of_nlt {a b : Int32} (h : ¬ a < b) : b ≤ a := by
  rw [Int32.le_iff_toInt_le]
  rw [Int32.lt_iff_toInt_lt] at h
  omega
theorem nle_of_lt {a b : Int32} (h : a < b) : ¬ b ≤ a := by
  rw [Int32.le_iff_toInt_le]
  rw [Int32.lt_iff_toInt_lt] at h
  omega
theorem inW {x a b : Int32} {A B : Int64} (hA : A.toInt = a.toInt) (hB : B.toInt = b.toInt) : F_X6_in x.toInt64 A B = F_X5_isWithin x a b := by
  rw [in_eq, Int32.toInt_toInt64, hA, hB]
  unfold F_X5_isWithin
  by_cases h1 : x < a
  · rw [if_pos h1]
    rw [Int32.lt_iff_toInt_lt] at h1
    rw [if_neg (by omega)]
  · rw [if_neg h1]
    by_cases h2 : b < x
    · rw [if_pos h2]
      rw [Int32.lt_iff_toInt_lt] at h2
      rw [if_neg (by omega)]
    · rw [if_neg h2]
      rw [Int32.lt_iff_toInt_lt] at h1 h2
      rw [if_pos (by omega)]
theorem hourW (x : Int32) : F_X6_isHour x = F_X5_isWithin x 0 23 := by
  unfold F_X6_isHour
  simp only [bnd_def]
  exact inW (by decide) (by decide)
theorem wi_no {x a b : Int32} (h : ¬ (a.toInt ≤ x.toInt ∧ x.toInt ≤ b.toInt)) : F_X5_isWithin x a b = 0 := by
  unfold F_X5_isWithin
  by_cases h1 : x < a
  · rw [if_pos h1]
  · rw [if_neg h1]
    rw [Int32.lt_iff_toInt_lt] at h1
    rw [if_pos (by rw [Int32.lt_iff_toInt_lt]; omega)]
theorem wi_yes {x a b : Int32} (h : a.toInt ≤ x.toInt ∧ x.toInt ≤ b.toInt) : F_X5_isWithin x a b = 1 := by
  unfold F_X5_isWithin
  rw [if_neg (by rw [Int32.lt_iff_toInt_lt]; omega), if_neg (by rw [Int32.lt_iff_toInt_lt]; omega)]
theorem wi_iff {x a b : Int32} (h : ¬ F_X5_isWithin x a b = 0) : a.toInt ≤ x.toInt ∧ x.toInt ≤ b.toInt := by
  by_cases q : a.toInt ≤ x.toInt ∧ x.toInt ≤ b.toInt
  · exact q
  · exact absurd (wi_no q) h
theorem cr_sights {k : KS} {lv : LV} {a b c : Int32} (h : CR k lv) : CR (kPresent k, kClock k, kTears k, a, b, c, kPairs k, kLeft k, kRight k, kScandals k, kWears k) lv := h
section A1
variable {gg : GS} {k kE kF : KS} {pp : PS} {lv : LV} {sg : SG} {pd : PD} {kp : KP}
theorem api_forget {r1 r2 : Int32} {u1 : KS} {u2 : SG} (hrel : REL gg k kE kF pp lv sg pd kp) (e1 : F_X5_forget k = (r1, u1)) (e2 : F_X6_forget sg = (r2, u2)) : r1 = r2 ∧ REL gg u1 kE kF pp lv u2 pd kp := by
  obtain ⟨hC, hS, hP, hI, hJ⟩ := hrel
  unfold F_X5_forget F_X1_dropSights at e1
  unfold F_X6_forget at e2
  simp only [bnd_def] at e1
  cases e1
  cases e2
  refine ⟨hS.1, cr_sights hC, ⟨rfl, in_0 (by decide), fun j hj => absurd hj (Nat.not_lt_zero j), fun h hh => ⟨⟨fun q => ?_, fun ⟨j, hj, _⟩ => absurd hj (Nat.not_lt_zero j)⟩, ⟨fun q => ?_, fun ⟨j, hj, _⟩ => absurd hj (Nat.not_lt_zero j)⟩⟩⟩, hP, hI, hJ⟩
  · have e : bt (0 : Int32) h = true := q
    rw [bt_00] at e
    exact absurd e (by decide)
  · have e : bt (0 : Int32) h = true := q
    rw [bt_00] at e
    exact absurd e (by decide)
theorem sr_add {k' : KS} {sg' : SG} {o : Int32} {n x : Nat} (hS : SR k sg) (en : sSights sg = nI n) (hn : n < 8) (hx : x < 24) (ho : o = 0 ∨ o = 1)
    (e1 : kSights k' = nI (n + 1)) (e2 : sSights sg' = nI (n + 1)) (e3 : sSightHour sg' = upd (sSightHour sg) n (nI x)) (e4 : sSightOwned sg' = upd (sSightOwned sg) n o)
    (e5 : ∀ h, h < 32 → bt (kHoursSeen k') h = (bt (kHoursSeen k) h || (decide (x = h) && decide (o = 1))))
    (e6 : ∀ h, h < 32 → bt (kHoursNotOwned k') h = (bt (kHoursNotOwned k) h || (decide (x = h) && decide (o = 0)))) : SR k' sg' := by
  obtain ⟨a1, a2, a3, a4⟩ := hS
  have c1 : (sSights sg').toNatClampNeg = n + 1 := by rw [e2, nI_clamp (by omega)]
  have c0 : (sSights sg).toNatClampNeg = n := by rw [en, nI_clamp (by omega)]
  rw [c0] at a3
  refine ⟨by rw [e1, e2], by rw [e2]; exact vp_in_nI (by omega) (by decide), ?_, ?_⟩
  · rw [c1, e3, e4]
    intro j hj
    by_cases q : j = n
    · subst q
      rw [pk_us, pk_us]
      exact ⟨vp_in_nI hx (by decide), ho⟩
    · rw [pk_un q, pk_un q]
      exact a3 j (by omega)
  · intro h hh
    obtain ⟨b1, b2⟩ := a4 h hh
    rw [c0] at b1 b2
    rw [c1, e3, e4, e5 h hh, e6 h hh]
    have key : ∀ v : Int32, (∃ j, j < n + 1 ∧ upd (sSightHour sg) n (nI x) j = nI h ∧ upd (sSightOwned sg) n o j = v) ↔ ((∃ j, j < n ∧ sSightHour sg j = nI h ∧ sSightOwned sg j = v) ∨ (x = h ∧ o = v)) := by
      intro v
      constructor
      · intro ⟨j, hj, g1, g2⟩
        by_cases q : j = n
        · subst q
          rw [pk_us] at g1 g2
          exact Or.inr ⟨(nI_eq (by omega) (by omega)).mp g1, g2⟩
        · rw [pk_un q] at g1 g2
          exact Or.inl ⟨j, by omega, g1, g2⟩
      · intro g
        rcases g with ⟨j, hj, g1, g2⟩ | ⟨g1, g2⟩
        · exact ⟨j, by omega, by rw [pk_un (by omega)]; exact g1, by rw [pk_un (by omega)]; exact g2⟩
        · exact ⟨n, by omega, by rw [pk_us, g1], by rw [pk_us]; exact g2⟩
    rw [key 1, key 0, ← b1, ← b2, Bool.or_eq_true, Bool.or_eq_true, Bool.and_eq_true, Bool.and_eq_true, decide_eq_true_iff, decide_eq_true_iff, decide_eq_true_iff]
    exact ⟨Iff.rfl, Iff.rfl⟩
theorem api_seen {xh : Int32} {xo : Int32} {r1 r2 : Int32} {u1 : KS} {u2 : SG} (hrel : REL gg k kE kF pp lv sg pd kp) (e1 : F_X5_seen k xh xo = (r1, u1)) (e2 : F_X6_seen sg xh xo = (r2, u2)) : r1 = r2 ∧ REL gg u1 kE kF pp lv u2 pd kp := by
  obtain ⟨hC, hS, hP, hI, hJ⟩ := hrel
  unfold F_X5_seen F_X1_addSight at e1
  simp only [bnd_def] at e1
  unfold F_X6_seen at e2
  simp only [bnd_def] at e2
  rw [hourW] at e2
  by_cases w : F_X5_isWithin xh 0 23 = 0
  · rw [if_pos w] at e1 e2
    cases e1
    cases e2
    exact ⟨rfl, hC, hS, hP, hI, hJ⟩
  · rw [if_neg w] at e1 e2
    obtain ⟨x, hx, rfl⟩ := vp_in_of (wi_in (n := 24) rfl w (by decide)) (by decide)
    obtain ⟨n, hn, en⟩ := vp_in_of hS.2.1 (by decide)
    have ek : kSights k = nI n := by rw [hS.1, en]
    rw [ek] at e1
    rw [en] at e2
    by_cases h8 : n = 8
    · subst h8
      rw [if_neg (by decide)] at e1
      rw [if_pos (by decide)] at e2
      cases e1
      cases e2
      exact ⟨rfl, hC, hS, hP, hI, hJ⟩
    · rw [if_pos (show nI n < (8 : Int32) from nI_lt (b := 8) (by omega) (by decide))] at e1
      rw [if_neg (show ¬ nI n = (8 : Int32) from fun e => h8 ((nI_eq (b := 8) (by omega) (by decide)).mp e))] at e2
      have en1 : nI n + 1 = nI (n + 1) := nI_add n 1
      have ecl : (nI n).toNatClampNeg = n := nI_clamp (by omega)
      rw [ecl, en1] at e2
      rw [en1] at e1
      by_cases ho : xo = 0
      · rw [if_pos ho] at e1 e2
        cases e1
        cases e2
        refine ⟨rfl, cr_sights hC, sr_add (o := 0) (n := n) (x := x) hS en (by omega) hx (Or.inl rfl) rfl rfl rfl rfl (fun h hh => ?_) (fun h hh => ?_), hP, hI, hJ⟩
        · show bt (kHoursSeen k) h = _
          rw [show decide ((0 : Int32) = 1) = false from by decide, Bool.and_false, Bool.or_false]
        · show bt (kHoursNotOwned k ||| ((1 : Int32) <<< (nI x &&& 31))) h = _
          rw [b_or, bt_one (by omega) hh, show decide ((0 : Int32) = 0) = true from by decide, Bool.and_true]
      · rw [if_neg ho] at e1 e2
        cases e1
        cases e2
        refine ⟨rfl, cr_sights hC, sr_add (o := 1) (n := n) (x := x) hS en (by omega) hx (Or.inr rfl) rfl rfl rfl rfl (fun h hh => ?_) (fun h hh => ?_), hP, hI, hJ⟩
        · show bt (kHoursSeen k ||| ((1 : Int32) <<< (nI x &&& 31))) h = _
          rw [b_or, bt_one (by omega) hh, show decide ((1 : Int32) = 1) = true from by decide, Bool.and_true]
        · show bt (kHoursNotOwned k) h = _
          rw [show decide ((1 : Int32) = 0) = false from by decide, Bool.and_false, Bool.or_false]
theorem api_wipe {r1 r2 : Int32} {u1 : PS} {u2 : PD} (hrel : REL gg k kE kF pp lv sg pd kp) (e1 : F_X5_wipe pp = (r1, u1)) (e2 : F_X6_wipe pd = (r2, u2)) : r1 = r2 ∧ REL gg k kE kF u1 lv sg u2 kp := by
  obtain ⟨hC, hS, hP, hI, hJ⟩ := hrel
  unfold F_X5_wipe at e1
  unfold F_X6_wipe at e2
  cases e1
  cases e2
  exact ⟨hP.1, hC, hS, ⟨rfl, in_0 (by decide), fun j hj => absurd hj (Nat.not_lt_zero j)⟩, hI, hJ⟩
theorem api_say {xs : Int32} {r1 r2 : Int32} {u1 : PS} {u2 : PD} (hrel : REL gg k kE kF pp lv sg pd kp) (e1 : F_X5_say pp xs = (r1, u1)) (e2 : F_X6_say pd xs = (r2, u2)) : r1 = r2 ∧ REL gg k kE kF u1 lv sg u2 kp := by
  obtain ⟨hC, hS, hP, hI, hJ⟩ := hrel
  unfold F_X5_say F_X4_append at e1
  simp only [bnd_def] at e1
  unfold F_X6_say at e2
  simp only [bnd_def] at e2
  rw [inW (a := 33) (b := 126) (by decide) (by decide)] at e2
  by_cases w : F_X5_isWithin xs 33 126 = 0
  · rw [if_pos w] at e1 e2
    cases e1
    cases e2
    exact ⟨rfl, hC, hS, hP, hI, hJ⟩
  · rw [if_neg w] at e1 e2
    obtain ⟨p1, p2, p3⟩ := hP
    obtain ⟨n, hn, en⟩ := vp_in_of p2 (by decide)
    rw [en] at e2
    rw [p1, en] at e1
    by_cases h60 : n = 60
    · subst h60
      rw [if_pos (by decide)] at e2
      rw [wi_no (by decide), if_pos rfl, if_pos rfl] at e1
      cases e1
      cases e2
      exact ⟨rfl, hC, hS, ⟨p1, p2, p3⟩, hI, hJ⟩
    · have en1 : nI n + 1 = nI (n + 1) := nI_add n 1
      have ecl : (nI n).toNatClampNeg = n := nI_clamp (by omega)
      have w1 : F_X5_isWithin (nI n) 0 59 = 1 := wi_yes (by
        rw [nI_toInt (by omega)]
        have a0 : (0 : Int32).toInt = 0 := rfl
        have a1 : (59 : Int32).toInt = 59 := rfl
        omega)
      rw [if_neg (show ¬ nI n = (60 : Int32) from fun e => h60 ((nI_eq (b := 60) (by omega) (by decide)).mp e)), en1, ecl] at e2
      have h10 : ¬ (1 : Int32) = 0 := by decide
      rw [w1, if_neg h10] at e1
      change (if (1 : Int32) = 0 then _ else _) = _ at e1
      rw [if_neg h10, en1, ecl] at e1
      cases e1
      cases e2
      refine ⟨rfl, hC, hS, ⟨rfl, vp_in_nI (by omega) (by decide), fun j hj => ?_⟩, hI, hJ⟩
      have hj2 : j < (nI (n + 1)).toNatClampNeg := hj
      rw [nI_clamp (by omega)] at hj2
      show upd (pSigns pp) n xs j = upd (qPad pd) n xs j
      by_cases q : j = n
      · subst q
        rw [pk_us, pk_us]
      · rw [pk_un q, pk_un q]
        exact p3 j (by rw [en, ecl]; omega)
theorem api_proper {r1 r2 : Int32} (hrel : REL gg k kE kF pp lv sg pd kp) (e1 : F_X5_proper k = r1) (e2 : F_X6_proper lv = r2) : r1 = r2 ∧ REL gg k kE kF pp lv sg pd kp := by
  refine ⟨?_, hrel⟩
  rw [← e1, ← e2]
  have key : ∀ (n i : Nat) (v : Int32), L_X5_proper_4 k n i v = L_X6_proper_4 lv n i v := by
    intro n
    induction n with
    | zero => intro i v; rfl
    | succ n ih =>
      intro i v
      rw [L_X6_proper_4_s, L_X5_proper_4_s]
      by_cases c : (6 : Int32) ≤ nI i
      · rw [if_pos c, if_pos c]
      · rw [if_neg c, if_neg c]
        simp only [bnd_def]
        rw [properEq hrel.1]
        by_cases d : F_X1_isProper k (nI i) = 0
        · rw [if_pos d, if_pos d, or0, ih]
        · rw [if_neg d, if_neg d, ih]
  unfold F_X5_proper F_X6_proper
  rw [bnd_def, bnd_def]
  exact key _ _ _
theorem in_mono {x : Int32} {a b : Nat} (h : vp_in x a) (hab : a ≤ b) : vp_in x b := by
  rw [vp_in_iff] at h ⊢
  omega
theorem sub6 {x p : Int32} (h : x &&& (p ^^^ (-1 : Int32)) = 0) (hp : vp_in p (2 ^ 6)) : vp_in x (2 ^ 6) := by
  refine bt_in (by decide) (fun i h6 hi => ?_)
  have e : bt (x &&& (p ^^^ (-1 : Int32))) i = false := by rw [h, b_0]
  rw [b_and, bt_not p hi, bt_small hp (by decide) h6] at e
  simpa using e
theorem and_24 {x y : Int32} (h : vp_in x (2 ^ 24)) : vp_in (x &&& y) (2 ^ 24) := by
  refine bt_in (by decide) (fun i h6 hi => ?_)
  rw [b_and, bt_small h (by decide) h6]
  rfl
theorem cr_p24 (h : CR k lv) : vp_in (kPresent k) (2 ^ 24) := in_mono h.1.2 (by decide)
theorem api_can {xh : Int32} {xs : Int32} {xw : Int32} {r1 r2 : Int32} (hrel : REL gg k kE kF pp lv sg pd kp) (e1 : F_X5_can k xh xs xw = r1) (e2 : F_X6_can lv xh xs xw = r2) : r1 = r2 ∧ REL gg k kE kF pp lv sg pd kp := by
  refine ⟨?_, hrel⟩
  have hC := hrel.1
  unfold F_X5_can at e1
  simp only [bnd_def] at e1
  unfold F_X6_can at e2
  simp only [bnd_def] at e2
  rw [cr_cts hC, hourW, inW (a := 0) (b := 63) (by decide) (by decide), inW (x := xw) (a := 0) (b := 1) (by decide) (by decide)] at e2
  by_cases w : (xs &&& (kPresent k ^^^ (-1 : Int32))) = 0
  · have hx := sub6 w hC.1.2
    have hx' := vp_in_iff.mp hx
    rw [wi_yes (x := xs) (a := 0) (b := 63) ⟨hx'.1, by
      have a1 : (63 : Int32).toInt = 63 := rfl
      have a2 : ((2 ^ 6 : Nat) : Int) = 64 := rfl
      omega⟩, if_neg (by decide), if_pos w] at e2
    rw [if_pos w] at e1
    by_cases w2 : F_X5_isWithin xh 0 23 = 0
    · rw [if_pos w2] at e1 e2
      rw [← e1, ← e2]
    · rw [if_neg w2] at e1 e2
      have hh := wi_in (n := 24) rfl w2 (by decide)
      by_cases w3 : F_X5_isWithin xw 0 1 = 0
      · rw [if_pos w3] at e1 e2
        rw [← e1, ← e2]
      · rw [if_neg w3] at e1 e2
        have hx24 : vp_in xs (2 ^ 24) := in_mono hx (by decide)
        have ho24 : vp_in (F_X1_ownersOf k xh) (2 ^ 24) := in_mono (owners_6 k xh) (by decide)
        rw [ownersEq hC hh] at e2
        rw [bitCount_ones hx24, bitCount_ones ho24, bitCount_ones (and_24 hx24)] at e1
        rw [Int32.and_comm (F_X1_ownersOf k xh) xs] at e2
        rw [← e1, ← e2]
        by_cases c : F_X6_ones (F_X1_ownersOf k xh) < F_X6_ones xs
        · rw [if_pos c, if_neg (nle_of_lt c)]
        · rw [if_neg c, if_pos (le_of_nlt c)]
  · rw [if_neg w] at e1
    rw [if_neg w] at e2
    by_cases w2 : F_X5_isWithin xs 0 63 = 0
    · rw [if_pos w2] at e2
      rw [← e1, ← e2]
    · rw [if_neg w2] at e2
      rw [← e1, ← e2]
end A1
