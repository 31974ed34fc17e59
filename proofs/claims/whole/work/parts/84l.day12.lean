/-! mended -/
theorem up1 {a : Int32} (h0 : 0 ≤ a.toInt) (h1 : a.toInt ≤ 1000) : (a + 1).toInt = a.toInt + 1 := by
  obtain ⟨n, hn, rfl⟩ := vp_in_of (x := a) (n := 1001) (vp_in_iff.mpr (by omega)) (by decide)
  rw [show (1 : Int32) = nI 1 from rfl, nI_add, nI_toInt (by omega), nI_toInt (by omega)]
  omega
theorem dn1 {a : Int32} (h0 : 1 ≤ a.toInt) (h1 : a.toInt ≤ 1000) : (a + (-1 : Int32)).toInt = a.toInt - 1 := by
  obtain ⟨n, hn, rfl⟩ := vp_in_of (x := a) (n := 1001) (vp_in_iff.mpr (by omega)) (by decide)
  rw [nI_toInt (by omega)] at h0
  rw [dn_e (by omega), nI_toInt (by omega), nI_toInt (by omega)]
  omega
theorem lb_n {dy : DS} {dd : DD} {m k : Nat} {lf : LF} (hd : dDeeds dy = nI m) (he : eDeeds dd = nI m) (hm : m ≤ 60) (hk : k < m) (hH : ∀ j, j < m → eDeedHour dd j = dDeedHours dy j) (hL : ∀ j, k < j → j < m → dLongestFrom dy j = fLongestFrom lf j) (B : Int) (hB : ∀ j, k < j → j < m → (fLongestFrom lf j).toInt ≤ B) : ∀ (n1 n2 i : Nat) (v : Int32), k < i → i ≤ m → m < i + n1 → m < i + n2 → v.toInt ≤ B → L_X2_longestBehind_6 dy k n1 i v = L_X6_findLongest_20 dd lf (k + 1) n2 i v ∧ v.toInt ≤ (L_X6_findLongest_20 dd lf (k + 1) n2 i v).toInt ∧ (L_X6_findLongest_20 dd lf (k + 1) n2 i v).toInt ≤ B ∧ ∀ j, i ≤ j → j < m → ¬ eDeedHour dd j < eDeedHour dd k → (fLongestFrom lf j).toInt ≤ (L_X6_findLongest_20 dd lf (k + 1) n2 i v).toInt := by
  intro n1
  induction n1 with
  | zero => intro n2 i v h1 h2 h3; omega
  | succ n1 ih =>
    intro n2 i v h1 h2 h3 h4 hv
    obtain ⟨n2, rfl⟩ : ∃ x, n2 = x + 1 := ⟨n2 - 1, by omega⟩
    by_cases q : i = m
    · have e1 : L_X2_longestBehind_6 dy k (n1 + 1) i v = v := by
        rw [L_X2_longestBehind_6_s, hd, q]
        split
        · rfl
        · rw [if_pos (Int32.le_refl _)]
      have e2 : L_X6_findLongest_20 dd lf (k + 1) (n2 + 1) i v = v := by
        rw [L_X6_findLongest_20_s, he, q, if_pos (Int32.le_refl _)]
      rw [e1, e2]
      exact ⟨rfl, Int.le_refl _, hv, fun j h5 h6 => by omega⟩
    · have e1 : L_X2_longestBehind_6 dy k (n1 + 1) i v = if dDeedHours dy i < dDeedHours dy k then L_X2_longestBehind_6 dy k n1 (i + 1) v else L_X2_longestBehind_6 dy k n1 (i + 1) (if v < dLongestFrom dy i then dLongestFrom dy i else v) := by
        rw [L_X2_longestBehind_6_s, hd, if_neg (show ¬ (99 : Int32) ≤ nI i from nI_ge (b := 99) (by omega) (by decide)), if_neg (nI_ge (by omega) (by omega)), bnd_def, isDeed_n hd (by omega), nI_toInt (by omega), if_pos (show (0 : Int) ≤ (k : Int) ∧ (k : Int) < (m : Int) by omega), if_neg h10, nI_clamp (n := i) (by omega), nI_clamp (n := k) (by omega)]
      have e2 : L_X6_findLongest_20 dd lf (k + 1) (n2 + 1) i v = if eDeedHour dd i < eDeedHour dd k then L_X6_findLongest_20 dd lf (k + 1) n2 (i + 1) v else if fLongestFrom lf i ≤ v then L_X6_findLongest_20 dd lf (k + 1) n2 (i + 1) v else L_X6_findLongest_20 dd lf (k + 1) n2 (i + 1) (fLongestFrom lf i) := by
        rw [L_X6_findLongest_20_s, he, if_neg (nI_ge (by omega) (by omega)), nI_clamp (n := i) (by omega), Nat.add_sub_cancel, nI_clamp (n := k) (by omega)]
      rw [e1, e2, hH i (by omega), hH k hk, hL i h1 (by omega)]
      by_cases c : dDeedHours dy i < dDeedHours dy k
      · rw [if_pos c, if_pos c]
        obtain ⟨g1, g2, g3, g4⟩ := ih n2 (i + 1) v (by omega) (by omega) (by omega) (by omega) hv
        rw [hH k hk] at g4
        refine ⟨g1, g2, g3, fun j h5 h6 h7 => ?_⟩
        by_cases z : j = i
        · rw [z, hH i (by omega)] at h7
          exact absurd c h7
        · exact g4 j (by omega) h6 h7
      · rw [if_neg c, if_neg c]
        by_cases l : fLongestFrom lf i ≤ v
        · rw [if_pos l, if_neg (fun e => nle_of_lt e l)]
          obtain ⟨g1, g2, g3, g4⟩ := ih n2 (i + 1) v (by omega) (by omega) (by omega) (by omega) hv
          rw [hH k hk] at g4
          refine ⟨g1, g2, g3, fun j h5 h6 h7 => ?_⟩
          by_cases z : j = i
          · rw [z]
            exact Int.le_trans (Int32.le_iff_toInt_le.mp l) g2
          · exact g4 j (by omega) h6 h7
        · have l2 : v < fLongestFrom lf i := by
            rw [Int32.le_iff_toInt_le] at l
            rw [Int32.lt_iff_toInt_lt]
            omega
          rw [if_neg l, if_pos l2]
          obtain ⟨g1, g2, g3, g4⟩ := ih n2 (i + 1) (fLongestFrom lf i) (by omega) (by omega) (by omega) (by omega) (hB i h1 (by omega))
          rw [hH k hk] at g4
          refine ⟨g1, Int.le_trans (Int.le_of_lt (Int32.lt_iff_toInt_lt.mp l2)) g2, g3, fun j h5 h6 h7 => ?_⟩
          by_cases z : j = i
          · rw [z]
            exact g2
          · exact g4 j (by omega) h6 h7
def ARR (dd : DD) (m i : Nat) (v : Int32) (lf : LF) : Prop := 0 ≤ v.toInt ∧ v.toInt ≤ m ∧ (∀ j, i ≤ j → j < m → 1 ≤ (fLongestFrom lf j).toInt ∧ (fLongestFrom lf j).toInt ≤ (m : Int) - j ∧ (fLongestFrom lf j).toInt ≤ v.toInt) ∧ ∀ k j, i ≤ k → k < j → j < m → ¬ eDeedHour dd j < eDeedHour dd k → (fLongestFrom lf j).toInt + 1 ≤ (fLongestFrom lf k).toInt
theorem arr_s {dd : DD} {m i : Nat} {v w : Int32} {lf : LF} (hm : m ≤ 60) (hi : i < m) (h : ARR dd m (i + 1) v lf) (w0 : 0 ≤ w.toInt) (w1 : w.toInt ≤ (m : Int) - (i + 1)) (hw : ∀ j, i + 1 ≤ j → j < m → ¬ eDeedHour dd j < eDeedHour dd i → (fLongestFrom lf j).toInt ≤ w.toInt) : ARR dd m i (if w + 1 ≤ v then v else w + 1) (upd (fLongestFrom lf) i (w + 1)) := by
  obtain ⟨a1, a2, a3, a4⟩ := h
  have u := up1 w0 (by omega)
  have hv : v.toInt ≤ (if w + 1 ≤ v then v else w + 1).toInt ∧ (w + 1).toInt ≤ (if w + 1 ≤ v then v else w + 1).toInt ∧ (if w + 1 ≤ v then v else w + 1).toInt ≤ m := by
    by_cases q : w + 1 ≤ v
    · rw [if_pos q]
      rw [Int32.le_iff_toInt_le] at q
      exact ⟨Int.le_refl _, q, a2⟩
    · rw [if_neg q]
      rw [Int32.le_iff_toInt_le] at q
      refine ⟨by omega, Int.le_refl _, by omega⟩
  obtain ⟨v1, v2, v3⟩ := hv
  refine ⟨by omega, v3, fun j h1 h2 => ?_, fun k j h1 h2 h3 h4 => ?_⟩
  · by_cases z : j = i
    · rw [z]
      show 1 ≤ (upd (fLongestFrom lf) i (w + 1) i).toInt ∧ (upd (fLongestFrom lf) i (w + 1) i).toInt ≤ (m : Int) - i ∧ (upd (fLongestFrom lf) i (w + 1) i).toInt ≤ _
      rw [pk_us]
      refine ⟨by omega, by omega, v2⟩
    · show 1 ≤ (upd (fLongestFrom lf) i (w + 1) j).toInt ∧ (upd (fLongestFrom lf) i (w + 1) j).toInt ≤ (m : Int) - j ∧ (upd (fLongestFrom lf) i (w + 1) j).toInt ≤ _
      rw [pk_un z]
      obtain ⟨b1, b2, b3⟩ := a3 j (by omega) h2
      exact ⟨b1, b2, by omega⟩
  · show (upd (fLongestFrom lf) i (w + 1) j).toInt + 1 ≤ (upd (fLongestFrom lf) i (w + 1) k).toInt
    rw [pk_un (show j ≠ i by omega)]
    by_cases z : k = i
    · rw [z, pk_us, u]
      rw [z] at h4
      have := hw j (by omega) h3 h4
      omega
    · rw [pk_un z]
      exact a4 k j (by omega) h2 h3 h4
theorem mk_n {dd : DD} {m : Nat} (he : eDeeds dd = nI m) (hm : m ≤ 60) : ∀ (i n1 n2 : Nat) (v : Int32) (dy : DS) (lf : LF), i ≤ m → i < n1 → i < n2 → dDeeds dy = nI m → (∀ j, j < m → eDeedHour dd j = dDeedHours dy j) → (∀ j, i ≤ j → j < m → dLongestFrom dy j = fLongestFrom lf j) → ARR dd m i v lf → ∃ w dy' lf', L_X2_mostKept_5 n1 i v dy = (w, dy') ∧ L_X6_findLongest_9 dd n2 i v lf = (w, lf') ∧ dDeeds dy' = nI m ∧ (∀ j, j < m → eDeedHour dd j = dDeedHours dy' j) ∧ (∀ j, j < m → dLongestFrom dy' j = fLongestFrom lf' j) ∧ ARR dd m 0 w lf' := by
  intro i
  induction i with
  | zero =>
    intro n1 n2 v dy lf h1 h2 h3 hd hH hL hA
    obtain ⟨n1, rfl⟩ : ∃ x, n1 = x + 1 := ⟨n1 - 1, by omega⟩
    obtain ⟨n2, rfl⟩ : ∃ x, n2 = x + 1 := ⟨n2 - 1, by omega⟩
    rw [L_X2_mostKept_5_s, L_X6_findLongest_9_s, if_pos (show nI 0 + (-1 : Int32) < 0 by decide), if_pos (show nI 0 + (-1 : Int32) < 0 by decide)]
    exact ⟨v, dy, lf, rfl, rfl, hd, hH, fun j hj => hL j (Nat.zero_le _) hj, hA⟩
  | succ i ih =>
    intro n1 n2 v dy lf h1 h2 h3 hd hH hL hA
    obtain ⟨n1, rfl⟩ : ∃ x, n1 = x + 1 := ⟨n1 - 1, by omega⟩
    obtain ⟨n2, rfl⟩ : ∃ x, n2 = x + 1 := ⟨n2 - 1, by omega⟩
    have nn : ¬ nI (i + 1) + (-1 : Int32) < 0 := by
      rw [dn_e (by omega)]
      exact nI_pos (by omega)
    have hcl : (eDeeds dd).toNatClampNeg = m := by rw [he, nI_clamp (by omega)]
    obtain ⟨a1, a2, a3, a4⟩ := hA
    obtain ⟨g1, g2, g3, g4⟩ := lb_n hd he hm (k := i) (by omega) hH (fun j hj hj2 => hL j (by omega) hj2) ((m : Int) - (i + 1)) (fun j hj hj2 => by have := (a3 j (by omega) hj2).2.1; omega) (99 + 1) (m + 1) (i + 1) 0 (by omega) (by omega) (by omega) (by omega) (by show (0 : Int) ≤ _; omega)
    have e1 : L_X2_mostKept_5 (n1 + 1) (i + 1) v dy = L_X2_mostKept_5 n1 i (if L_X6_findLongest_20 dd lf (i + 1) (m + 1) (i + 1) 0 + 1 ≤ v then v else L_X6_findLongest_20 dd lf (i + 1) (m + 1) (i + 1) 0 + 1) (dActs dy, dDeeds dy, dStoppedAct dy, dStoppedWhy dy, dDeedHours dy, dDeedClocks dy, dDeedCourtiers dy, upd (dLongestFrom dy) i (L_X6_findLongest_20 dd lf (i + 1) (m + 1) (i + 1) 0 + 1)) := by
      rw [L_X2_mostKept_5_s, if_neg nn, bnd_def, Nat.add_sub_cancel, isDeed_n hd (by omega), nI_toInt (by omega), if_pos (show (0 : Int) ≤ (i : Int) ∧ (i : Int) < (m : Int) by omega), if_neg h10]
      unfold F_X2_longestBehind
      rw [bnd_def, bnd_def, g1, nI_clamp (n := i) (by omega), pk_us, Int32.add_comm 1]
      by_cases q : L_X6_findLongest_20 dd lf (i + 1) (m + 1) (i + 1) 0 + 1 ≤ v
      · rw [if_pos q, if_neg (fun e => nle_of_lt e q)]
      · have q2 : v < L_X6_findLongest_20 dd lf (i + 1) (m + 1) (i + 1) 0 + 1 := by
          rw [Int32.le_iff_toInt_le] at q
          rw [Int32.lt_iff_toInt_lt]
          omega
        rw [if_neg q, if_pos q2]
    have e2 : L_X6_findLongest_9 dd (n2 + 1) (i + 1) v lf = L_X6_findLongest_9 dd n2 i (if L_X6_findLongest_20 dd lf (i + 1) (m + 1) (i + 1) 0 + 1 ≤ v then v else L_X6_findLongest_20 dd lf (i + 1) (m + 1) (i + 1) 0 + 1) (upd (fLongestFrom lf) i (L_X6_findLongest_20 dd lf (i + 1) (m + 1) (i + 1) 0 + 1)) := by
      rw [L_X6_findLongest_9_s, if_neg nn, bnd_def, hcl, Nat.add_sub_cancel, nI_clamp (n := i) (by omega)]
      by_cases q : L_X6_findLongest_20 dd lf (i + 1) (m + 1) (i + 1) 0 + 1 ≤ v
      · rw [if_pos q, if_pos q]
      · rw [if_neg q, if_neg q]
    rw [e1, e2]
    refine ih n1 n2 _ _ _ (by omega) (by omega) (by omega) hd hH (fun j h5 h6 => ?_) (arr_s hm (by omega) ⟨a1, a2, a3, a4⟩ g2 g3 g4)
    show upd (dLongestFrom dy) i _ j = upd (fLongestFrom lf) i _ j
    by_cases z : j = i
    · rw [z, pk_us, pk_us]
    · rw [pk_un z, pk_un z]
      exact hL j (by omega) h6
theorem mk_pre {m : Nat} (hm : m ≤ 60) : ∀ (t n1 : Nat) (dy : DS), dDeeds dy = nI m → m + t ≤ 99 → ∃ dy', dDeeds dy' = nI m ∧ dDeedHours dy' = dDeedHours dy ∧ L_X2_mostKept_5 (n1 + t) (m + t) 0 dy = L_X2_mostKept_5 n1 m 0 dy' := by
  intro t
  induction t with
  | zero => intro n1 dy hd _; exact ⟨dy, hd, rfl, rfl⟩
  | succ t ih =>
    intro n1 dy hd ht
    have nn : ¬ nI (m + t + 1) + (-1 : Int32) < 0 := by
      rw [dn_e (by omega)]
      exact nI_pos (by omega)
    have e1 : L_X2_mostKept_5 (n1 + t + 1) (m + t + 1) 0 dy = L_X2_mostKept_5 (n1 + t) (m + t) 0 (dActs dy, dDeeds dy, dStoppedAct dy, dStoppedWhy dy, dDeedHours dy, dDeedClocks dy, dDeedCourtiers dy, upd (dLongestFrom dy) (m + t) 0) := by
      rw [L_X2_mostKept_5_s, if_neg nn, bnd_def, Nat.add_sub_cancel, isDeed_n hd (by omega), nI_toInt (by omega), if_neg (show ¬ ((0 : Int) ≤ ((m + t : Nat) : Int) ∧ ((m + t : Nat) : Int) < (m : Int)) by omega), if_pos rfl, nI_clamp (n := m + t) (by omega), pk_us, if_neg (show ¬ (0 : Int32) < 0 by decide)]
    obtain ⟨dy', y1, y2, y3⟩ := ih n1 (dActs dy, dDeeds dy, dStoppedAct dy, dStoppedWhy dy, dDeedHours dy, dDeedClocks dy, dDeedCourtiers dy, upd (dLongestFrom dy) (m + t) 0) hd (by omega)
    exact ⟨dy', y1, y2, e1.trans y3⟩
theorem flo_n {dy : DS} {dd : DD} {m : Nat} {lf : LF} {w0 : Int32} (hd : dDeeds dy = nI m) (he : eDeeds dd = nI m) (hm : m ≤ 60) (hH : ∀ j, j < m → eDeedHour dd j = dDeedHours dy j) (hL : ∀ j, j < m → dLongestFrom dy j = fLongestFrom lf j) (hA : ARR dd m 0 w0 lf) (u : LV × AC × DD × HD × LE × BD) (hu : u.2.2.1 = dd) : ∀ (n1 n2 i : Nat) (l v : Int32), i ≤ m → m < i + n1 → m < i + n2 → (∀ j, i ≤ j → j < m → ¬ eDeedHour dd j < l → (fLongestFrom lf j).toInt ≤ v.toInt) → L_X6_mended_48 u lf n2 i l v = (L_X2_firstLeftOut_7 dy n1 i v l, u.1, u.2.1, u.2.2.1, u.2.2.2.1, u.2.2.2.2.1, u.2.2.2.2.2, lf) := by
  obtain ⟨a1, a2, a3, a4⟩ := hA
  intro n1
  induction n1 with
  | zero => intro n2 i l v h1 h2; omega
  | succ n1 ih =>
    intro n2 i l v h1 h2 h3 hv
    obtain ⟨n2, rfl⟩ : ∃ x, n2 = x + 1 := ⟨n2 - 1, by omega⟩
    rw [L_X6_mended_48_s, L_X2_firstLeftOut_7_s, hd, hu, he]
    by_cases q : i = m
    · rw [q, if_pos (Int32.le_refl _), if_pos (Int32.le_refl _)]
      split <;> rfl
    · rw [if_neg (show ¬ (99 : Int32) ≤ nI i from nI_ge (b := 99) (by omega) (by decide)), if_neg (nI_ge (by omega) (by omega)), if_neg (nI_ge (by omega) (by omega)), nI_clamp (n := i) (by omega), if_pos rfl, if_neg h10, ← hH i (by omega), hL i (by omega)]
      obtain ⟨b1, b2, b3⟩ := a3 i (Nat.zero_le _) (by omega)
      by_cases c : eDeedHour dd i < l
      · rw [if_pos c, if_pos c]
        split <;> rfl
      · rw [if_neg c, if_neg c]
        have hle := hv i (Nat.le_refl _) (by omega) c
        by_cases z : fLongestFrom lf i = v
        · rw [if_pos z, if_pos (by rw [z]; exact Int32.le_refl _)]
          have g := ih n2 (i + 1) (eDeedHour dd i) (v + (-1 : Int32)) (by omega) (by omega) (by omega) (fun j h5 h6 h7 => ?_)
          · rw [hu] at g
            exact g
          · have x := a4 i j (Nat.zero_le _) (by omega) h6 h7
            rw [← z, dn1 b1 (by omega)]
            omega
        · rw [if_neg z, if_neg (fun e => z (Int32.toInt_inj.mp (by rw [Int32.le_iff_toInt_le] at e; omega)))]
section D12
variable {gg : GS} {k kE kF : KS} {pp : PS} {lv : LV} {sg : SG} {pd : PD} {kp : KP}
theorem api_mended {dy : DS} {kT : KS} {ac : AC} {dd : DD} {hd : HD} {le : LE} {bd : BD} {lf : LF} {xw : Int32} {r1 r2 : Int32} {u1 : DS × KS} {u2 : LV × AC × DD × HD × LE × BD × LF} (hrel : REL gg k kE kF pp lv sg pd kp) (e1 : F_X5_mended k pp dy kT xw = (r1, u1)) (e2 : F_X6_mended lv pd ac dd hd le bd lf xw = (r2, u2)) : r1 = r2 ∧ REL gg k kE kF pp u2.1 sg pd kp := by
  unfold F_X5_mended at e1
  unfold F_X6_mended at e2
  rw [bnd_def] at e1 e2
  rw [inW (a := 0) (b := 1) (by decide) (by decide)] at e2
  by_cases w : F_X5_isWithin xw 0 1 = 0
  · rw [if_pos w] at e1 e2
    cases e1
    cases e2
    exact ⟨rfl, hrel⟩
  · rw [if_neg w, bnd_def] at e1 e2
    rcases day3 hrel dy kT ac dd hd le bd with ⟨g1, g2⟩ | ⟨K, m, g, c1, c2, g5, d1, d2, d3, d4, c3, g4, g7, g6⟩ | ⟨lv', u, c1, g5, g6⟩
    · rw [g1, if_neg (show ¬ (0 : Int32) ≤ -5 by decide)] at e1
      rw [g2, if_neg (show ¬ (-5 : Int32) = -6 by decide)] at e2
      cases e1
      cases e2
      exact ⟨rfl, hrel⟩
    · obtain ⟨m1, m2, m3, m4, m5, m6⟩ := d2
      have hH : ∀ j, j < m → eDeedHour g.2.1 j = dDeedHours (F_X2_playPad dy kT k pp).2.1 j := fun j hj => (m6 d3 j hj).1
      obtain ⟨dy1, y1, y2, y3⟩ := mk_pre d3 (99 - m) (m + 1) (F_X2_playPad dy kT k pp).2.1 m1 (by omega)
      have t1 : m + 1 + (99 - m) = 99 + 1 := by omega
      have t2 : m + (99 - m) = 99 := by omega
      rw [t1, t2] at y3
      obtain ⟨v, dy2, lf2, x1, x2, x3, x4, x5, x6⟩ := mk_n m2 d3 m (m + 1) (m + 1) 0 dy1 lf (Nat.le_refl _) (by omega) (by omega) y1 (fun j hj => by rw [y2]; exact hH j hj) (fun j h5 h6 => by omega) ⟨Int.le_refl _, by show (0 : Int) ≤ _; omega, fun j h5 h6 => by omega, fun _ j h5 h6 h7 => by omega⟩
      have eM : F_X2_mostKept (F_X2_playPad dy kT k pp).2.1 = (v, dy2) := by
        unfold F_X2_mostKept
        rw [bnd_def, y3, x1]
      have eF : F_X6_findLongest g.2.1 lf = (v, lf2) := by
        unfold F_X6_findLongest
        rw [bnd_def, m2, nI_clamp (by omega), x2]
      rw [c1, if_pos (by decide), bnd_def, eM] at e1
      rw [g5, if_pos rfl, bnd_def, eF] at e2
      by_cases x0 : xw = 0
      · rw [if_pos x0] at e1 e2
        cases e1
        cases e2
        refine ⟨?_, g6⟩
        show dDeeds dy2 - v = eDeeds g.2.1 - v
        rw [x3, m2]
      · rw [if_neg x0] at e1 e2
        rw [bnd_def] at e1
        have fl := flo_n x3 m2 d3 x4 x5 x6 (F_X6_lay_had g.1 (F_X6_store_had lv hd), (F_X6_fault pd ac).2, g.2.1, F_X6_store_had lv hd, stF g.1 le, g.2.2) rfl (99 + 1) (m + 1) 0 0 v (Nat.zero_le _) (by omega) (by omega) (fun j h5 h6 _ => (x6.2.2.1 j h5 h6).2.2)
        have hcl : (eDeeds g.2.1).toNatClampNeg = m := by rw [m2, nI_clamp (by omega)]
        unfold F_X2_firstLeftOut at e1
        have e3 := e2
        rw [hcl, fl] at e3
        cases e1
        cases e3
        exact ⟨rfl, g6⟩
    · rw [c1, if_neg (by decide)] at e1
      rw [g5, if_neg (show ¬ (-3 : Int32) = -6 by decide)] at e2
      cases e1
      cases e2
      exact ⟨rfl, g6⟩
end D12
