/-! the day from end to end -/
theorem lose_ct (lv : LV) (c h : Int32) : vCourtiers (F_X6_lose lv c h) = vCourtiers lv ∧ vTears (F_X6_lose lv c h) = vTears lv := by
  unfold F_X6_lose
  rw [bnd_def]
  split
  · split <;> exact ⟨rfl, rfl⟩
  · split <;> exact ⟨rfl, rfl⟩
theorem ct_if {lv : LV} {p : Prop} [Decidable p] {a b : LV × DD} (h1 : vCourtiers a.1 = vCourtiers lv ∧ vTears a.1 = vTears lv) (h2 : vCourtiers b.1 = vCourtiers lv ∧ vTears b.1 = vTears lv) : vCourtiers (if p then a else b).1 = vCourtiers lv ∧ vTears (if p then a else b).1 = vTears lv := by
  split
  · exact h1
  · exact h2
theorem dd_ct (lv : LV) (dd : DD) (c : Int32) : vCourtiers (F_X6_doDeed lv dd c).1 = vCourtiers lv ∧ vTears (F_X6_doDeed lv dd c).1 = vTears lv := by
  unfold F_X6_doDeed
  simp only [bnd_def]
  exact ct_if (ct_if (ct_if ⟨rfl, rfl⟩ (lose_ct _ _ _)) (ct_if ⟨rfl, rfl⟩ (lose_ct _ _ _))) (ct_if (ct_if (ct_if ⟨rfl, rfl⟩ (lose_ct _ _ _)) (ct_if ⟨rfl, rfl⟩ (lose_ct _ _ _))) (ct_if (ct_if ⟨rfl, rfl⟩ (lose_ct _ _ _)) (ct_if ⟨rfl, rfl⟩ (lose_ct _ _ _))))
theorem ct_ifL {lv : LV} {p : Prop} [Decidable p] {a b : LV} (h1 : vCourtiers a = vCourtiers lv ∧ vTears a = vTears lv) (h2 : vCourtiers b = vCourtiers lv ∧ vTears b = vTears lv) : vCourtiers (if p then a else b) = vCourtiers lv ∧ vTears (if p then a else b) = vTears lv := by
  split
  · exact h1
  · exact h2
theorem ph_ct : ∀ (n i : Nat) (lv : LV), vCourtiers (L_X6_passHour_2 n i lv) = vCourtiers lv ∧ vTears (L_X6_passHour_2 n i lv) = vTears lv := by
  intro n
  induction n with
  | zero => intro i lv; exact ⟨rfl, rfl⟩
  | succ n ih =>
    intro i lv
    rw [L_X6_passHour_2_s]
    simp only [bnd_def]
    exact ct_ifL ⟨rfl, rfl⟩ (ct_ifL (ct_ifL (ih _ _) (ih _ _)) (ct_ifL (ct_ifL (ct_ifL (ih _ _) (ih _ _)) (ct_ifL (ih _ _) (ih _ _))) (ct_ifL (ih _ _) (ih _ _))))
theorem happen_ct (lv : LV) (dd : DD) (w a b h : Int32) : vCourtiers (F_X6_happen lv dd w a b h).1 = vCourtiers lv ∧ vTears (F_X6_happen lv dd w a b h).1 = vTears lv := by
  unfold F_X6_happen
  simp only [bnd_def]
  refine ct_if ⟨rfl, rfl⟩ (ct_if ⟨rfl, rfl⟩ (ct_if ⟨rfl, rfl⟩ (ct_if (dd_ct lv dd a) (ct_if ?_ (ct_if ?_ ?_)))))
  · have h1 := dd_ct lv dd a
    have h2 := dd_ct (F_X6_doDeed lv dd a).1 (F_X6_doDeed lv dd a).2 b
    exact ⟨h2.1.trans h1.1, h2.2.trans h1.2⟩
  · unfold F_X6_lend
    simp only [bnd_def]
    exact lose_ct _ _ _
  · unfold F_X6_passHour
    rw [bnd_def]
    exact ph_ct _ _ _
theorem wid_pos (s : Nat → Int32) (p : Nat) : 1 ≤ wid s p := by
  unfold wid
  split
  · decide
  · split
    · decide
    · split
      · decide
      · split <;> decide
theorem pos_le (s : Nat → Int32) {i j : Nat} (h : i ≤ j) : pos s i + (j - i) ≤ pos s j := by
  induction j with
  | zero =>
    have : i = 0 := by omega
    subst this
    exact Nat.le_refl _
  | succ j ih =>
    by_cases e : i = j + 1
    · subst e
      omega
    · have h1 := ih (by omega)
      have h2 := wid_pos s (pos s j)
      show pos s i + (j + 1 - i) ≤ pos s j + wid s (pos s j)
      omega
def DAY (K : Nat) (lv0 : LV) (c : Int32 × DS × KS) (g : LV × DD × BD) : Prop := ∃ m, CR c.2.2 g.1 ∧ DR c.2.1 g.2.1 m ∧ m ≤ 60 ∧ (vCourtiers g.1 = vCourtiers lv0 ∧ vTears g.1 = vTears lv0) ∧ dStoppedAct c.2.1 = bBadAct g.2.2 ∧ dStoppedWhy c.2.1 = bBadWhy g.2.2 ∧ ((c.1 = 0 ∧ bBadAct g.2.2 = -6 ∧ dActs c.2.1 = nI K) ∨ (c.1 = -3 ∧ 0 ≤ bBadAct g.2.2))
theorem day_n {pp : PS} {pd : PD} {ac : AC} {K : Nat} {lv0 : LV} (hP : PR pp pd) (hK : aActs ac = nI K) (hKN : K ≤ (qPadMany pd).toNatClampNeg) (hpos : pos (qPad pd) K = (qPadMany pd).toNatClampNeg) (hA : ∀ j, j < K → isA (qPad pd) ac j) : ∀ (n1 n2 i m : Nat) (dy : DS) (kT : KS) (lv : LV) (dd : DD), i ≤ K → 60 < i + n1 → K < i + n2 → CR kT lv → DR dy dd m → m ≤ pos (qPad pd) i → vCourtiers lv = vCourtiers lv0 ∧ vTears lv = vTears lv0 → dActs dy = nI i → dStoppedAct dy = -6 → dStoppedWhy dy = -6 → DAY K lv0 (L_X2_playPad_22 pp n1 i (nI (pos (qPad pd) i)) dy kT) (L_X6_goDay_18 ac n2 i lv dd (-6, -6)) := by
  have hq2 := in_61 hP.2.1
  have hq0 := vp_nn hP.2.1
  have hlen : pLength pp = nI (qPadMany pd).toNatClampNeg := by
    rw [hP.1]
    obtain ⟨q, hq, eq⟩ := vp_in_of hP.2.1 (by decide)
    rw [eq, nI_clamp (by omega)]
  intro n1
  induction n1 with
  | zero => intro n2 i m dy kT lv dd h1 h2; omega
  | succ n1 ih =>
    intro n2 i m dy kT lv dd h1 h2 h3 hC hD hm hct a1 a2 a3
    obtain ⟨n2, rfl⟩ : ∃ x, n2 = x + 1 := ⟨n2 - 1, by omega⟩
    rw [L_X2_playPad_22_s, L_X6_goDay_18_s, hK, hlen]
    by_cases q : i = K
    · have hend : (if (60 : Int32) ≤ nI i then ((0 : Int32), dy, kT) else if nI (qPadMany pd).toNatClampNeg ≤ nI (pos (qPad pd) i) then ((0 : Int32), dy, kT) else (bnd (F_X2_playAct dy kT pp (nI (pos (qPad pd) i))) (fun x_40 => (if x_40.1 = 0 then (bnd (F_X4_widthAt pp (nI (pos (qPad pd) i))) (fun r_78 => (L_X2_playPad_22 pp n1 (i + 1) (nI (pos (qPad pd) i) + r_78) (((dActs x_40.2.1) + (1 : Int32)), dDeeds x_40.2.1, dStoppedAct x_40.2.1, dStoppedWhy x_40.2.1, dDeedHours x_40.2.1, dDeedClocks x_40.2.1, dDeedCourtiers x_40.2.1, dLongestFrom x_40.2.1) x_40.2.2))) else ((-3 : Int32), (dActs x_40.2.1, dDeeds x_40.2.1, (nI i), x_40.1, dDeedHours x_40.2.1, dDeedClocks x_40.2.1, dDeedCourtiers x_40.2.1, dLongestFrom x_40.2.1), x_40.2.2))))) = (0, dy, kT) := by
        rw [q, hpos]
        split
        · rfl
        · rw [if_pos (Int32.le_refl _)]
      rw [hend, q, if_pos (Int32.le_refl _)]
      exact ⟨m, hC, hD, by rw [q, hpos] at hm; omega, hct, a2, a3, Or.inl ⟨rfl, rfl, by rw [← q]; exact a1⟩⟩
    · have hi : i < K := by omega
      have hp := pos_le (qPad pd) (show i + 1 ≤ K by omega)
      have hps : pos (qPad pd) (i + 1) = pos (qPad pd) i + wid (qPad pd) (pos (qPad pd) i) := rfl
      have hwp := wid_pos (qPad pd) (pos (qPad pd) i)
      rw [if_neg (show ¬ (60 : Int32) ≤ nI i from nI_ge (b := 60) (by omega) (by decide)), if_neg (nI_ge (by omega) (by omega)), if_neg (nI_ge (by omega) (by omega)), if_neg (show ¬ (0 : Int32) ≤ -6 by decide), bnd_def, bnd_def, nI_clamp (n := i) (by omega)]
      have act := play_act hP hC hD (by omega) (hA i hi) (by omega)
      have hnd := isAct_nd (hA i hi)
      obtain ⟨b1, b2, b3, b4, b5, b6, b7⟩ := act
      rw [← b1]
      by_cases z : (F_X2_playAct dy kT pp (nI (pos (qPad pd) i))).1 = 0
      · obtain ⟨c1, c2⟩ := b7 z
        rw [if_pos z, bnd_def, width_at hP (by omega), nI_add, z, if_pos (Int32.le_refl _), if_pos (Int32.le_refl _), if_pos rfl, bnd_def]
        have hc2 := happen_ct lv dd (aAct ac i) (aWho ac i) (aWhom ac i) (aHour ac i)
        exact ih n2 (i + 1) (m + ndOf (aAct ac i)) _ _ _ _ (by omega) (by omega) (by omega) c1 (dr_cong c2 rfl rfl rfl rfl) (by omega) ⟨hc2.1.trans hct.1, hc2.2.trans hct.2⟩ (by show dActs _ + 1 = _; rw [b3, a1, show (1 : Int32) = nI 1 from rfl, nI_add]) (b4.trans a2) (b5.trans a3)
      · have e2 := b6 z
        have zp : 0 < (F_X2_playAct dy kT pp (nI (pos (qPad pd) i))).1 := by
          rcases b2 with t | t
          · exact absurd t z
          · exact t
        rw [if_neg z, bnd_def, if_neg (nle_of_lt zp), if_neg (nle_of_lt zp), if_neg z]
        obtain ⟨n3, rfl⟩ : ∃ x, n2 = x + 1 := ⟨n2 - 1, by omega⟩
        have hstop : L_X6_goDay_18 ac (n3 + 1) (i + 1) lv dd (nI i, (F_X2_playAct dy kT pp (nI (pos (qPad pd) i))).1) = (lv, dd, (nI i, (F_X2_playAct dy kT pp (nI (pos (qPad pd) i))).1)) := by
          rw [L_X6_goDay_18_s]
          split
          · rfl
          · rw [if_pos (nI_pos' (by omega))]
        rw [hstop, e2]
        exact ⟨m, hC, dr_cong hD rfl rfl rfl rfl, by omega, hct, rfl, rfl, Or.inr ⟨rfl, nI_pos' (by omega)⟩⟩
