/-! deed, late -/
theorem isDeed_n {dy : DS} {m : Nat} (hd : dDeeds dy = nI m) (hm : m ≤ 99) (x : Int32) : F_X2_isDeed dy x = if 0 ≤ x.toInt ∧ x.toInt < m then 1 else 0 := by
  have z0 : (0 : Int32).toInt = 0 := rfl
  have z98 : (98 : Int32).toInt = 98 := rfl
  unfold F_X2_isDeed
  rw [bnd_def, hd]
  by_cases w : 0 ≤ x.toInt ∧ x.toInt ≤ 98
  · rw [wi_yes (by rw [z0, z98]; exact w), if_neg h10]
    by_cases q : x.toInt < m
    · rw [if_neg (by rw [Int32.le_iff_toInt_le, nI_toInt (by omega)]; omega), if_pos ⟨w.1, q⟩]
    · rw [if_pos (by rw [Int32.le_iff_toInt_le, nI_toInt (by omega)]; omega), if_neg (fun e => q e.2)]
  · rw [wi_no (by rw [z0, z98]; exact w), if_pos rfl, if_neg (by omega)]
theorem isLate_n {dy : DS} {m : Nat} (hd : dDeeds dy = nI m) (hm : m ≤ 99) {i : Nat} (hi : i < m) : F_X2_isLate dy (nI i) = if dDeedHours dy i = dDeedClocks dy i then 0 else 1 := by
  unfold F_X2_isLate
  rw [bnd_def, isDeed_n hd hm, nI_toInt (by omega), if_pos (show (0 : Int) ≤ (i : Int) ∧ (i : Int) < (m : Int) by omega), if_neg h10, nI_clamp (by omega)]
theorem fl_n {dy : DS} {m : Nat} (hd : dDeeds dy = nI m) (hm : m ≤ 99) : ∀ (n i : Nat), i ≤ m → m < i + n → ((∀ j, i ≤ j → j < m → dDeedHours dy j = dDeedClocks dy j) → L_X2_firstLate_2 dy n i = -6) ∧ (∀ j, i ≤ j → j < m → ¬ dDeedHours dy j = dDeedClocks dy j → (∀ t, i ≤ t → t < j → dDeedHours dy t = dDeedClocks dy t) → L_X2_firstLate_2 dy n i = nI j) := by
  intro n
  induction n with
  | zero => intro i h1 h2; omega
  | succ n ih =>
    intro i h1 h2
    rw [L_X2_firstLate_2_s, hd]
    by_cases q : i = m
    · rw [if_pos (by rw [q]; exact Int32.le_refl _)]
      exact ⟨fun _ => rfl, fun j h3 h4 => by omega⟩
    · rw [if_neg (nI_ge (by omega) (by omega)), bnd_def, isLate_n hd hm (by omega)]
      obtain ⟨g1, g2⟩ := ih (i + 1) (by omega) (by omega)
      by_cases e : dDeedHours dy i = dDeedClocks dy i
      · rw [if_pos e, if_pos rfl]
        refine ⟨fun h => g1 (fun j h3 h4 => h j (by omega) h4), fun j h3 h4 h5 h6 => ?_⟩
        have : j ≠ i := fun z => h5 (by rw [z]; exact e)
        exact g2 j (by omega) h4 h5 (fun t h7 h8 => h6 t (by omega) h8)
      · rw [if_neg e, if_neg h10]
        refine ⟨fun h => absurd (h i (by omega) (by omega)) e, fun j h3 h4 h5 h6 => ?_⟩
        by_cases z : j = i
        · rw [z]
        · exact absurd (h6 i (by omega) (by omega)) e
theorem first_late {dy : DS} {dd : DD} {m : Nat} (h : DR dy dd m) : F_X2_firstLate dy = eFirstLate dd := by
  obtain ⟨d1, d2, d3, d4, d5, d6⟩ := h
  unfold F_X2_firstLate
  rw [d1, nI_clamp (by omega)]
  obtain ⟨g1, g2⟩ := fl_n d1 d3 (m + 1) 0 (by omega) (by omega)
  rcases d5 with ⟨f1, f2⟩ | ⟨i, hi, f1, f2, f3⟩
  · rw [f1]
    exact g1 (fun j _ hj => f2 j hj)
  · rw [f1]
    exact g2 i (Nat.zero_le _) hi f2 (fun t _ ht => f3 t ht)
theorem cl_n {dy : DS} {m : Nat} (hd : dDeeds dy = nI m) (hm : m ≤ 99) : ∀ (n i : Nat), i ≤ m → m < i + n → L_X2_countLate_4 dy n i (nI (lateCnt (dDeedHours dy) (dDeedClocks dy) i)) = nI (lateCnt (dDeedHours dy) (dDeedClocks dy) m) := by
  intro n
  induction n with
  | zero => intro i h1 h2; omega
  | succ n ih =>
    intro i h1 h2
    rw [L_X2_countLate_4_s, hd]
    by_cases q : i = m
    · rw [q, if_pos (Int32.le_refl _)]
    · rw [if_neg (nI_ge (by omega) (by omega)), bnd_def, isLate_n hd hm (by omega)]
      have g := ih (i + 1) (by omega) (by omega)
      have e2 : lateCnt (dDeedHours dy) (dDeedClocks dy) (i + 1) = lateCnt (dDeedHours dy) (dDeedClocks dy) i + if dDeedHours dy i = dDeedClocks dy i then 0 else 1 := rfl
      rw [e2] at g
      by_cases e : dDeedHours dy i = dDeedClocks dy i
      · rw [if_pos e, if_pos rfl]
        rw [if_pos e, Nat.add_zero] at g
        exact g
      · rw [if_neg e, if_neg h10, show (1 : Int32) = nI 1 from rfl, nI_add]
        rw [if_neg e] at g
        exact g
theorem count_late {dy : DS} {dd : DD} {m : Nat} (h : DR dy dd m) : F_X2_countLate dy = eLateMany dd := by
  obtain ⟨d1, d2, d3, d4, d5, d6⟩ := h
  unfold F_X2_countLate
  rw [bnd_def, d1, nI_clamp (by omega), d4]
  exact cl_n d1 d3 (m + 1) 0 (by omega) (by omega)
section D8
variable {gg : GS} {k kE kF : KS} {pp : PS} {lv : LV} {sg : SG} {pd : PD} {kp : KP}
theorem api_late {dy : DS} {kT : KS} {ac : AC} {dd : DD} {hd : HD} {le : LE} {bd : BD} {xw : Int32} {r1 r2 : Int32} {u1 : DS × KS} {u2 : LV × AC × DD × HD × LE × BD} (hrel : REL gg k kE kF pp lv sg pd kp) (e1 : F_X5_late k pp dy kT xw = (r1, u1)) (e2 : F_X6_late lv pd ac dd hd le bd xw = (r2, u2)) : r1 = r2 ∧ REL gg k kE kF pp u2.1 sg pd kp := by
  unfold F_X5_late at e1
  unfold F_X6_late at e2
  rw [bnd_def] at e1 e2
  rw [inW (a := 0) (b := 1) (by decide) (by decide)] at e2
  by_cases w : F_X5_isWithin xw 0 1 = 0
  · rw [if_pos w] at e1 e2
    cases e1
    cases e2
    exact ⟨rfl, hrel⟩
  · rw [if_neg w, bnd_def] at e1 e2
    rcases day3 hrel dy kT ac dd hd le bd with ⟨g1, g2⟩ | ⟨K, m, g, c1, c2, g5, d1, d2, d3, d4, c3, g4, g7, g6⟩ | ⟨lv', u, c1, g5, g6⟩
    · rw [g1, if_neg (show ¬ (0 : Int32) ≤ -5 by decide)] at e1
      rw [g2, if_neg (show ¬ (-5 : Int32) = -6 by decide)] at e2
      cases e1
      cases e2
      exact ⟨rfl, hrel⟩
    · rw [c1, if_pos (by decide)] at e1
      rw [g5, if_pos rfl] at e2
      by_cases z : xw = 0
      · rw [if_pos z, bnd_def] at e1
        rw [if_pos z] at e2
        cases e1
        cases e2
        exact ⟨first_late d2, g6⟩
      · rw [if_neg z, bnd_def] at e1
        rw [if_neg z] at e2
        cases e1
        cases e2
        exact ⟨count_late d2, g6⟩
    · rw [c1, if_neg (by decide)] at e1
      rw [g5, if_neg (show ¬ (-3 : Int32) = -6 by decide)] at e2
      cases e1
      cases e2
      exact ⟨rfl, g6⟩
end D8
