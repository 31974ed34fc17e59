/-! the day, asked about -/
theorem agL_r (lv : LV) : agL lv lv := ⟨rfl, rfl, rfl, fun _ _ => ⟨rfl, rfl, rfl⟩, fun _ _ => rfl⟩
theorem lay_back {lv g : LV} {hd : HD} (h : vCourtiers g = vCourtiers lv ∧ vTears g = vTears lv) : agL (F_X6_lay_had g (F_X6_store_had lv hd)) lv := by
  obtain ⟨⟨l1, l2, l3⟩, l4, l5⟩ := lay_had g (F_X6_store_had lv hd)
  rw [store_had] at l1 l2 l3 l4 l5 ⊢
  refine ⟨l1.trans h.1, ?_, l2.trans h.2, fun c hc => ?_, fun j hj => ?_⟩
  · rw [l3]
    unfold stF
    rw [if_neg (by decide), if_neg (by decide), if_neg (by decide), if_neg (by decide), if_pos rfl]
  · obtain ⟨y1, y2, y3⟩ := l4 c hc
    rw [y1, y2, y3]
    unfold stF
    refine ⟨if_pos hc, ?_, ?_⟩
    · rw [if_neg (by omega), if_pos (by omega), Nat.add_sub_cancel_left]
    · rw [if_neg (by omega), if_neg (by omega), if_pos (by omega), Nat.add_sub_cancel_left]
  · rw [l5 j hj]
    unfold stF
    rw [if_neg (by omega), if_neg (by omega), if_neg (by omega), if_pos (by omega), Nat.add_sub_cancel_left]
section D6
variable {gg : GS} {k kE kF : KS} {pp : PS} {lv : LV} {sg : SG} {pd : PD} {kp : KP}
theorem day_go (hC : CR k lv) (hP : PR pp pd) (f : F_X4_firstFault pp = -6) (dy : DS) (kT : KS) {ac : AC} (dd : DD) (bd : BD) (hA : Acts (qPad pd) (qPadMany pd).toNatClampNeg ac) : ∃ K, aActs ac = nI K ∧ K ≤ 60 ∧ DAY K lv (F_X2_playPad dy kT k pp) (F_X6_goDay lv ac dd bd) := by
  obtain ⟨K, k1, k2, k3, k4⟩ := hA
  have h60 := in_61 hP.2.1
  have hcl : (aActs ac).toNatClampNeg = K := by rw [k1, nI_clamp (by omega)]
  unfold F_X2_playPad F_X2_begin F_X6_goDay F_X6_beginCount
  rw [bnd_def, f, if_pos rfl, bnd_def, bnd_def, bnd_def, bnd_def, hcl]
  exact ⟨K, k1, by omega, day_n hP k1 k2 k3 k4 (60 + 1) (K + 1) 0 0 _ _ lv _ (Nat.zero_le _) (by omega) (by omega) (cr_cong hC (copy_ag kT k) (agL_r lv)) ⟨rfl, rfl, by omega, rfl, Or.inl ⟨rfl, fun j hj => absurd hj (Nat.not_lt_zero j)⟩, fun _ j hj => absurd hj (Nat.not_lt_zero j)⟩ (Nat.zero_le _) ⟨rfl, rfl⟩ rfl rfl rfl⟩
theorem day_all (hrel : REL gg k kE kF pp lv sg pd kp) (dy : DS) (kT : KS) (ac : AC) (dd : DD) (hd : HD) (le : LE) (bd : BD) :
    (F_X2_playPad dy kT k pp = (-5, dy, kT) ∧ F_X6_refusal lv pd ac dd hd le bd = (-5, lv, (F_X6_fault pd ac).2, dd, hd, le, bd)) ∨
    ∃ K g, K ≤ 60 ∧ F_X6_goDay lv (F_X6_fault pd ac).2 dd bd = g ∧ DAY K lv (F_X2_playPad dy kT k pp) g ∧ aActs (F_X6_fault pd ac).2 = nI K ∧ F_X6_refusal lv pd ac dd hd le bd = (if bBadAct g.2.2 < 0 then (-6 : Int32) else -3, F_X6_lay_had g.1 (F_X6_store_had lv hd), (F_X6_fault pd ac).2, g.2.1, F_X6_store_had lv hd, F_X6_store_leaves g.1 le, g.2.2) ∧ REL gg k kE kF pp (F_X6_lay_had g.1 (F_X6_store_had lv hd)) sg pd kp := by
  obtain ⟨hC, hS, hP, hI, hJ⟩ := hrel
  have fe := faultEq hP ac
  rw [refusal_cases]
  dsimp only
  by_cases f : (F_X6_fault pd ac).1 < 0
  · right
    obtain ⟨hA, h6⟩ := fault_acts (pd := pd) (ac := ac) (u := (F_X6_fault pd ac).2) (r := (F_X6_fault pd ac).1) rfl f hP.2.1
    rw [h6] at fe
    obtain ⟨K, k1, k2, k3⟩ := day_go hC hP fe dy kT dd bd hA
    rw [if_pos f]
    obtain ⟨m, d1, d2, d3, d4, d5⟩ := k3
    exact ⟨K, _, k2, rfl, ⟨m, d1, d2, d3, d4, d5⟩, k1, rfl, cr_cong hC (agK_r k) (lay_back d4), hS, hP, hI, hJ⟩
  · left
    have hn : ¬ F_X4_firstFault pp = -6 := fun e => f (by rw [← fe, e]; decide)
    rw [if_neg f]
    refine ⟨?_, rfl⟩
    unfold F_X2_playPad
    rw [bnd_def, if_neg hn]
theorem api_judge {dy : DS} {kT : KS} {ac : AC} {dd : DD} {hd : HD} {le : LE} {bd : BD} {xw : Int32} {r1 r2 : Int32} {u1 : DS × KS} {u2 : LV × AC × DD × HD × LE × BD} (hrel : REL gg k kE kF pp lv sg pd kp) (e1 : F_X5_judge k pp dy kT xw = (r1, u1)) (e2 : F_X6_judge lv pd ac dd hd le bd xw = (r2, u2)) : r1 = r2 ∧ REL gg k kE kF pp u2.1 sg pd kp := by
  unfold F_X5_judge at e1
  unfold F_X6_judge at e2
  rw [bnd_def] at e1 e2
  rw [inW (a := 0) (b := 2) (by decide) (by decide)] at e2
  by_cases w : F_X5_isWithin xw 0 2 = 0
  · rw [if_pos w] at e1 e2
    cases e1
    cases e2
    exact ⟨rfl, hrel⟩
  · rw [if_neg w, bnd_def] at e1 e2
    obtain ⟨x, hx, rfl⟩ := vp_in_of (wi_in (n := 3) rfl w (by decide)) (by decide)
    rcases day_all hrel dy kT ac dd hd le bd with ⟨g1, g2⟩ | ⟨K, g, g1, g2, ⟨m, d1, d2, d3, d4, d5, d6, d7⟩, g4, g5, g6⟩
    · rw [g1, if_pos rfl] at e1
      rw [g2, if_pos rfl] at e2
      cases e1
      cases e2
      exact ⟨rfl, hrel⟩
    · have hx3 : x = 0 ∨ x = 1 ∨ x = 2 := by omega
      have hd1 : dDeeds (F_X2_playPad dy kT k pp).2.1 = eDeeds g.2.1 := by rw [d2.1, d2.2.1]
      rw [g5] at e2
      rcases d7 with ⟨c1, c2, c3⟩ | ⟨c1, c2⟩
      · have n5 : ¬ (if bBadAct g.2.2 < 0 then (-6 : Int32) else -3) = -5 := by rw [c2]; decide
        have n3 : ¬ (if bBadAct g.2.2 < 0 then (-6 : Int32) else -3) = -3 := by rw [c2]; decide
        rw [if_neg n5] at e2
        rw [c1, if_neg (by decide)] at e1
        rcases hx3 with rfl | rfl | rfl
        · rw [if_neg (by decide), if_pos (by decide)] at e1
          rw [if_pos (by decide), if_pos (by decide)] at e2
          cases e1
          cases e2
          exact ⟨d5, g6⟩
        · rw [if_neg (by decide), if_neg (by decide)] at e1
          rw [if_pos (by decide), if_neg (by decide), if_pos (by decide)] at e2
          cases e1
          cases e2
          exact ⟨d6, g6⟩
        · rw [if_pos (by decide), if_neg (by decide)] at e1
          rw [if_neg (by decide), if_neg n3, if_neg (by decide), if_neg (by decide)] at e2
          cases e1
          cases e2
          exact ⟨hd1, g6⟩
      · have nn : ¬ bBadAct g.2.2 < 0 := fun e => by
          rw [Int32.lt_iff_toInt_lt] at e
          rw [Int32.le_iff_toInt_le] at c2
          omega
        rw [if_neg nn, if_neg (show ¬ (-3 : Int32) = -5 by decide)] at e2
        rw [c1, if_neg (by decide)] at e1
        rcases hx3 with rfl | rfl | rfl
        · rw [if_neg (by decide), if_pos (by decide)] at e1
          rw [if_pos (by decide), if_pos (by decide)] at e2
          cases e1
          cases e2
          exact ⟨d5, g6⟩
        · rw [if_neg (by decide), if_neg (by decide)] at e1
          rw [if_pos (by decide), if_neg (by decide), if_pos (by decide)] at e2
          cases e1
          cases e2
          exact ⟨d6, g6⟩
        · rw [if_pos (by decide), if_pos rfl] at e1
          rw [if_neg (by decide), if_pos rfl] at e2
          cases e1
          cases e2
          exact ⟨rfl, g6⟩
end D6
