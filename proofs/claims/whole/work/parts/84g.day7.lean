/-! wear, deed, late -/
section D7
variable {gg : GS} {k kE kF : KS} {pp : PS} {lv : LV} {sg : SG} {pd : PD} {kp : KP}
theorem day3 (hrel : REL gg k kE kF pp lv sg pd kp) (dy : DS) (kT : KS) (ac : AC) (dd : DD) (hd : HD) (le : LE) (bd : BD) :
    (F_X2_playPad dy kT k pp = (-5, dy, kT) ∧ F_X6_refusal lv pd ac dd hd le bd = (-5, lv, (F_X6_fault pd ac).2, dd, hd, le, bd)) ∨
    (∃ K m g, (F_X2_playPad dy kT k pp).1 = 0 ∧ F_X6_goDay lv (F_X6_fault pd ac).2 dd bd = g ∧ F_X6_refusal lv pd ac dd hd le bd = (-6, F_X6_lay_had g.1 (F_X6_store_had lv hd), (F_X6_fault pd ac).2, g.2.1, F_X6_store_had lv hd, stF g.1 le, g.2.2) ∧ CR (F_X2_playPad dy kT k pp).2.2 g.1 ∧ DR (F_X2_playPad dy kT k pp).2.1 g.2.1 m ∧ m ≤ 60 ∧ vCourtiers g.1 = vCourtiers lv ∧ dActs (F_X2_playPad dy kT k pp).2.1 = nI K ∧ aActs (F_X6_fault pd ac).2 = nI K ∧ K ≤ 60 ∧ REL gg k kE kF pp (F_X6_lay_had g.1 (F_X6_store_had lv hd)) sg pd kp) ∨
    (∃ lv' u, (F_X2_playPad dy kT k pp).1 = -3 ∧ F_X6_refusal lv pd ac dd hd le bd = (-3, lv', u) ∧ REL gg k kE kF pp lv' sg pd kp) := by
  rcases day_all hrel dy kT ac dd hd le bd with h | ⟨K, g, g1, g2, ⟨m, d1, d2, d3, d4, d5, d6, d7⟩, g4, g5, g6⟩
  · exact Or.inl h
  · right
    rcases d7 with ⟨c1, c2, c3⟩ | ⟨c1, c2⟩
    · left
      rw [c2, if_pos (by decide), store_leaves] at g5
      exact ⟨K, m, g, c1, g2, g5, d1, d2, d3, d4.1, c3, g4, g1, g6⟩
    · right
      have nn : ¬ bBadAct g.2.2 < 0 := fun e => by
        rw [Int32.lt_iff_toInt_lt] at e
        rw [Int32.le_iff_toInt_le] at c2
        omega
      rw [if_neg nn] at g5
      exact ⟨_, _, c1, g5, g6⟩
theorem api_wear {dy : DS} {kT : KS} {ac : AC} {dd : DD} {hd : HD} {le : LE} {bd : BD} {xc xh : Int32} {r1 r2 : Int32} {u1 : DS × KS} {u2 : LV × AC × DD × HD × LE × BD} (hrel : REL gg k kE kF pp lv sg pd kp) (e1 : F_X5_wear k pp dy kT xc xh = (r1, u1)) (e2 : F_X6_wear lv pd ac dd hd le bd xc xh = (r2, u2)) : r1 = r2 ∧ REL gg k kE kF pp u2.1 sg pd kp := by
  have hC := hrel.1
  unfold F_X5_wear at e1
  unfold F_X6_wear at e2
  rw [bnd_def] at e1 e2
  rw [thereEq (cr_cts hC)] at e2
  by_cases t : F_X1_isThere k xc = 0
  · rw [if_pos t] at e1 e2
    cases e1
    cases e2
    exact ⟨rfl, hrel⟩
  · rw [if_neg t, bnd_def] at e1 e2
    rw [hourW] at e2
    by_cases w : F_X5_isWithin xh 0 23 = 0
    · rw [if_pos w] at e1 e2
      cases e1
      cases e2
      exact ⟨rfl, hrel⟩
    · rw [if_neg w, bnd_def] at e1 e2
      rcases day3 hrel dy kT ac dd hd le bd with ⟨g1, g2⟩ | ⟨K, m, g, c1, c2, g5, d1, d2, d3, d4, c3, g4, g7, g6⟩ | ⟨lv', u, c1, g5, g6⟩
      · rw [g1, if_neg (show ¬ (0 : Int32) ≤ -5 by decide)] at e1
        rw [g2, if_neg (show ¬ (-5 : Int32) = -6 by decide)] at e2
        cases e1
        cases e2
        exact ⟨rfl, hrel⟩
      · rw [c1, if_pos (by decide), bnd_def] at e1
        rw [g5, if_pos rfl, bnd_def] at e2
        obtain ⟨c, hc, rfl⟩ := vp_in_of (there_in rfl t) (by decide)
        obtain ⟨x, hx, rfl⟩ := vp_in_of (wi_in (n := 24) rfl w (by decide)) (by decide)
        have f1 : _ = r1 := congrArg Prod.fst e1
        have f2 : _ = r2 := congrArg Prod.fst e2
        have f3 : _ = u2 := congrArg Prod.snd e2
        rw [← f1, ← f2, ← f3]
        refine ⟨?_, g6⟩
        have hb : bt (kPresent (F_X2_playPad dy kT k pp).2.2) c = true := by
          rw [← cr_cts d1, d4, cr_cts hC]
          exact there_yes hc t
        have hp := (cr_pc d1 hc hb).2.2.2 x hx
        show F_X1_wearOf (F_X2_playPad dy kT k pp).2.2 (nI c) (nI x) = stF g.1 le ((18 : Int32) + F_X6_at (nI c) (nI x)).toNatClampNeg
        unfold F_X1_wearOf
        rw [bnd_def, own_nI hc hx, at_nI, show (18 : Int32) = nI 18 from rfl, nI_add, nI_clamp (n := 18 + (24 * c + x)) (by omega), show (24 : Int32) = nI 24 from rfl, pk_mul, nI_add, nI_clamp (by omega), Nat.mul_comm c 24]
        have es : stF g.1 le (18 + (24 * c + x)) = vWearOf g.1 (24 * c + x) := by
          unfold stF
          rw [if_neg (by omega), if_neg (by omega), if_neg (by omega), if_pos (by omega), Nat.add_sub_cancel_left]
        rw [es]
        by_cases b : bt (kPairs (F_X2_playPad dy kT k pp).2.2 c) x = true
        · rw [if_pos b, if_neg h10, (hp.1 b).1]
        · rw [if_neg b, if_pos rfl, hp.2 (by simpa using b)]
      · rw [c1, if_neg (by decide)] at e1
        rw [g5, if_neg (show ¬ (-3 : Int32) = -6 by decide)] at e2
        cases e1
        cases e2
        exact ⟨rfl, g6⟩
end D7
