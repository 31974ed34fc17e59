/-! behind -/
section D10
variable {gg : GS} {k kE kF : KS} {pp : PS} {lv : LV} {sg : SG} {pd : PD} {kp : KP}
theorem pairs_left {kT : KS} {lvT : LV} (hC : CR kT lvT) (le : LE) {c : Nat} (hc : c < 6) (hb : bt (kPresent kT) c = true) : F_X6_pairsLeft (stF lvT le) (nI c) = kPairs kT c := by
  unfold F_X6_pairsLeft
  rw [bnd_def]
  refine b_ext (fun j hj => ?_)
  have hp := (cr_pc hC hc hb).2.2.2
  have key := or_bits (p := fun x => bt (kPairs kT c) x) (N := 24) (by decide) (L := L_X6_pairsLeft_4 (stF lvT le) (nI c)) (fun n i v e => by
    rw [L_X6_pairsLeft_4_s, if_pos (n_eq24 e)]) (fun n i v e => by
    rw [L_X6_pairsLeft_4_s, if_neg (n_ge24 e), bnd_def, at_nI, show (18 : Int32) = nI 18 from rfl, nI_add, nI_clamp (n := 18 + (24 * c + i)) (by omega), or0]
    have es : stF lvT le (18 + (24 * c + i)) = vWearOf lvT (24 * c + i) := by
      unfold stF
      rw [if_neg (by omega), if_neg (by omega), if_neg (by omega), if_pos (by omega), Nat.add_sub_cancel_left]
    show (if stF lvT le (18 + (24 * c + i)) < 0 then _ else _) = _
    rw [es]
    by_cases b : bt (kPairs kT c) i = true
    · have h2 := (hp i e).1 b
      have h3 := vp_nn h2.2
      rw [if_pos b, h2.1, if_neg]
      intro z
      rw [Int32.lt_iff_toInt_lt] at z
      have z0 : (0 : Int32).toInt = 0 := rfl
      omega
    · rw [if_neg b, (hp i e).2 (by simpa using b), if_pos (by decide)]) (24 + 1) 0 0 (by omega) (by omega) j hj
  rw [key, b_0]
  rcases Nat.lt_or_ge j 24 with q | q
  · simp [q]
  · rw [bt_small (k := 24) (hC.2.2.2.2.2.1 c hc) (by decide) q]
    simp
theorem api_behind {dy : DS} {kT : KS} {ac : AC} {dd : DD} {hd : HD} {le : LE} {bd : BD} {xc xw : Int32} {r1 r2 : Int32} {u1 : DS × KS} {u2 : LV × AC × DD × HD × LE × BD} (hrel : REL gg k kE kF pp lv sg pd kp) (e1 : F_X5_behind k pp dy kT xc xw = (r1, u1)) (e2 : F_X6_behind lv pd ac dd hd le bd xc xw = (r2, u2)) : r1 = r2 ∧ REL gg k kE kF pp u2.1 sg pd kp := by
  have hC := hrel.1
  unfold F_X5_behind at e1
  unfold F_X6_behind at e2
  rw [bnd_def] at e1 e2
  rw [thereEq (cr_cts hC)] at e2
  by_cases t : F_X1_isThere k xc = 0
  · rw [if_pos t] at e1 e2
    cases e1
    cases e2
    exact ⟨rfl, hrel⟩
  · rw [if_neg t, bnd_def] at e1 e2
    rw [inW (a := 0) (b := 3) (by decide) (by decide)] at e2
    by_cases w : F_X5_isWithin xw 0 3 = 0
    · rw [if_pos w] at e1 e2
      cases e1
      cases e2
      exact ⟨rfl, hrel⟩
    · rw [if_neg w, bnd_def] at e1 e2
      rcases day3 hrel dy kT ac dd hd le bd with ⟨g1, g2⟩ | ⟨K, m, g, c1, c2, g5, d1, d2, d3, d4, c3, g4, g7, g6⟩ | ⟨lv', u, c1, g5, g6⟩
      · rw [g1, if_neg (show ¬ (0 : Int32) ≤ -5 by decide)] at e1
        rw [g2, if_neg (show ¬ (-5 : Int32) = -6 by decide)] at e2
        cases e1
        cases e2
        exact ⟨rfl, hrel⟩
      · rw [c1, if_pos (by decide)] at e1
        rw [g5, if_pos rfl] at e2
        obtain ⟨c, hc, rfl⟩ := vp_in_of (there_in rfl t) (by decide)
        obtain ⟨x, hx, rfl⟩ := vp_in_of (wi_in (n := 4) rfl w (by decide)) (by decide)
        have hb : bt (kPresent (F_X2_playPad dy kT k pp).2.2) c = true := by
          rw [← cr_cts d1, d4, cr_cts hC]
          exact there_yes hc t
        have hth : F_X1_isThere (F_X2_playPad dy kT k pp).2.2 (nI c) = 1 := by rw [there_nI hc, if_pos hb]
        have f3 : _ = u2 := congrArg Prod.snd e2
        obtain ⟨⟨p1, p2, p3⟩, _⟩ := cr_pc d1 hc hb
        have ei : ∀ y : Nat, y < 4 → ((6 : Int32) * nI y + nI c).toNatClampNeg = 6 * y + c := fun y hy => by
          rw [show (6 : Int32) = nI 6 from rfl, pk_mul, nI_add, nI_clamp (by omega)]
        have hx4 : x = 3 ∨ x = 0 ∨ x = 1 ∨ x = 2 := by omega
        unfold F_X1_tellOf at e1
        simp only [bnd_def] at e1 e2
        rw [hth, if_neg h10, nI_clamp (n := c) (by omega)] at e1
        rw [ei x hx] at e2
        rcases hx4 with rfl | rfl | rfl | rfl
        · rw [if_pos (by decide)] at e1 e2
          cases e1
          cases e2
          exact ⟨by rw [pairs1_nI d1 hc, pairs_left d1 le hc hb], g6⟩
        · rw [if_neg (by decide), if_neg (by decide), if_pos (by decide)] at e1
          rw [if_neg (by decide)] at e2
          cases e1
          cases e2
          have es : stF g.1 le (6 * 0 + c) = vLeft g.1 c := by
            unfold stF
            rw [if_pos (by omega)]
            exact congrArg _ (by omega)
          exact ⟨p1.symm.trans es.symm, g6⟩
        · rw [if_neg (by decide), if_neg (by decide), if_neg (by decide)] at e1
          rw [if_neg (by decide)] at e2
          cases e1
          cases e2
          have es : stF g.1 le (6 * 1 + c) = vRight g.1 c := by
            unfold stF
            rw [if_neg (by omega), if_pos (by omega)]
            exact congrArg _ (by omega)
          exact ⟨p2.symm.trans es.symm, g6⟩
        · rw [if_neg (by decide), if_pos (by decide)] at e1
          rw [if_neg (by decide)] at e2
          cases e1
          cases e2
          have es : stF g.1 le (6 * 2 + c) = vScandals g.1 c := by
            unfold stF
            rw [if_neg (by omega), if_neg (by omega), if_pos (by omega)]
            exact congrArg _ (by omega)
          exact ⟨p3.symm.trans es.symm, g6⟩
      · rw [c1, if_neg (by decide)] at e1
        rw [g5, if_neg (show ¬ (-3 : Int32) = -6 by decide)] at e2
        cases e1
        cases e2
        exact ⟨rfl, g6⟩
end D10
