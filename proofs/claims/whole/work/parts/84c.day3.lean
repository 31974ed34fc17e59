/-! one act, side by side -/
def AOK (dy : DS) (kT : KS) (lv : LV) (dd : DD) (m : Nat) (w a b h : Int32) (z : Int32 × DS × KS) : Prop :=
  z.1 = F_X6_whyNot lv w a b h ∧ (z.1 = 0 ∨ 0 < z.1) ∧ dActs z.2.1 = dActs dy ∧ dStoppedAct z.2.1 = dStoppedAct dy ∧ dStoppedWhy z.2.1 = dStoppedWhy dy ∧ (¬ z.1 = 0 → z.2 = (dy, kT)) ∧ (z.1 = 0 → CR z.2.2 (F_X6_happen lv dd w a b h).1 ∧ DR z.2.1 (F_X6_happen lv dd w a b h).2 (m + ndOf w))
theorem aok_no {dy : DS} {kT : KS} {lv : LV} {dd : DD} {m : Nat} {w a b h r : Int32} (h1 : F_X6_whyNot lv w a b h = r) (h2 : 0 < r) : AOK dy kT lv dd m w a b h (r, dy, kT) :=
  ⟨h1.symm, Or.inr h2, rfl, rfl, rfl, fun _ => rfl, fun e => by
    have e' : r = 0 := e
    rw [e'] at h2
    exact absurd h2 (by decide)⟩
theorem lpos1 : (0 : Int32) < 1 := by decide
theorem lpos2 : (0 : Int32) < 2 := by decide
theorem lpos3 : (0 : Int32) < 3 := by decide
theorem lpos4 : (0 : Int32) < 4 := by decide
theorem lpos5 : (0 : Int32) < 5 := by decide
theorem lpos6 : (0 : Int32) < 6 := by decide
section D3
variable {dy : DS} {kT : KS} {lv : LV} {dd : DD} {m : Nat}
theorem nd0 : ndOf 0 = 0 ∧ ndOf 1 = 0 ∧ ndOf 2 = 0 ∧ ndOf 3 = 1 ∧ ndOf 4 = 2 ∧ ndOf 5 = 0 ∧ ndOf 6 = 0 := by decide
theorem wnd_eq (hC : CR kT lv) {w : Int32} (a b : Int32) {x : Nat} (hx : x < 24) (h2 : ¬ w = 2) (h3 : ¬ w = 3) (h4 : ¬ w = 4) (h5 : ¬ w = 5) (h6 : ¬ w = 6) : F_X6_whyNot lv w a b (nI x) = if F_X1_isThere kT a = 0 then 1 else if F_X1_owns kT a (nI x) = 0 then 3 else 0 := by
  rw [wn_d lv a b (nI x) h2 h3 h4 h5 h6, thereEq (cr_cts hC), ownsEq hC a (vp_in_nI hx (by decide))]
theorem a_left (hC : CR kT lv) (hD : DR dy dd m) (a b : Int32) {x : Nat} (hx : x < 24) : AOK dy kT lv dd m 0 a b (nI x) (bnd (F_X1_putOnLeft kT a (nI x)) (fun z => (z.1, dy, z.2))) := by
  have hw := wnd_eq (w := 0) hC a b hx (by decide) (by decide) (by decide) (by decide) (by decide)
  unfold F_X1_putOnLeft F_X1_whyNotHis
  simp only [bnd_def]
  by_cases o : F_X1_owns kT a (nI x) = 0
  · rw [if_pos o, if_pos o]
    by_cases t : F_X1_isThere kT a = 0
    · rw [if_pos t] at hw ⊢
      exact aok_no hw (by first | exact lpos1 | exact lpos2 | exact lpos3 | exact lpos4 | exact lpos5 | exact lpos6)
    · rw [if_neg t, if_pos o] at hw
      rw [if_neg t]
      exact aok_no hw (by first | exact lpos1 | exact lpos2 | exact lpos3 | exact lpos4 | exact lpos5 | exact lpos6)
  · obtain ⟨c, hc, rfl⟩ := vp_in_of (own_in rfl o).1 (by decide)
    have hbx := own_yes hc hx o
    have hb := own_there hC hc hbx
    have t : ¬ F_X1_isThere kT (nI c) = 0 := by rw [there_nI hc, if_pos hb]; decide
    rw [if_neg t, if_neg o] at hw
    rw [if_neg o, nI_clamp (n := c) (by omega)]
    have t' : ¬ F_X1_isThere (kPresent kT, kClock kT, kTears kT, kSights kT, kHoursSeen kT, kHoursNotOwned kT, kPairs kT, upd (kLeft kT) c (nI x), kRight kT, kScandals kT, kWears kT) (nI c) = 0 := t
    have o' : ¬ F_X1_owns (kPresent kT, kClock kT, kTears kT, kSights kT, kHoursSeen kT, kHoursNotOwned kT, kPairs kT, upd (kLeft kT) c (nI x), kRight kT, kScandals kT, kWears kT) (nI c) (nI x) = 0 := o
    rw [if_neg t', if_neg o']
    obtain ⟨⟨b1, b2, b3⟩, ⟨b4, b5, b6⟩, b7, b8⟩ := cr_pc hC hc hb
    have eh : F_X6_happen lv dd 0 (nI c) b (nI x) = ((vCourtiers lv, vClock lv, vTears lv, upd (vLeft lv) c (nI x), vRight lv, vScandals lv, vWearOf lv), dd) := by
      unfold F_X6_happen
      rw [if_pos rfl, nI_clamp (n := c) (by omega)]
    refine ⟨hw.symm, Or.inl rfl, rfl, rfl, rfl, fun e => absurd rfl e, fun _ => ?_⟩
    rw [eh]
    refine ⟨cr_one hC hc hb rfl rfl rfl rfl rfl rfl (fun y hy e => ⟨rfl, pk_un e, rfl, rfl, fun _ _ => rfl⟩) (fun y hy e => ⟨pk_un e, rfl, rfl, fun _ _ => rfl⟩) ⟨⟨?_, b2, b3⟩, ⟨?_, b5, b6⟩, b7, b8⟩ (hC.2.2.2.2.2.1 c hc), hD⟩
    · show upd (vLeft lv) c _ c = upd (kLeft kT) c _ c
      rw [pk_us, pk_us]
    · show vp_in (upd (kLeft kT) c _ c) 25
      rw [pk_us]
      exact vp_in_nI (by omega) (by decide)
theorem a_right (hC : CR kT lv) (hD : DR dy dd m) (a b : Int32) {x : Nat} (hx : x < 24) : AOK dy kT lv dd m 1 a b (nI x) (bnd (F_X1_putOnRight kT a (nI x)) (fun z => (z.1, dy, z.2))) := by
  have hw := wnd_eq (w := 1) hC a b hx (by decide) (by decide) (by decide) (by decide) (by decide)
  unfold F_X1_putOnRight F_X1_whyNotHis
  simp only [bnd_def]
  by_cases o : F_X1_owns kT a (nI x) = 0
  · rw [if_pos o, if_pos o]
    by_cases t : F_X1_isThere kT a = 0
    · rw [if_pos t] at hw ⊢
      exact aok_no hw (by first | exact lpos1 | exact lpos2 | exact lpos3 | exact lpos4 | exact lpos5 | exact lpos6)
    · rw [if_neg t, if_pos o] at hw
      rw [if_neg t]
      exact aok_no hw (by first | exact lpos1 | exact lpos2 | exact lpos3 | exact lpos4 | exact lpos5 | exact lpos6)
  · obtain ⟨c, hc, rfl⟩ := vp_in_of (own_in rfl o).1 (by decide)
    have hbx := own_yes hc hx o
    have hb := own_there hC hc hbx
    have t : ¬ F_X1_isThere kT (nI c) = 0 := by rw [there_nI hc, if_pos hb]; decide
    rw [if_neg t, if_neg o] at hw
    rw [if_neg o, nI_clamp (n := c) (by omega)]
    have t' : ¬ F_X1_isThere (kPresent kT, kClock kT, kTears kT, kSights kT, kHoursSeen kT, kHoursNotOwned kT, kPairs kT, kLeft kT, upd (kRight kT) c (nI x), kScandals kT, kWears kT) (nI c) = 0 := t
    have o' : ¬ F_X1_owns (kPresent kT, kClock kT, kTears kT, kSights kT, kHoursSeen kT, kHoursNotOwned kT, kPairs kT, kLeft kT, upd (kRight kT) c (nI x), kScandals kT, kWears kT) (nI c) (nI x) = 0 := o
    rw [if_neg t', if_neg o']
    obtain ⟨⟨b1, b2, b3⟩, ⟨b4, b5, b6⟩, b7, b8⟩ := cr_pc hC hc hb
    have eh : F_X6_happen lv dd 1 (nI c) b (nI x) = ((vCourtiers lv, vClock lv, vTears lv, vLeft lv, upd (vRight lv) c (nI x), vScandals lv, vWearOf lv), dd) := by
      unfold F_X6_happen
      rw [if_neg h10, if_pos rfl, nI_clamp (n := c) (by omega)]
    refine ⟨hw.symm, Or.inl rfl, rfl, rfl, rfl, fun e => absurd rfl e, fun _ => ?_⟩
    rw [eh]
    refine ⟨cr_one hC hc hb rfl rfl rfl rfl rfl rfl (fun y hy e => ⟨rfl, rfl, pk_un e, rfl, fun _ _ => rfl⟩) (fun y hy e => ⟨rfl, pk_un e, rfl, fun _ _ => rfl⟩) ⟨⟨b1, ?_, b3⟩, ⟨b4, ?_, b6⟩, ?_, b8⟩ (hC.2.2.2.2.2.1 c hc), hD⟩
    · show upd (vRight lv) c _ c = upd (kRight kT) c _ c
      rw [pk_us, pk_us]
    · show vp_in (upd (kRight kT) c _ c) 25
      rw [pk_us]
      exact vp_in_nI (by omega) (by decide)
    · show _ → bt (kPairs kT c) (upd (kRight kT) c _ c).toNatClampNeg = true
      rw [pk_us, nI_clamp (by omega)]
      exact fun _ => hbx
theorem a_off (hC : CR kT lv) (hD : DR dy dd m) (a b h : Int32) : AOK dy kT lv dd m 2 a b h (bnd (F_X1_takeOff kT a) (fun z => (z.1, dy, z.2))) := by
  have hw := wn_2 lv a b h
  rw [thereEq (cr_cts hC)] at hw
  unfold F_X1_takeOff
  simp only [bnd_def]
  by_cases t : F_X1_isThere kT a = 0
  · rw [if_pos t] at hw ⊢
    exact aok_no hw (by first | exact lpos1 | exact lpos2 | exact lpos3 | exact lpos4 | exact lpos5 | exact lpos6)
  · rw [if_neg t] at hw ⊢
    obtain ⟨c, hc, rfl⟩ := vp_in_of (there_in rfl t) (by decide)
    have hb := there_yes hc t
    rw [nI_clamp (n := c) (by omega)]
    obtain ⟨⟨b1, b2, b3⟩, ⟨b4, b5, b6⟩, b7, b8⟩ := cr_pc hC hc hb
    have eh : F_X6_happen lv dd 2 (nI c) b h = ((vCourtiers lv, vClock lv, vTears lv, upd (vLeft lv) c 24, upd (vRight lv) c 24, vScandals lv, vWearOf lv), dd) := by
      unfold F_X6_happen
      rw [if_neg (by decide), if_neg (by decide), if_pos rfl, nI_clamp (n := c) (by omega)]
    refine ⟨hw.symm, Or.inl rfl, rfl, rfl, rfl, fun e => absurd rfl e, fun _ => ?_⟩
    rw [eh]
    have h24 : vp_in (24 : Int32) 25 := vp_in_nI (n := 24) (by decide) (by decide)
    refine ⟨cr_one hC hc hb rfl rfl rfl rfl rfl rfl (fun y hy e => ⟨rfl, pk_un e, pk_un e, rfl, fun _ _ => rfl⟩) (fun y hy e => ⟨pk_un e, pk_un e, rfl, fun _ _ => rfl⟩) ⟨⟨?_, ?_, b3⟩, ⟨?_, ?_, b6⟩, ?_, b8⟩ (hC.2.2.2.2.2.1 c hc), hD⟩
    · show upd (vLeft lv) c _ c = upd (kLeft kT) c _ c
      rw [pk_us, pk_us]
    · show upd (vRight lv) c _ c = upd (kRight kT) c _ c
      rw [pk_us, pk_us]
    · show vp_in (upd (kLeft kT) c _ c) 25
      rw [pk_us]
      exact h24
    · show vp_in (upd (kRight kT) c _ c) 25
      rw [pk_us]
      exact h24
    · intro n
      have n' : ¬ upd (kRight kT) c 24 c = 24 := n
      rw [pk_us] at n'
      exact absurd rfl n'
theorem a_hour (hC : CR kT lv) (hD : DR dy dd m) (a b h : Int32) : AOK dy kT lv dd m 6 a b h (bnd (F_X1_passHour kT) (fun u => ((0 : Int32), dy, u))) := by
  have eh : F_X6_happen lv dd 6 a b h = (F_X6_passHour lv, dd) := by
    unfold F_X6_happen
    rw [if_neg (by decide), if_neg (by decide), if_neg (by decide), if_neg (by decide), if_neg (by decide), if_neg (by decide), bnd_def]
  rw [bnd_def]
  refine ⟨(wn_6 lv a b h).symm, Or.inl rfl, rfl, rfl, rfl, fun e => absurd rfl e, fun _ => ?_⟩
  rw [eh]
  exact ⟨pass_hour hC, hD⟩
theorem a_deed (hC : CR kT lv) (hD : DR dy dd m) (hm : m < 99) (a b h : Int32) : AOK dy kT lv dd m 3 a b h (bnd (F_X1_whyNoDeed kT a) (fun r => bnd (F_X2_playDeeds dy kT a a r) (fun z => (z.1, z.2.1, z.2.2)))) := by
  have hw := wn_3 lv a b h
  rw [thereEq (cr_cts hC)] at hw
  unfold F_X1_whyNoDeed
  rw [bnd_def, bnd_def, bnd_def]
  by_cases t : F_X1_isThere kT a = 0
  · rw [if_pos t] at hw ⊢
    unfold F_X2_playDeeds
    rw [if_neg h10]
    exact aok_no hw (by first | exact lpos1 | exact lpos2 | exact lpos3 | exact lpos4 | exact lpos5 | exact lpos6)
  · rw [if_neg t] at hw ⊢
    obtain ⟨c, hc, rfl⟩ := vp_in_of (there_in rfl t) (by decide)
    have hb := there_yes hc t
    rw [nI_clamp (n := c) (by omega)] at hw ⊢
    obtain ⟨⟨b1, b2, b3⟩, ⟨b4, b5, b6⟩, b7, b8⟩ := cr_pc hC hc hb
    rw [b2] at hw
    by_cases r : kRight kT c = 24
    · rw [if_pos r] at hw ⊢
      unfold F_X2_playDeeds
      rw [if_neg (by decide)]
      exact aok_no hw (by first | exact lpos1 | exact lpos2 | exact lpos3 | exact lpos4 | exact lpos5 | exact lpos6)
    · rw [if_neg r] at hw ⊢
      unfold F_X2_playDeeds
      rw [if_pos rfl, bnd_def, if_pos rfl]
      obtain ⟨dy', kT', g1, g2, g3, g4, g5, g6, g7, g8⟩ := add_deed hC hD hm hc hb r
      rw [g1]
      have eh : F_X6_happen lv dd 3 (nI c) b h = F_X6_doDeed lv dd (nI c) := by
        unfold F_X6_happen
        rw [if_neg (by decide), if_neg (by decide), if_neg (by decide), if_pos rfl, bnd_def]
      refine ⟨hw.symm, Or.inl rfl, g4, g5, g6, fun e => absurd rfl e, fun _ => ?_⟩
      rw [eh, nd0.2.2.2.1]
      exact ⟨g2, g3⟩
theorem a_two (hC : CR kT lv) (hD : DR dy dd m) (hm : m < 98) (a b h : Int32) : AOK dy kT lv dd m 4 a b h (bnd (F_X1_whyNoPromise kT a b) (fun r => bnd (F_X2_playDeeds dy kT a b r) (fun z => (z.1, z.2.1, z.2.2)))) := by
  have hw := wn_4 lv a b h
  unfold F_X6_whyNotTwo at hw
  rw [bnd_def, bnd_def, thereEq (cr_cts hC), thereEq (cr_cts hC), if_neg (show ¬ (4 : Int32) = 5 by decide)] at hw
  unfold F_X1_whyNoPromise
  simp only [bnd_def]
  by_cases t : F_X1_isThere kT a = 0
  · rw [if_pos t] at hw ⊢
    unfold F_X2_playDeeds
    rw [if_neg h10]
    exact aok_no hw (by first | exact lpos1 | exact lpos2 | exact lpos3 | exact lpos4 | exact lpos5 | exact lpos6)
  · rw [if_neg t] at hw ⊢
    by_cases t2 : F_X1_isThere kT b = 0
    · rw [if_pos t2] at hw ⊢
      unfold F_X2_playDeeds
      rw [if_neg h10]
      exact aok_no hw (by first | exact lpos1 | exact lpos2 | exact lpos3 | exact lpos4 | exact lpos5 | exact lpos6)
    · rw [if_neg t2] at hw ⊢
      by_cases ab : a = b
      · rw [if_pos ab] at hw ⊢
        unfold F_X2_playDeeds
        rw [if_neg (by decide)]
        exact aok_no hw (by first | exact lpos1 | exact lpos2 | exact lpos3 | exact lpos4 | exact lpos5 | exact lpos6)
      · rw [if_neg ab] at hw ⊢
        obtain ⟨c, hc, rfl⟩ := vp_in_of (there_in rfl t) (by decide)
        obtain ⟨e, he, rfl⟩ := vp_in_of (there_in rfl t2) (by decide)
        have hb := there_yes hc t
        have hb2 := there_yes he t2
        have hce : e ≠ c := fun q => ab (by rw [q])
        rw [nI_clamp (n := c) (by omega), nI_clamp (n := e) (by omega)] at hw ⊢
        obtain ⟨⟨b1, b2, b3⟩, ⟨b4, b5, b6⟩, b7, b8⟩ := cr_pc hC hc hb
        obtain ⟨⟨d1, d2, d3⟩, ⟨d4, d5, d6⟩, d7, d8⟩ := cr_pc hC he hb2
        rw [b2, d2] at hw
        by_cases r : kRight kT c = 24
        · rw [if_pos r] at hw ⊢
          unfold F_X2_playDeeds
          rw [if_neg (by decide)]
          exact aok_no hw (by first | exact lpos1 | exact lpos2 | exact lpos3 | exact lpos4 | exact lpos5 | exact lpos6)
        · rw [if_neg r] at hw ⊢
          by_cases r2 : kRight kT e = 24
          · rw [if_pos r2] at hw ⊢
            unfold F_X2_playDeeds
            rw [if_neg (by decide)]
            exact aok_no hw (by first | exact lpos1 | exact lpos2 | exact lpos3 | exact lpos4 | exact lpos5 | exact lpos6)
          · rw [if_neg r2] at hw ⊢
            by_cases r3 : kRight kT c = kRight kT e
            · rw [if_pos r3] at hw ⊢
              unfold F_X2_playDeeds
              rw [if_pos rfl, bnd_def]
              obtain ⟨dy', kT', g1, g2, g3, g4, g5, g6, g7, g8⟩ := add_deed hC hD (by omega) hc hb r
              rw [g1, if_neg (fun q => ab q.symm), bnd_def]
              obtain ⟨dy2, kT2, f1, f2, f3, f4, f5, f6, f7, f8⟩ := add_deed g2 g3 (by omega) he (by rw [g7]; exact hb2) (by rw [g8 e he hce]; exact r2)
              have eh : F_X6_happen lv dd 4 (nI c) (nI e) h = F_X6_doDeed (F_X6_doDeed lv dd (nI c)).1 (F_X6_doDeed lv dd (nI c)).2 (nI e) := by
                unfold F_X6_happen
                rw [if_neg (by decide), if_neg (by decide), if_neg (by decide), if_neg (by decide), if_pos rfl, bnd_def, bnd_def]
              refine ⟨hw.symm, Or.inl rfl, ?_, ?_, ?_, fun e => absurd rfl e, fun _ => ?_⟩
              · show dActs (F_X2_addDeed dy' kT' (nI e)).1 = _
                rw [f1, f4, g4]
              · show dStoppedAct (F_X2_addDeed dy' kT' (nI e)).1 = _
                rw [f1, f5, g5]
              · show dStoppedWhy (F_X2_addDeed dy' kT' (nI e)).1 = _
                rw [f1, f6, g6]
              · show CR (F_X2_addDeed dy' kT' (nI e)).2 _ ∧ DR (F_X2_addDeed dy' kT' (nI e)).1 _ _
                rw [eh, nd0.2.2.2.2.1, f1]
                exact ⟨f2, f3⟩
            · rw [if_neg r3] at hw ⊢
              unfold F_X2_playDeeds
              rw [if_neg (by decide)]
              exact aok_no hw (by first | exact lpos1 | exact lpos2 | exact lpos3 | exact lpos4 | exact lpos5 | exact lpos6)
theorem a_give (hC : CR kT lv) (hD : DR dy dd m) (a b : Int32) {x : Nat} (hx : x < 24) : AOK dy kT lv dd m 5 a b (nI x) (bnd (F_X1_give kT a b (nI x)) (fun z => (z.1, dy, z.2))) := by
  have hw := wn_5 lv a b (nI x)
  unfold F_X6_whyNotTwo at hw
  simp only [bnd_def] at hw
  rw [thereEq (cr_cts hC), thereEq (cr_cts hC), if_pos trivial, ownsEq hC a (vp_in_nI hx (by decide)), ownsEq hC b (vp_in_nI hx (by decide))] at hw
  unfold F_X1_give F_X1_whyNotGiven
  simp only [bnd_def]
  by_cases t : F_X1_isThere kT a = 0
  · rw [if_pos t] at hw ⊢
    rw [if_neg h10]
    exact aok_no hw (by first | exact lpos1 | exact lpos2 | exact lpos3 | exact lpos4 | exact lpos5 | exact lpos6)
  · rw [if_neg t] at hw ⊢
    by_cases t2 : F_X1_isThere kT b = 0
    · rw [if_pos t2] at hw ⊢
      rw [if_neg h10]
      exact aok_no hw (by first | exact lpos1 | exact lpos2 | exact lpos3 | exact lpos4 | exact lpos5 | exact lpos6)
    · rw [if_neg t2] at hw ⊢
      by_cases ab : a = b
      · rw [if_pos ab] at hw ⊢
        rw [if_neg (by decide)]
        exact aok_no hw (by first | exact lpos1 | exact lpos2 | exact lpos3 | exact lpos4 | exact lpos5 | exact lpos6)
      · rw [if_neg ab] at hw ⊢
        by_cases o : F_X1_owns kT a (nI x) = 0
        · rw [if_pos o] at hw ⊢
          rw [if_neg (by decide)]
          exact aok_no hw (by first | exact lpos1 | exact lpos2 | exact lpos3 | exact lpos4 | exact lpos5 | exact lpos6)
        · rw [if_neg o] at hw ⊢
          by_cases o2 : F_X1_owns kT b (nI x) = 0
          · rw [if_pos o2] at hw ⊢
            rw [if_pos rfl, if_neg o, if_neg t2]
            obtain ⟨c, hc, rfl⟩ := vp_in_of (there_in rfl t) (by decide)
            obtain ⟨e, he, rfl⟩ := vp_in_of (there_in rfl t2) (by decide)
            have hb := there_yes hc t
            have hb2 := there_yes he t2
            have hce : e ≠ c := fun q => ab (by rw [q])
            have hox := own_yes hc hx o
            have ei : ∀ y, y < 6 → (nI y * (24 : Int32) + nI x).toNatClampNeg = 24 * y + x := fun y hy => by
              rw [show (24 : Int32) = nI 24 from rfl, pk_mul, nI_add, nI_clamp (by omega)]
              omega
            rw [ei e he, ei c hc, nI_clamp (n := e) (by omega)]
            have eh : F_X6_happen lv dd 5 (nI c) (nI e) (nI x) = (F_X6_lend lv (nI c) (nI e) (nI x), dd) := by
              unfold F_X6_happen
              rw [if_neg (by decide), if_neg (by decide), if_neg (by decide), if_neg (by decide), if_neg (by decide), if_pos rfl, bnd_def]
            have el : F_X6_lend lv (nI c) (nI e) (nI x) = (vCourtiers lv, vClock lv, vTears lv, upd (vLeft lv) c (if vLeft lv c = nI x then 24 else vLeft lv c), upd (vRight lv) c (if vRight lv c = nI x then 24 else vRight lv c), vScandals lv, upd (upd (vWearOf lv) (24 * c + x) (-6)) (24 * e + x) (vWearOf lv (24 * c + x))) := by
              unfold F_X6_lend
              rw [bnd_def, bnd_def, bnd_def, lose6 lv hc hx, at_nI, at_nI, nI_clamp (n := 24 * c + x) (by omega), nI_clamp (n := 24 * e + x) (by omega)]
            obtain ⟨w1, w2⟩ := ((cr_pc hC hc hb).2.2.2 x hx).1 hox
            obtain ⟨⟨d1, d2, d3⟩, ⟨d4, d5, d6⟩, d7, d8⟩ := cr_pc hC he hb2
            have hd5 := vp_in_iff.mp d5
            have s1 : CR (kPresent kT, kClock kT, kTears kT, kSights kT, kHoursSeen kT, kHoursNotOwned kT, upd (kPairs kT) e (kPairs kT e ||| ((1 : Int32) <<< (nI x &&& 31))), kLeft kT, kRight kT, kScandals kT, upd (kWears kT) (24 * e + x) (kWears kT (24 * c + x))) (vCourtiers lv, vClock lv, vTears lv, vLeft lv, vRight lv, vScandals lv, upd (vWearOf lv) (24 * e + x) (vWearOf lv (24 * c + x))) := by
              refine cr_one hC he hb2 rfl rfl rfl rfl rfl rfl (fun y hy z => ⟨pk_un z, rfl, rfl, rfl, fun h hh => pk_un (by omega)⟩) (fun y hy z => ⟨rfl, rfl, rfl, fun h hh => pk_un (by omega)⟩) ⟨⟨d1, d2, d3⟩, ⟨d4, d5, d6⟩, fun n => ?_, fun h hh => ?_⟩ ?_
              · show bt (upd (kPairs kT) e _ e) (kRight kT e).toNatClampNeg = true
                have hcl : (kRight kT e).toNatClampNeg = (kRight kT e).toInt.toNat := rfl
                rw [pk_us, come_bits (by omega) (by omega), d7 n]
                rfl
              · show (bt (upd (kPairs kT) e _ e) h = true → upd (vWearOf lv) (24 * e + x) _ (24 * e + h) = upd (kWears kT) (24 * e + x) _ (24 * e + h) ∧ vp_in (upd (kWears kT) (24 * e + x) _ (24 * e + h)) 20) ∧ (bt (upd (kPairs kT) e _ e) h = false → upd (vWearOf lv) (24 * e + x) _ (24 * e + h) = -6)
                rw [pk_us, come_bits (by omega) (by omega)]
                by_cases z : h = x
                · rw [z, pk_us, pk_us, decide_eq_true (show x = x from rfl), Bool.or_true]
                  exact ⟨fun _ => ⟨w1, w2⟩, fun q => absurd q (by decide)⟩
                · rw [pk_un (by omega), pk_un (by omega), decide_eq_false (fun q => z q.symm), Bool.or_false]
                  exact d8 h hh
              · show vp_in (upd (kPairs kT) e _ e) 16777216
                rw [pk_us]
                refine bt_in (k := 24) (by decide) (fun i h6 hi => ?_)
                rw [come_bits (by omega) hi, bt_small (k := 24) (hC.2.2.2.2.2.1 e he) (by decide) h6, decide_eq_false (by omega)]
                rfl
            refine ⟨hw.symm, Or.inl rfl, rfl, rfl, rfl, fun q => absurd rfl q, fun _ => ?_⟩
            rw [eh, el]
            refine ⟨?_, hD⟩
            show CR (F_X1_losePair _ (nI c) (nI x)) _
            rw [lose1 _ hc]
            refine cr_lose (x := x) s1 hc hx hb rfl rfl rfl rfl rfl rfl rfl rfl rfl rfl (fun _ _ => rfl) rfl rfl rfl ?_ (fun j hj => ?_)
            · show upd (upd (vWearOf lv) (24 * c + x) (-6)) (24 * e + x) _ (24 * c + x) = -6
              rw [pk_un (by omega), pk_us]
            · show upd (upd (vWearOf lv) (24 * c + x) (-6)) (24 * e + x) _ j = upd (vWearOf lv) (24 * e + x) _ j
              by_cases z : j = 24 * e + x
              · rw [z, pk_us, pk_us]
              · rw [pk_un z, pk_un z, pk_un hj]
          · rw [if_neg o2] at hw ⊢
            rw [if_neg (by decide)]
            exact aok_no hw (by first | exact lpos1 | exact lpos2 | exact lpos3 | exact lpos4 | exact lpos5 | exact lpos6)
end D3
