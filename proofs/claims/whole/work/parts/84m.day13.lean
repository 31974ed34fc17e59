/-! reign -/
theorem y_cls {x : Nat} (hx : x ≤ 65536) : ((75 : Int32) * nI x + (74 : Int32)) - ((75 : Int32) * nI x + (74 : Int32)) / (65537 : Int32) * (65537 : Int32) = nI ((75 * x + 74) % 65537) := by
  rw [show (75 : Int32) = nI 75 from rfl, show (74 : Int32) = nI 74 from rfl, show (65537 : Int32) = nI 65537 from rfl, pk_mul, nI_add, pk_rem (by omega) (by decide) (by decide)]
theorem y_ref {x : Nat} (hx : x ≤ 65536) : (((75 : Int64) * (nI x).toInt64 + (74 : Int64)) - ((75 : Int64) * (nI x).toInt64 + (74 : Int64)) / (65537 : Int64) * (65537 : Int64)).toInt32 = nI ((75 * x + 74) % 65537) := by
  rw [nI_l (by omega), show (75 : Int64) = lN 75 from rfl, show (74 : Int64) = lN 74 from rfl, show (65537 : Int64) = lN 65537 from rfl, lN_mul, lN_add, pk_lRem (by omega) (by decide) (by decide), lN_i]
def RG (lv0 : LV) (c : Int32 × DS × KS) (g : Int32 × LV × DD) : Prop := ∃ m, CR c.2.2 g.2.1 ∧ DR c.2.1 g.2.2 m ∧ vCourtiers g.2.1 = vCourtiers lv0 ∧ vTears g.2.1 = vTears lv0
theorem rg_n {M : Nat} (hM : M ≤ 99) {lv0 : LV} : ∀ (n i x m : Nat) (dy : DS) (kT : KS) (lv : LV) (dd : DD), i ≤ M → M < i + n → x ≤ 65536 → CR kT lv → DR dy dd m → m ≤ i → vCourtiers lv = vCourtiers lv0 ∧ vTears lv = vTears lv0 → RG lv0 (L_X2_playDraws_11 (nI M) n i (nI x) dy kT) (L_X6_reign_57 (nI M) n i (nI x) lv dd) := by
  intro n
  induction n with
  | zero => intro i x m dy kT lv dd h1 h2; omega
  | succ n ih =>
    intro i x m dy kT lv dd h1 h2 hx hC hD hm hct
    rw [L_X2_playDraws_11_s, L_X6_reign_57_s, y_cls hx, y_ref hx]
    by_cases q : i = M
    · rw [q, if_pos (Int32.le_refl _), if_pos (Int32.le_refl _)]
      exact ⟨m, hC, hD, hct⟩
    · rw [if_neg (nI_ge (by omega) (by omega)), if_neg (nI_ge (by omega) (by omega))]
      have hy : (75 * x + 74) % 65537 < 65537 := Nat.mod_lt _ (by decide)
      revert hy
      generalize (75 * x + 74) % 65537 = y
      intro hy
      have h24 : nI y / (24 : Int32) - nI y / (24 : Int32) / (24 : Int32) * (24 : Int32) = nI (y / 24 % 24) := by
        have := Nat.div_le_self y 24
        rw [show (24 : Int32) = nI 24 from rfl, pk_div (by omega) (by decide) (by decide), pk_rem (by omega) (by decide) (by decide)]
      have hh : y / 24 % 24 < 24 := Nat.mod_lt _ (by decide)
      have go : ∀ (w : Int32) (z : Int32 × DS × KS), ndOf w ≤ 1 → AOK dy kT lv dd m w (nI y - nI y / (6 : Int32) * (6 : Int32)) 0 (nI (y / 24 % 24)) z → RG lv0 (L_X2_playDraws_11 (nI M) n (i + 1) (nI y) z.2.1 z.2.2) (if F_X6_whyNot lv w (nI y - nI y / (6 : Int32) * (6 : Int32)) 0 (nI (y / 24 % 24)) = 0 then L_X6_reign_57 (nI M) n (i + 1) (nI y) (F_X6_happen lv dd w (nI y - nI y / (6 : Int32) * (6 : Int32)) 0 (nI (y / 24 % 24))).1 (F_X6_happen lv dd w (nI y - nI y / (6 : Int32) * (6 : Int32)) 0 (nI (y / 24 % 24))).2 else L_X6_reign_57 (nI M) n (i + 1) (nI y) lv dd) := by
        intro w z hw hz
        obtain ⟨b1, b2, b3, b4, b5, b6, b7⟩ := hz
        rw [← b1]
        by_cases z0 : z.1 = 0
        · rw [if_pos z0]
          obtain ⟨c1, c2⟩ := b7 z0
          have hc2 := happen_ct lv dd w (nI y - nI y / (6 : Int32) * (6 : Int32)) 0 (nI (y / 24 % 24))
          exact ih (i + 1) y (m + ndOf w) _ _ _ _ (by omega) (by omega) (by omega) c1 c2 (by omega) ⟨hc2.1.trans hct.1, hc2.2.trans hct.2⟩
        · rw [if_neg z0, b6 z0]
          exact ih (i + 1) y m _ _ _ _ (by omega) (by omega) (by omega) hC hD (by omega) hct
      rw [bnd_def, bnd_def]
      unfold F_X2_playDraw
      simp only [bnd_def]
      rw [h24]
      generalize nI y / (6 : Int32) - nI y / (6 : Int32) / (4 : Int32) * (4 : Int32) = kd
      by_cases k0 : kd = 0
      · have a := a_hour hC hD (nI y - nI y / (6 : Int32) * (6 : Int32)) 0 (nI (y / 24 % 24))
        rw [bnd_def] at a
        rw [if_pos k0, if_pos k0]
        exact go 6 _ (by decide) a
      · rw [if_neg k0, if_neg k0]
        by_cases k1 : kd = 1
        · have a := a_right hC hD (nI y - nI y / (6 : Int32) * (6 : Int32)) 0 hh
          rw [bnd_def] at a
          rw [if_pos k1, if_pos k1]
          exact go 1 _ (by decide) a
        · rw [if_neg k1, if_neg k1]
          by_cases k2 : kd = 2
          · have a := a_left hC hD (nI y - nI y / (6 : Int32) * (6 : Int32)) 0 hh
            rw [bnd_def] at a
            rw [if_pos k2, if_pos k2]
            exact go 0 _ (by decide) a
          · have a := a_deed hC hD (by omega) (nI y - nI y / (6 : Int32) * (6 : Int32)) 0 (nI (y / 24 % 24))
            rw [bnd_def, bnd_def] at a
            rw [if_neg k2, if_neg k2]
            exact go 3 _ (by decide) a
theorem sc_n {k : KS} {w : Int32 × LV × DD} (hC : CR k w.2.1) : ∀ (n i : Nat) (v : Int32), i ≤ 6 → 6 < i + n → L_X1_scandalsTogether_4 k n i v = L_X6_reign_176 w n i v := by
  intro n
  induction n with
  | zero => intro i v h1 h2; omega
  | succ n ih =>
    intro i v h1 h2
    rw [L_X1_scandalsTogether_4_s, L_X6_reign_176_s]
    by_cases q : i = 6
    · rw [q, if_pos (show (6 : Int32) ≤ nI 6 by decide), if_pos (show (6 : Int32) ≤ nI 6 by decide)]
    · rw [if_neg (n_ge6 (by omega)), if_neg (n_ge6 (by omega)), bnd_def, bnd_def, thereEq (cr_cts hC), nI_clamp (n := i) (by omega)]
      by_cases t : F_X1_isThere k (nI i) = 0
      · rw [if_pos t, if_pos t, Int32.add_zero]
        exact ih (i + 1) v (by omega) (by omega)
      · rw [if_neg t, if_neg t, (cr_pc hC (show i < 6 by omega) (there_yes (by omega) t)).1.2.2]
        exact ih (i + 1) _ (by omega) (by omega)
section D13
variable {gg : GS} {k kE kF : KS} {pp : PS} {lv : LV} {sg : SG} {pd : PD} {kp : KP}
theorem api_reign {dy : DS} {kT : KS} {dd : DD} {hd : HD} {xs xm xw : Int32} {r1 r2 : Int32} {u1 : DS × KS} {u2 : LV × DD × HD} (hrel : REL gg k kE kF pp lv sg pd kp) (e1 : F_X5_reign k dy kT xs xm xw = (r1, u1)) (e2 : F_X6_reign lv dd hd xs xm xw = (r2, u2)) : r1 = r2 ∧ REL gg k kE kF pp u2.1 sg pd kp := by
  have hC := hrel.1
  unfold F_X5_reign at e1
  unfold F_X6_reign at e2
  rw [bnd_def] at e1 e2
  rw [inW (a := 0) (b := 9999) (by decide) (by decide)] at e2
  by_cases w1 : F_X5_isWithin xs 0 9999 = 0
  · rw [if_pos w1] at e1 e2
    cases e1
    cases e2
    exact ⟨rfl, hrel⟩
  · rw [if_neg w1, bnd_def] at e1 e2
    rw [inW (a := 1) (b := 99) (by decide) (by decide)] at e2
    by_cases w2 : F_X5_isWithin xm 1 99 = 0
    · rw [if_pos w2] at e1 e2
      cases e1
      cases e2
      exact ⟨rfl, hrel⟩
    · rw [if_neg w2, bnd_def] at e1 e2
      rw [inW (a := 0) (b := 2) (by decide) (by decide)] at e2
      by_cases w3 : F_X5_isWithin xw 0 2 = 0
      · rw [if_pos w3] at e1 e2
        cases e1
        cases e2
        exact ⟨rfl, hrel⟩
      · rw [if_neg w3, bnd_def] at e1 e2
        obtain ⟨s, hs, rfl⟩ := vp_in_of (wi_in (n := 10000) rfl w1 (by decide)) (by decide)
        obtain ⟨x, hx, rfl⟩ := vp_in_of (wi_in (n := 3) rfl w3 (by decide)) (by decide)
        obtain ⟨M, hM, rfl⟩ : ∃ M : Nat, M ≤ 99 ∧ xm = nI M := by
          have z1 : (1 : Int32).toInt = 1 := rfl
          have z99 : (99 : Int32).toInt = 99 := rfl
          have y := wi_iff w2
          rw [z1, z99] at y
          obtain ⟨j, hj, rfl⟩ := nI_nn (show (0 : Int) ≤ xm.toInt by omega)
          rw [nI_toInt hj] at y
          exact ⟨j, by omega, rfl⟩
        have run : RG lv (L_X2_playDraws_11 (nI M) (M + 1) 0 (nI s) (F_X2_begin dy kT k).1 (F_X2_begin dy kT k).2) (L_X6_reign_57 (nI M) (M + 1) 0 (nI s) lv (F_X6_beginCount dd)) := by
          unfold F_X2_begin F_X6_beginCount
          rw [bnd_def]
          exact rg_n hM (M + 1) 0 s 0 _ _ lv _ (Nat.zero_le _) (by omega) (by omega) (cr_cong hC (copy_ag kT k) (agL_r lv)) ⟨rfl, rfl, by omega, rfl, Or.inl ⟨rfl, fun j hj => absurd hj (Nat.not_lt_zero j)⟩, fun _ j hj => absurd hj (Nat.not_lt_zero j)⟩ (Nat.zero_le _) ⟨rfl, rfl⟩
        unfold F_X2_playDraws at e1
        rw [bnd_def, bnd_def, bnd_def, nI_clamp (n := M) (by omega)] at e1
        rw [bnd_def, bnd_def, bnd_def, bnd_def, nI_clamp (n := M) (by omega)] at e2
        revert e1 e2 run
        generalize L_X2_playDraws_11 (nI M) (M + 1) 0 (nI s) (F_X2_begin dy kT k).1 (F_X2_begin dy kT k).2 = c
        generalize L_X6_reign_57 (nI M) (M + 1) 0 (nI s) lv (F_X6_beginCount dd) = g
        intro e1 e2 run
        obtain ⟨m, a1, a2, a3⟩ := run
        have back : REL gg k kE kF pp (F_X6_lay_had g.2.1 (F_X6_store_had lv hd)) sg pd kp := ⟨cr_cong hC (agK_r k) (lay_back a3), hrel.2⟩
        have hx3 : x = 0 ∨ x = 1 ∨ x = 2 := by omega
        rcases hx3 with rfl | rfl | rfl
        · rw [if_neg (by decide), if_pos (by decide)] at e1
          rw [if_pos (by decide)] at e2
          cases e1
          cases e2
          refine ⟨?_, back⟩
          show dDeeds c.2.1 = eDeeds g.2.2
          rw [a2.1, a2.2.1]
        · rw [if_neg (by decide), if_neg (by decide), bnd_def] at e1
          rw [if_neg (by decide), if_pos (by decide)] at e2
          cases e1
          cases e2
          exact ⟨count_late a2, back⟩
        · rw [if_pos (by decide)] at e1
          rw [if_neg (by decide), if_neg (by decide)] at e2
          cases e1
          cases e2
          refine ⟨?_, back⟩
          unfold F_X1_scandalsTogether
          rw [bnd_def]
          exact sc_n a1 7 0 0 (by decide) (by decide)
end D13
