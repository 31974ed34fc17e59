/-! the deeds of a day, side by side -/
def lateCnt (f g : Nat → Int32) : Nat → Nat
  | 0 => 0
  | j + 1 => lateCnt f g j + if f j = g j then 0 else 1
theorem lateCnt_cong {f g f' g' : Nat → Int32} : ∀ (m : Nat), (∀ j, j < m → f' j = f j ∧ g' j = g j) → lateCnt f' g' m = lateCnt f g m := by
  intro m
  induction m with
  | zero => intro _; rfl
  | succ m ih =>
    intro h
    show lateCnt f' g' m + (if f' m = g' m then 0 else 1) = lateCnt f g m + if f m = g m then 0 else 1
    rw [ih (fun j hj => h j (by omega)), (h m (by omega)).1, (h m (by omega)).2]
theorem lateCnt_le (f g : Nat → Int32) : ∀ m, lateCnt f g m ≤ m := by
  intro m
  induction m with
  | zero => exact Nat.le_refl _
  | succ m ih =>
    show lateCnt f g m + (if f m = g m then 0 else 1) ≤ m + 1
    split <;> omega
def DR (dy : DS) (dd : DD) (m : Nat) : Prop := dDeeds dy = nI m ∧ eDeeds dd = nI m ∧ m ≤ 99 ∧ eLateMany dd = nI (lateCnt (dDeedHours dy) (dDeedClocks dy) m) ∧ ((eFirstLate dd = -6 ∧ ∀ j, j < m → dDeedHours dy j = dDeedClocks dy j) ∨ ∃ i, i < m ∧ eFirstLate dd = nI i ∧ ¬ dDeedHours dy i = dDeedClocks dy i ∧ ∀ j, j < i → dDeedHours dy j = dDeedClocks dy j) ∧ (m ≤ 60 → ∀ j, j < m → eDeedHour dd j = dDeedHours dy j ∧ eDeedClock dd j = dDeedClocks dy j ∧ eDeedWho dd j = dDeedCourtiers dy j)
theorem dr_cong {dy dy' : DS} {dd : DD} {m : Nat} (h : DR dy dd m) (h1 : dDeeds dy' = dDeeds dy) (h2 : dDeedHours dy' = dDeedHours dy) (h3 : dDeedClocks dy' = dDeedClocks dy) (h4 : dDeedCourtiers dy' = dDeedCourtiers dy) : DR dy' dd m := by
  unfold DR at h ⊢
  rw [h1, h2, h3, h4]
  exact h
theorem add_deed {dy : DS} {dd : DD} {kT : KS} {lv : LV} {m c : Nat} (hC : CR kT lv) (hD : DR dy dd m) (hm : m < 99) (hc : c < 6) (hb : bt (kPresent kT) c = true) (hr : ¬ kRight kT c = 24) : ∃ dy' kT', F_X2_addDeed dy kT (nI c) = (dy', kT') ∧ CR kT' (F_X6_doDeed lv dd (nI c)).1 ∧ DR dy' (F_X6_doDeed lv dd (nI c)).2 (m + 1) ∧ dActs dy' = dActs dy ∧ dStoppedAct dy' = dStoppedAct dy ∧ dStoppedWhy dy' = dStoppedWhy dy ∧ kPresent kT' = kPresent kT ∧ ∀ x, x < 6 → x ≠ c → kRight kT' x = kRight kT x := by
  obtain ⟨d1, d2, d3, d4, d5, d6⟩ := hD
  obtain ⟨⟨b1, b2, b3⟩, ⟨b4, b5, b6⟩, b7, b8⟩ := cr_pc hC hc hb
  obtain ⟨x, hx, ex⟩ := vp_in_of b5 (by decide)
  have hx24 : x < 24 := by
    rcases Nat.lt_or_ge x 24 with q | q
    · exact q
    · have : x = 24 := by omega
      rw [this] at ex
      exact absurd ex hr
  have z0 : (0 : Int32).toInt = 0 := rfl
  have z98 : (98 : Int32).toInt = 98 := rfl
  have hth : F_X1_isThere kT (nI c) = 1 := by rw [there_nI hc, if_pos hb]
  have eR : F_X1_rightOf kT (nI c) = nI x := by
    unfold F_X1_rightOf
    rw [bnd_def, hth, if_neg h10, nI_clamp (by omega), ex]
  have eA : F_X2_addDeed dy kT (nI c) = ((dActs dy, nI (m + 1), dStoppedAct dy, dStoppedWhy dy, upd (dDeedHours dy) m (nI x), upd (dDeedClocks dy) m (kClock kT), upd (dDeedCourtiers dy) m (nI c), dLongestFrom dy), F_X1_usePair kT (nI c) (nI x)) := by
    unfold F_X2_addDeed
    rw [bnd_def, d1, wi_yes (by rw [z0, z98, nI_toInt (by omega)]; omega), if_neg h10, bnd_def, bnd_def, eR, nI_clamp (n := m) (by omega), show (1 : Int32) = nI 1 from rfl, nI_add]
  have hvr : vp_in (vRight lv c) 24 := by rw [b2, ex]; exact vp_in_nI hx24 (by decide)
  have hvr' : vRight lv c = nI x := by rw [b2, ex]
  have e60 : (eDeeds dd - eDeeds dd / 60 * 60).toNatClampNeg = m % 60 := by
    rw [d2, show (60 : Int32) = nI 60 from rfl, pk_rem (by omega) (by decide) (by decide), nI_clamp (by omega)]
  refine ⟨_, _, eA, ?_, ?_, rfl, rfl, rfl, ?_, ?_⟩
  · rw [ddEq lv dd hc hvr]
    exact cr_use hC hc hx24 hb ex
  · rw [ddEq lv dd hc hvr]
    have old : ∀ j, j < m → upd (dDeedHours dy) m (nI x) j = dDeedHours dy j ∧ upd (dDeedClocks dy) m (kClock kT) j = dDeedClocks dy j := fun j hj => ⟨pk_un (by omega), pk_un (by omega)⟩
    unfold ddD
    rw [hvr', hC.2.1.1, e60]
    refine ⟨rfl, ?_, by omega, ?_, ?_, fun h60 j hj => ?_⟩
    · show eDeeds dd + 1 = _
      rw [d2, show (1 : Int32) = nI 1 from rfl, nI_add]
    · show eLateMany dd + (if nI x = kClock kT then 0 else 1) = nI (lateCnt (upd (dDeedHours dy) m (nI x)) (upd (dDeedClocks dy) m (kClock kT)) m + if upd (dDeedHours dy) m (nI x) m = upd (dDeedClocks dy) m (kClock kT) m then 0 else 1)
      rw [lateCnt_cong m old, pk_us, pk_us, d4]
      by_cases e : nI x = kClock kT
      · rw [if_pos e, if_pos e, Int32.add_zero, Nat.add_zero]
      · rw [if_neg e, if_neg e, show (1 : Int32) = nI 1 from rfl, nI_add]
    · show ((if 0 ≤ eFirstLate dd then eFirstLate dd else if nI x = kClock kT then eFirstLate dd else eDeeds dd) = -6 ∧ ∀ j, j < m + 1 → upd (dDeedHours dy) m (nI x) j = upd (dDeedClocks dy) m (kClock kT) j) ∨ ∃ i, i < m + 1 ∧ (if 0 ≤ eFirstLate dd then eFirstLate dd else if nI x = kClock kT then eFirstLate dd else eDeeds dd) = nI i ∧ ¬ upd (dDeedHours dy) m (nI x) i = upd (dDeedClocks dy) m (kClock kT) i ∧ ∀ j, j < i → upd (dDeedHours dy) m (nI x) j = upd (dDeedClocks dy) m (kClock kT) j
      rcases d5 with ⟨f1, f2⟩ | ⟨i, hi, f1, f2, f3⟩
      · rw [f1, if_neg (show ¬ (0 : Int32) ≤ -6 by decide)]
        by_cases e : nI x = kClock kT
        · rw [if_pos e]
          refine Or.inl ⟨rfl, fun j hj => ?_⟩
          by_cases q : j = m
          · rw [q, pk_us, pk_us, e]
          · rw [(old j (by omega)).1, (old j (by omega)).2]
            exact f2 j (by omega)
        · rw [if_neg e]
          refine Or.inr ⟨m, by omega, d2, by rw [pk_us, pk_us]; exact e, fun j hj => ?_⟩
          rw [(old j hj).1, (old j hj).2]
          exact f2 j hj
      · rw [f1, if_pos (nI_pos' (by omega))]
        refine Or.inr ⟨i, by omega, rfl, ?_, fun j hj => ?_⟩
        · rw [(old i hi).1, (old i hi).2]
          exact f2
        · rw [(old j (by omega)).1, (old j (by omega)).2]
          exact f3 j hj
    · show upd (eDeedHour dd) (m % 60) (nI x) j = upd (dDeedHours dy) m (nI x) j ∧ upd (eDeedClock dd) (m % 60) (kClock kT) j = upd (dDeedClocks dy) m (kClock kT) j ∧ upd (eDeedWho dd) (m % 60) (nI c) j = upd (dDeedCourtiers dy) m (nI c) j
      rw [show m % 60 = m by omega]
      by_cases q : j = m
      · rw [q, pk_us, pk_us, pk_us, pk_us, pk_us, pk_us]
        exact ⟨rfl, rfl, rfl⟩
      · rw [pk_un q, pk_un q, pk_un q, pk_un q, pk_un q, pk_un q]
        exact d6 (by omega) j (by omega)
  · unfold F_X1_usePair
    rw [bnd_def]
    split
    · rfl
    · split
      · rfl
      · rw [bnd_def, lose1 _ hc]
  · intro y hy e
    unfold F_X1_usePair
    rw [bnd_def]
    split
    · rfl
    · split
      · rfl
      · rw [bnd_def, lose1 _ hc]
        exact pk_un e
/-! the hour passes -/
theorem ph_n {cl : Nat} (hcl : cl < 24) : ∀ (n i : Nat) (k : KS) (lv : LV), i ≤ 6 → 6 < i + n → CR k lv → kClock k = nI cl → CR (L_X1_passHour_2 n i k) (L_X6_passHour_2 n i lv) ∧ kClock (L_X1_passHour_2 n i k) = nI cl ∧ vClock (L_X6_passHour_2 n i lv) = nI cl := by
  intro n
  induction n with
  | zero => intro i k lv h1 h2; omega
  | succ n ih =>
    intro i k lv h1 h2 hC hk
    rw [L_X1_passHour_2_s, L_X6_passHour_2_s]
    by_cases q : i = 6
    · rw [if_pos (n_eq6 q), if_pos (n_eq6 q)]
      exact ⟨hC, hk, by rw [hC.2.1.1, hk]⟩
    · have hi : i < 6 := by omega
      rw [if_neg (n_ge6 hi), if_neg (n_ge6 hi)]
      simp only [bnd_def]
      have ci : (nI i).toNatClampNeg = i := nI_clamp (by omega)
      rw [thereEq (cr_cts hC), properEq hC, ci, if_pos trivial, Int32.add_zero, upd_id]
      by_cases t : F_X1_isThere k (nI i) = 0
      · rw [if_pos t, if_pos t]
        exact ih (i + 1) k lv (by omega) (by omega) hC hk
      · rw [if_neg t, if_neg t]
        have hb := there_yes hi t
        have hP := cr_pc hC hi hb
        obtain ⟨⟨b1, b2, b3⟩, ⟨b4, b5, b6⟩, b7, b8⟩ := hP
        by_cases p : F_X1_isProper k (nI i) = 0
        · rw [if_pos p, if_pos p, b3]
          by_cases s : (99 : Int32) ≤ kScandals k i
          · rw [if_pos s, if_pos s]
            exact ih (i + 1) k lv (by omega) (by omega) hC hk
          · rw [if_neg s, if_neg s]
            have hs := vp_in_iff.mp b6
            have z99 : (99 : Int32).toInt = 99 := rfl
            rw [Int32.le_iff_toInt_le, z99] at s
            have h10' : ((1 : Int32) = 0) = False := eq_false h10
            try rw [if_neg h10]
            refine ih (i + 1) _ _ (by omega) (by omega) ?_ hk
            refine cr_one hC hi hb rfl rfl rfl rfl rfl rfl (fun y hy e => ⟨rfl, rfl, rfl, pk_un e, fun _ _ => rfl⟩) (fun y hy e => ⟨rfl, rfl, pk_un e, fun _ _ => rfl⟩) ⟨⟨b1, b2, ?_⟩, ⟨b4, b5, ?_⟩, b7, b8⟩ (hC.2.2.2.2.2.1 i hi)
            · show upd (vScandals lv) i _ i = upd (kScandals k) i _ i
              rw [pk_us, pk_us]
            · show vp_in (upd (kScandals k) i _ i) 100
              rw [pk_us, vp_in_iff, i_add1 (by omega) (by omega)]
              omega
        · rw [if_neg p, if_neg p]
          exact ih (i + 1) k lv (by omega) (by omega) hC hk
theorem cr_clock {k : KS} {lv : LV} {c : Int32} (hC : CR k lv) (hc : vp_in c 24) : CR (kPresent k, c, kTears k, kSights k, kHoursSeen k, kHoursNotOwned k, kPairs k, kLeft k, kRight k, kScandals k, kWears k) (vCourtiers lv, c, vTears lv, vLeft lv, vRight lv, vScandals lv, vWearOf lv) := by
  obtain ⟨a1, a3, a4, a5, a6, a7, a8⟩ := hC
  exact ⟨a1, ⟨rfl, hc⟩, a4, a5, a6, a7, a8⟩
theorem clock_next : ∀ c, c < 24 → (nI c + (1 : Int32)) - (nI c + (1 : Int32)) / (24 : Int32) * (24 : Int32) = if nI c = (23 : Int32) then 0 else nI c + 1 := by decide +kernel
theorem clock_in : ∀ c, c < 24 → c ≠ 23 → nI c + 1 = nI (c + 1) := fun c _ _ => nI_add c 1
theorem pass_hour {k : KS} {lv : LV} (hC : CR k lv) : CR (F_X1_passHour k) (F_X6_passHour lv) := by
  obtain ⟨cl, hcl, ecl⟩ := vp_in_of hC.2.1.2 (by decide)
  obtain ⟨g1, g2, g3⟩ := ph_n hcl (6 + 1) 0 k lv (by omega) (by omega) hC ecl
  unfold F_X1_passHour F_X6_passHour
  rw [bnd_def, bnd_def, g2, g3, clock_next cl hcl]
  by_cases e : cl = 23
  · rw [if_pos (by rw [e]; rfl), if_pos (by rw [e]; rfl)]
    exact cr_clock g1 (in_0 (by decide))
  · have ne : ¬ nI cl = (23 : Int32) := fun q => e ((nI_eq (b := 23) (by omega) (by decide)).mp q)
    rw [if_neg ne, if_neg ne, clock_in cl hcl e]
    exact cr_clock g1 (vp_in_nI (by omega) (by decide))
