/-! match: the reference's side -/
def MY2 (r : Nat → Int) (my : MY) : Prop := ∀ c, c < 6 → (yMay my c).toInt = r c
theorem d17_n {r : Nat → Int} {my : MY} (hb : RB r) (hy : MY2 r my) {S : Nat} (hS : S < 64) : ∀ (n i : Nat) (v : Int32), i ≤ 6 → 6 < i + n → v.toInt = sumI (rC r S) i → (L_X6_mostDeeds_17 my S n i v).toInt = cutR r S := by
  intro n
  induction n with
  | zero => intro i v h1 h2; omega
  | succ n ih =>
    intro i v h1 h2 hv
    rw [L_X6_mostDeeds_17_s]
    by_cases q : i = 6
    · rw [if_pos (n_eq6 q), hv, q]
      rfl
    · rw [if_neg (n_ge6 (by omega)), nI_clamp (n := i) (by omega)]
      have e : sumI (rC r S) (i + 1) = sumI (rC r S) i + (if S.testBit i = true then r i else 0) := rfl
      have bd := sumI_bd (f := rC r S) (B := 24) i (fun c hc => rC_bd hb S (by omega))
      have hi := hb i (by omega)
      have hyi := hy i (by omega)
      have bb : ((nI S >>> (nI i &&& 31)) &&& (1 : Int32)) = 1 ↔ S.testBit i = true := by
        rw [bt_shr1 (by omega), bt_nI (by omega)]
      by_cases w : S.testBit i = true
      · rw [if_pos (bb.mpr w)]
        rw [if_pos w] at e
        exact ih (i + 1) _ (by omega) (by omega) (by rw [add32 (by rw [hv, hyi]; omega) (by rw [hv, hyi]; omega), hv, hyi, e])
      · rw [if_neg (fun x => w (bb.mp x)), Int32.add_zero]
        rw [if_neg w, Int.add_zero] at e
        exact ih (i + 1) _ (by omega) (by omega) (by rw [hv, e])
theorem d59_n {k : KS} {lv : LV} (hC : CR k lv) {xs : Int32} {S : Nat} (hS : S < 64) {X : Int} (hX : 0 ≤ X ∧ X ≤ 144) : ∀ (n i : Nat) (v : Int32), i ≤ 24 → 24 < i + n → v.toInt = X + sumI (cH (fun h => bt xs h) (ownB k) S) i → (L_X6_mostDeeds_59 lv xs S n i v).toInt = X + cutH (fun h => bt xs h) (ownB k) S := by
  intro n
  induction n with
  | zero => intro i v h1 h2; omega
  | succ n ih =>
    intro i v h1 h2 hv
    rw [L_X6_mostDeeds_59_s]
    by_cases q : i = 24
    · rw [if_pos (n_eq24 q), hv, q]
      rfl
    · have e : sumI (cH (fun h => bt xs h) (ownB k) S) (i + 1) = sumI (cH (fun h => bt xs h) (ownB k) S) i + (if bt xs i = true then (if subB (ownB k i) S 6 = true then (0 : Int) else 1) else 0) := rfl
      have bd := sumI_bd (f := cH (fun h => bt xs h) (ownB k) S) (B := 1) i (fun c _ => cH_bd _ _ S c)
      have z1 : (1 : Int32).toInt = 1 := rfl
      rw [if_neg (n_ge24 (by omega)), bnd_def, ownersEq hC (vp_in_nI (by omega) (by decide))]
      by_cases w : bt xs i = true
      · rw [if_pos ((bt_shr1 (by omega)).mpr w)]
        rw [if_pos w] at e
        by_cases y : subB (ownB k i) S 6 = true
        · rw [if_pos ((own_sub k i hS).mpr y), if_pos rfl, Int32.add_zero]
          rw [if_pos y, Int.add_zero] at e
          exact ih (i + 1) _ (by omega) (by omega) (by rw [hv, e])
        · rw [if_neg (fun x => y ((own_sub k i hS).mp x)), if_neg h10]
          rw [if_neg y] at e
          exact ih (i + 1) _ (by omega) (by omega) (by rw [add32 (by rw [hv, z1]; omega) (by rw [hv, z1]; omega), hv, z1, e]; omega)
      · rw [if_neg (fun x => w ((bt_shr1 (by omega)).mp x)), if_pos rfl, Int32.add_zero]
        rw [if_neg w, Int.add_zero] at e
        exact ih (i + 1) _ (by omega) (by omega) (by rw [hv, e])
theorem d5_n {k : KS} {lv : LV} (hC : CR k lv) {xs : Int32} {r : Nat → Int} {my : MY} (hb : RB r) (hy : MY2 r my) : ∀ (n i : Nat) (v : Int32), i ≤ 64 → 64 < i + n → (L_X6_mostDeeds_5 lv my xs n i v).toInt ≤ v.toInt ∧ (∀ S, i ≤ S → S < 64 → (L_X6_mostDeeds_5 lv my xs n i v).toInt ≤ cut r (fun h => bt xs h) (ownB k) S) ∧ (L_X6_mostDeeds_5 lv my xs n i v = v ∨ ∃ S, i ≤ S ∧ S < 64 ∧ (L_X6_mostDeeds_5 lv my xs n i v).toInt = cut r (fun h => bt xs h) (ownB k) S) := by
  intro n
  induction n with
  | zero => intro i v h1 h2; omega
  | succ n ih =>
    intro i v h1 h2
    rw [L_X6_mostDeeds_5_s]
    by_cases q : i = 64
    · rw [if_pos (show (64 : Int32) ≤ nI i by rw [q]; decide)]
      exact ⟨Int.le_refl _, fun S h3 h4 => by omega, Or.inl rfl⟩
    · rw [if_neg (show ¬ (64 : Int32) ≤ nI i from nI_ge (b := 64) (by omega) (by decide)), bnd_def, bnd_def]
      have e1 := d17_n hb hy (S := i) (by omega) (6 + 1) 0 0 (by decide) (by decide) rfl
      have e2 := d59_n hC (xs := xs) (S := i) (by omega) (cutR_bd hb i) (24 + 1) 0 (L_X6_mostDeeds_17 my i (6 + 1) 0 0) (by decide) (by decide) (by rw [e1]; exact (Int.add_zero _).symm)
      by_cases z : v ≤ L_X6_mostDeeds_59 lv xs i (24 + 1) 0 (L_X6_mostDeeds_17 my i (6 + 1) 0 0)
      · rw [if_pos z]
        rw [Int32.le_iff_toInt_le, e2] at z
        obtain ⟨g1, g2, g3⟩ := ih (i + 1) v (by omega) (by omega)
        refine ⟨g1, fun S h3 h4 => ?_, ?_⟩
        · by_cases y : S = i
          · rw [y]
            exact Int.le_trans g1 z
          · exact g2 S (by omega) h4
        · rcases g3 with g3 | ⟨S, s1, s2, s3⟩
          · exact Or.inl g3
          · exact Or.inr ⟨S, by omega, s2, s3⟩
      · rw [if_neg z]
        rw [Int32.le_iff_toInt_le] at z
        obtain ⟨g1, g2, g3⟩ := ih (i + 1) (L_X6_mostDeeds_59 lv xs i (24 + 1) 0 (L_X6_mostDeeds_17 my i (6 + 1) 0 0)) (by omega) (by omega)
        refine ⟨by omega, fun S h3 h4 => ?_, ?_⟩
        · by_cases y : S = i
          · rw [y]
            rw [e2] at g1
            exact g1
          · exact g2 S (by omega) h4
        · rcases g3 with g3 | ⟨S, s1, s2, s3⟩
          · exact Or.inr ⟨i, Nat.le_refl _, by omega, by rw [g3, e2]; rfl⟩
          · exact Or.inr ⟨S, by omega, s2, s3⟩
theorem md_min {k : KS} {lv : LV} (hC : CR k lv) {xs : Int32} {r : Nat → Int} {my : MY} (hb : RB r) (hy : MY2 r my) : isMin (cut r (fun h => bt xs h) (ownB k)) (F_X6_mostDeeds lv my xs).toInt := by
  unfold F_X6_mostDeeds
  rw [bnd_def]
  obtain ⟨g1, g2, g3⟩ := d5_n hC (xs := xs) hb hy (64 + 1) 0 24 (by decide) (by decide)
  refine ⟨fun S hS => g2 S (Nat.zero_le _) hS, ?_⟩
  rcases g3 with g3 | ⟨S, s1, s2, s3⟩
  · refine ⟨0, by decide, ?_⟩
    have a := g2 0 (Nat.zero_le _) (by decide)
    have b := cutH_bd (fun h => bt xs h) (ownB k) 0
    have e : cutR r 0 = 0 := by
      have e3 : cutR r 0 = sumI (fun _ => 0) 6 := sumI_congr 6 (fun c _ => by
        unfold rC
        rw [Nat.zero_testBit]
        rfl)
      rw [e3]
      rfl
    have z24 : (24 : Int32).toInt = 24 := rfl
    rw [g3, z24] at a ⊢
    unfold cut at a ⊢
    omega
  · exact ⟨S, s2, s3.symm⟩
/-- the two searches for who does it -/
theorem who_n {k : KS} {lv : LV} (hC : CR k lv) {rest : Int32} {x : Nat} (hx : x < 24) {M : Int32} : ∀ (n i : Nat) (r : Nat → Int) (mm : MS) (my : MY), i ≤ 6 → 6 < i + n → RB r → MI k r (fun h => bt rest h) mm → MY2 r my → ∃ w mm' my' r', L_X3_leastWho_2 (F_X1_ownersOf k (nI x)) M n i mm = (w, mm') ∧ L_X6_doer_13 lv (nI x) rest M n i my = (w, my') ∧ RB r' ∧ MI k r' (fun h => bt rest h) mm' ∧ MY2 r' my' ∧ ((¬ w = -6 ∧ ∃ v, isMin (cut r' (fun h => bt rest h) (ownB k)) v.toInt ∧ v + (1 : Int32) = M) ∨ (w = -6 ∧ (∀ c, c < 6 → r' c = r c) ∧ ∀ c, i ≤ c → c < 6 → ownB k x c = true → 0 < r c → ∀ v, isMin (cut (addR r c (-1)) (fun h => bt rest h) (ownB k)) v → ¬ v + 1 = M.toInt)) := by
  have z1 : (1 : Int32).toInt = 1 := rfl
  have zm : (-1 : Int32).toInt = -1 := rfl
  have z0 : (0 : Int32).toInt = 0 := rfl
  intro n
  induction n with
  | zero => intro i r mm my h1 h2; omega
  | succ n ih =>
    intro i r mm my h1 h2 hb hm hy
    rw [L_X3_leastWho_2_s, L_X6_doer_13_s]
    by_cases q : i = 6
    · rw [if_pos (n_eq6 q), if_pos (n_eq6 q)]
      exact ⟨-6, mm, my, r, rfl, rfl, hb, hm, hy, Or.inr ⟨rfl, fun _ _ => rfl, fun c h3 h4 => by omega⟩⟩
    · have hi : i < 6 := by omega
      rw [if_neg (n_ge6 hi), if_neg (n_ge6 hi), bnd_def, bnd_def, bnd_def, bnd_def, bnd_def, nI_clamp (n := i) (by omega), ownsEq hC (nI i) (vp_in_nI hx (by decide))]
      have ob : ownB k x i = decide (¬ F_X1_owns k (nI i) (nI x) = 0) := owners_bt k (nI x) hi
      have skip : (ownB k x i = true → 0 < r i → ∀ v, isMin (cut (addR r i (-1)) (fun h => bt rest h) (ownB k)) v → ¬ v + 1 = M.toInt) → (∃ w mm' my' r', L_X3_leastWho_2 (F_X1_ownersOf k (nI x)) M n (i + 1) mm = (w, mm') ∧ L_X6_doer_13 lv (nI x) rest M n (i + 1) my = (w, my') ∧ RB r' ∧ MI k r' (fun h => bt rest h) mm' ∧ MY2 r' my' ∧ ((¬ w = -6 ∧ ∃ v, isMin (cut r' (fun h => bt rest h) (ownB k)) v.toInt ∧ v + (1 : Int32) = M) ∨ (w = -6 ∧ (∀ c, c < 6 → r' c = r c) ∧ ∀ c, i ≤ c → c < 6 → ownB k x c = true → 0 < r c → ∀ v, isMin (cut (addR r c (-1)) (fun h => bt rest h) (ownB k)) v → ¬ v + 1 = M.toInt))) := by
        intro hs
        obtain ⟨w, mm', my', r', a1, a2, a3, a4, a5, a6⟩ := ih (i + 1) r mm my (by omega) (by omega) hb hm hy
        refine ⟨w, mm', my', r', a1, a2, a3, a4, a5, ?_⟩
        rcases a6 with a6 | ⟨b1, b2, b3⟩
        · exact Or.inl a6
        · refine Or.inr ⟨b1, b2, fun c h3 h4 => ?_⟩
          by_cases y : c = i
          · rw [y]; exact hs
          · exact b3 c (by omega) h4
      by_cases o : F_X1_owns k (nI i) (nI x) = 0
      · have ob' : ownB k x i = false := by rw [ob, decide_eq_false (fun e => e o)]
        rw [if_pos ((bt_and0 (by omega)).mpr ob'), if_pos o]
        exact skip (fun e => by rw [ob'] at e; exact absurd e (by decide))
      · have ob' : ownB k x i = true := by rw [ob, decide_eq_true o]
        have nb : ¬ (F_X1_ownersOf k (nI x) &&& ((1 : Int32) <<< (nI i &&& 31))) = 0 := fun e => by
          have y : ownB k x i = false := (bt_and0 (by omega)).mp e
          rw [ob'] at y
          exact absurd y (by decide)
        rw [if_neg nb, if_neg o]
        have m1 := hm.2.1 i hi
        have m2 := hy i hi
        have hri := hb i hi
        by_cases p : 0 < r i
        · rw [if_neg (show ¬ mRoom mm i ≤ 0 by rw [Int32.le_iff_toInt_le, m1, z0]; omega), if_neg (show ¬ yMay my i ≤ 0 by rw [Int32.le_iff_toInt_le, m2, z0]; omega)]
          have hb' : RB (addR r i (-1)) := fun c hc => by
            unfold addR
            have := hb c hc
            by_cases y : c = i
            · rw [if_pos y, y]
              omega
            · rw [if_neg y]
              exact this
          have hm' : MI k (addR r i (-1)) (fun h => bt rest h) (F_X3_changeRoom mm (nI i) (-1)) := mi_room hi hb (Or.inr rfl) hm
          have hy' : MY2 (addR r i (-1)) (upd (yMay my) i (yMay my i - 1)) := fun c hc => by
            unfold addR
            show (upd (yMay my) i (yMay my i - 1) c).toInt = _
            by_cases y : c = i
            · rw [if_pos y, y, pk_us, sub32 (by rw [m2, z1]; omega) (by rw [m2, z1]; omega), m2, z1]
              omega
            · rw [if_neg y, pk_un y]
              exact hy c hc
          have f1 := most_min hm' hb'
          have f2 := md_min hC (xs := rest) hb' hy'
          have f3 : F_X6_mostDeeds lv (upd (yMay my) i (yMay my i - 1)) rest = F_X3_most (F_X3_changeRoom mm (nI i) (-1)) := Int32.toInt_inj.mp (isMin_u f2 f1)
          rw [f3, Int32.add_comm 1]
          by_cases t : F_X3_most (F_X3_changeRoom mm (nI i) (-1)) + (1 : Int32) = M
          · rw [if_pos t, if_pos t]
            refine ⟨nI i, _, _, addR r i (-1), rfl, rfl, hb', hm', hy', Or.inl ⟨fun e => ?_, _, f1, t⟩⟩
            have e' := congrArg Int32.toInt e
            rw [nI_toInt (by omega)] at e'
            have z6 : (-6 : Int32).toInt = -6 := rfl
            omega
          · rw [if_neg t, if_neg t]
            have hm2 : MI k r (fun h => bt rest h) (F_X3_changeRoom (F_X3_changeRoom mm (nI i) (-1)) (nI i) 1) := mi_cong (mi_room hi hb' (Or.inl rfl) hm') (fun c hc => by
              show r c = addR (addR r i (-1)) i 1 c
              unfold addR
              by_cases y : c = i
              · rw [if_pos y, if_pos y]
                omega
              · rw [if_neg y, if_neg y]) (fun _ _ => rfl)
            have hy2 : MY2 r (upd (upd (yMay my) i (yMay my i - 1)) i (upd (yMay my) i (yMay my i - 1) i + 1)) := fun c hc => by
              show (upd (upd (yMay my) i (yMay my i - 1)) i (upd (yMay my) i (yMay my i - 1) i + 1) c).toInt = r c
              by_cases y : c = i
              · have e1 : (yMay my i - 1).toInt = r i - 1 := by rw [sub32 (by rw [m2, z1]; omega) (by rw [m2, z1]; omega), m2, z1]
                rw [y, pk_us, pk_us, add32 (by rw [e1, z1]; omega) (by rw [e1, z1]; omega), e1, z1]
                omega
              · rw [pk_un y, pk_un y]
                exact hy c hc
            obtain ⟨w, mm', my', r', a1, a2, a3, a4, a5, a6⟩ := ih (i + 1) r _ _ (by omega) (by omega) hb hm2 hy2
            refine ⟨w, mm', my', r', a1, a2, a3, a4, a5, ?_⟩
            rcases a6 with a6 | ⟨b1, b2, b3⟩
            · exact Or.inl a6
            · refine Or.inr ⟨b1, b2, fun c h3 h4 => ?_⟩
              by_cases y : c = i
              · rw [y]
                intro _ _ v hv e
                have ev := isMin_u hv f1
                refine t (Int32.toInt_inj.mp ?_)
                obtain ⟨v1, S, hS, v2⟩ := hv
                have c1 := cutR_bd hb' S
                have c2 := cutH_bd (fun h => bt rest h) (ownB k) S
                have c3 : cut (addR r i (-1)) (fun h => bt rest h) (ownB k) S = cutR (addR r i (-1)) S + cutH (fun h => bt rest h) (ownB k) S := rfl
                rw [add32 (by rw [← ev, z1]; omega) (by rw [← ev, z1]; omega), ← ev, z1]
                exact e
              · exact b3 c (by omega) h4
        · rw [if_pos (show mRoom mm i ≤ 0 by rw [Int32.le_iff_toInt_le, m1, z0]; omega), if_pos (show yMay my i ≤ 0 by rw [Int32.le_iff_toInt_le, m2, z0]; omega)]
          exact skip (fun _ e => absurd e p)
