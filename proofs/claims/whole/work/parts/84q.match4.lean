/-! match: dealing the hours out -/
theorem and_01 (y : Int32) : y &&& (1 : Int32) = 0 ∨ y &&& (1 : Int32) = 1 := by
  have one : ∀ j, j < 32 → bt (1 : Int32) j = decide (j = 0) := by decide +kernel
  by_cases z : bt y 0 = true
  · right
    refine b_ext (fun i hi => ?_)
    rw [b_and, one i hi]
    by_cases p : i = 0
    · rw [p, z]
      rfl
    · rw [decide_eq_false p, Bool.and_false]
  · left
    have z' : bt y 0 = false := by simpa using z
    refine b_ext (fun i hi => ?_)
    rw [b_and, one i hi, b_0]
    by_cases p : i = 0
    · rw [p, z']
      rfl
    · rw [decide_eq_false p, Bool.and_false]
theorem deal_n {k : KS} {lv : LV} (hC : CR k lv) {xs : Int32} {T : Nat} (hT : T < 24) : ∀ (n i : Nat) (r : Nat → Int) (w miss rest : Int32) (mm : MS) (my : MY), i ≤ 24 → 24 < i + n → RB r → MI k r (fun h => bt rest h) mm → MY2 r my → (∀ h, h < 24 → bt rest h = (decide (i ≤ h) && bt xs h)) → isMin (cut r (fun h => bt rest h) (ownB k)) miss.toInt → (L_X3_whoDoes_13 k xs (nI T) n i w miss mm).1 = (L_X6_match_94 lv (nI T) n i w rest my).1 := by
  intro n
  induction n with
  | zero => intro i r w miss rest mm my h1 h2; omega
  | succ n ih =>
    intro i r w miss rest mm my h1 h2 hb hm hy hr hmin
    rw [L_X3_whoDoes_13_s, L_X6_match_94_s]
    by_cases q : T < i
    · rw [if_pos (show nI T < nI i from (nI_ltI (by omega) (by omega)).mpr q), if_pos (show nI T < nI i from (nI_ltI (by omega) (by omega)).mpr q)]
      split <;> rfl
    · have hi : i < 24 := by omega
      have nq : ¬ nI T < nI i := fun e => q ((nI_ltI (by omega) (by omega)).mp e)
      rw [if_neg (n_ge24 hi), if_neg nq, if_neg nq, bnd_def, hasH hi]
      have hri : bt rest i = bt xs i := by rw [hr i hi, decide_eq_true (Nat.le_refl i), Bool.true_and]
      by_cases b : bt xs i = true
      · rw [if_pos b, if_neg h10, bnd_def, bnd_def, bnd_def, if_pos ((bt_shr1 (by omega)).mpr (hri.trans b)), bnd_def]
        have hr' : ∀ h, h < 24 → bt (rest &&& (((1 : Int32) <<< (nI i &&& 31)) ^^^ (-1 : Int32))) h = (decide (i + 1 ≤ h) && bt xs h) := fun h hh => by
          rw [leave_bits (by omega) (by omega), hr h hh]
          by_cases y : i = h
          · rw [decide_eq_true y, decide_eq_false (show ¬ i + 1 ≤ h by omega)]
            simp
          · rw [decide_eq_false y]
            by_cases z : i ≤ h
            · rw [decide_eq_true z, decide_eq_true (show i + 1 ≤ h by omega)]
              simp
            · rw [decide_eq_false z, decide_eq_false (show ¬ i + 1 ≤ h by omega)]
              simp
        have hRi' : bt (rest &&& (((1 : Int32) <<< (nI i &&& 31)) ^^^ (-1 : Int32))) i = false := by
          rw [hr' i hi, decide_eq_false (show ¬ i + 1 ≤ i by omega)]
          rfl
        have hoff : ∀ j, j < 24 → j ≠ i → bt rest j = bt (rest &&& (((1 : Int32) <<< (nI i &&& 31)) ^^^ (-1 : Int32))) j := fun j hj hn => by
          rw [hr j hj, hr' j hj]
          by_cases z : i ≤ j
          · rw [decide_eq_true z, decide_eq_true (show i + 1 ≤ j by omega)]
          · rw [decide_eq_false z, decide_eq_false (show ¬ i + 1 ≤ j by omega)]
        have hm' := mi_less (R := fun h => bt rest h) (R' := fun h => bt (rest &&& (((1 : Int32) <<< (nI i &&& 31)) ^^^ (-1 : Int32))) h) hi hb (hri.trans b) hRi' hoff hm
        unfold F_X3_leastWho F_X6_doer
        rw [bnd_def]
        have hfull : F_X6_mostDeeds lv my ((rest &&& (((1 : Int32) <<< (nI i &&& 31)) ^^^ (-1 : Int32))) ||| ((1 : Int32) <<< (nI i &&& 31))) = miss := by
          refine Int32.toInt_inj.mp (isMin_u (md_min hC hb hy) (isMin_c hmin (fun S _ => ?_)))
          refine (cut_congr (ownB k) (fun _ _ => rfl) (fun h hh => ?_) S).1
          show bt ((rest &&& (((1 : Int32) <<< (nI i &&& 31)) ^^^ (-1 : Int32))) ||| ((1 : Int32) <<< (nI i &&& 31))) h = bt rest h
          rw [b_or, bt_one (by omega) (by omega)]
          by_cases y : i = h
          · rw [decide_eq_true y, Bool.or_true, ← y, hri, b]
          · rw [decide_eq_false y, Bool.or_false]
            exact (hoff h hh (fun e => y e.symm)).symm
        rw [hfull]
        obtain ⟨w', mm', my', r', a1, a2, a3, a4, a5, a6⟩ := who_n hC (rest := rest &&& (((1 : Int32) <<< (nI i &&& 31)) ^^^ (-1 : Int32))) hi (M := miss) (6 + 1) 0 r _ my (by decide) (by decide) hb hm' hy
        rw [a1, a2]
        rcases a6 with ⟨b1, v, b2, b3⟩ | ⟨b1, b2, b3⟩
        · rw [if_neg b1]
          have ev : miss - (1 : Int32) = v := by rw [← b3, Int32.add_sub_cancel]
          rw [ev]
          exact ih (i + 1) r' w' v _ mm' my' (by omega) (by omega) a3 a4 a5 hr' b2
        · rw [if_pos b1]
          obtain ⟨v, hv⟩ := isMin_ex (cut r (fun h => bt (rest &&& (((1 : Int32) <<< (nI i &&& 31)) ^^^ (-1 : Int32))) h) (ownB k))
          have e := greedy hi (hri.trans b) hRi' hoff hmin hv (fun c hc => (hb c hc).1) (fun c hc => b3 c (Nat.zero_le _) hc)
          rw [e] at hv
          exact ih (i + 1) r' w' miss _ mm' my' (by omega) (by omega) a3 a4 a5 hr' (isMin_c hv (fun S _ => (cut_congr (ownB k) b2 (fun _ _ => rfl) S).1))
      · have b' : bt xs i = false := by simpa using b
        rw [if_neg b, if_pos rfl, if_neg (fun e => by rw [(bt_shr1 (by omega)).mp e] at hri; exact b hri.symm)]
        refine ih (i + 1) r w miss rest mm my (by omega) (by omega) hb hm hy (fun h hh => ?_) hmin
        rw [hr h hh]
        by_cases y : i = h
        · rw [← y, b', Bool.and_false, Bool.and_false]
        · by_cases z : i ≤ h
          · rw [decide_eq_true z, decide_eq_true (show i + 1 ≤ h by omega)]
          · rw [decide_eq_false z, decide_eq_false (show ¬ i + 1 ≤ h by omega)]
theorem m52_n (xv : Int32) : ∀ (n i : Nat) (my : MY), i ≤ 6 → 6 < i + n → ∀ c, c < 6 → yMay (L_X6_match_52 xv n i my) c = if i ≤ c then xv else yMay my c := by
  intro n
  induction n with
  | zero => intro i my h1 h2; omega
  | succ n ih =>
    intro i my h1 h2 c hc
    rw [L_X6_match_52_s]
    by_cases q : i = 6
    · rw [if_pos (n_eq6 q), if_neg (by omega)]
    · rw [if_neg (n_ge6 (by omega)), nI_clamp (n := i) (by omega), ih (i + 1) _ (by omega) (by omega) c hc]
      show (if i + 1 ≤ c then xv else upd (yMay my) i xv c) = _
      by_cases y : c = i
      · rw [y, if_neg (by omega), if_pos (Nat.le_refl _), pk_us]
      · rw [pk_un y]
        by_cases w : i + 1 ≤ c
        · rw [if_pos w, if_pos (by omega)]
        · rw [if_neg w, if_neg (by omega)]
section D16
variable {gg : GS} {k kE kF : KS} {pp : PS} {lv : LV} {sg : SG} {pd : PD} {kp : KP}
theorem api_match {mm : MS} {my : MY} {xs xv xh : Int32} {r1 r2 : Int32} {u1 : MS} {u2 : MY} (hrel : REL gg k kE kF pp lv sg pd kp) (e1 : F_X5_match k mm xs xv xh = (r1, u1)) (e2 : F_X6_match lv my xs xv xh = (r2, u2)) : r1 = r2 ∧ REL gg k kE kF pp lv sg pd kp := by
  have hC := hrel.1
  refine ⟨?_, hrel⟩
  unfold F_X5_match at e1
  unfold F_X6_match at e2
  rw [bnd_def] at e1 e2
  rw [inW (a := 0) (b := 16777215) (by decide) (by decide)] at e2
  by_cases w1 : F_X5_isWithin xs 0 16777215 = 0
  · rw [if_pos w1] at e1 e2
    cases e1
    cases e2
    rfl
  · rw [if_neg w1, bnd_def] at e1 e2
    rw [inW (a := 1) (b := 24) (by decide) (by decide)] at e2
    by_cases w2 : F_X5_isWithin xv 1 24 = 0
    · rw [if_pos w2] at e1 e2
      cases e1
      cases e2
      rfl
    · rw [if_neg w2] at e1 e2
      obtain ⟨V, hV, rfl⟩ : ∃ V : Nat, V ≤ 24 ∧ xv = nI V := by
        have z1 : (1 : Int32).toInt = 1 := rfl
        have z24 : (24 : Int32).toInt = 24 := rfl
        have y := wi_iff w2
        rw [z1, z24] at y
        obtain ⟨j, hj, rfl⟩ := nI_nn (show (0 : Int) ≤ xv.toInt by omega)
        rw [nI_toInt hj] at y
        exact ⟨j, by omega, rfl⟩
      have hb : RB (fun _ => (V : Int)) := fun c hc => ⟨show (0 : Int) ≤ (V : Int) by omega, show (V : Int) ≤ 24 by omega⟩
      have hm : MI k (fun _ => (V : Int)) (fun h => bt xs h) (F_X3_begin mm k xs (nI V)) := begin_mi hV
      have hy : MY2 (fun _ => (V : Int)) (L_X6_match_52 (nI V) (6 + 1) 0 my) := fun c hc => by
        rw [m52_n (nI V) (6 + 1) 0 my (by decide) (by decide) c hc, if_pos (Nat.zero_le _), nI_toInt (by omega)]
      have f1 := most_min hm hb
      have f2 := md_min hC (xs := xs) hb hy
      have f3 : F_X3_most (F_X3_begin mm k xs (nI V)) = F_X6_mostDeeds lv (L_X6_match_52 (nI V) (6 + 1) 0 my) xs := Int32.toInt_inj.mp (isMin_u f1 f2)
      by_cases m1 : xh = -1
      · rw [if_pos m1, bnd_def, if_pos m1, bnd_def] at e1 e2
        have g1 : _ = r1 := congrArg Prod.fst e1
        have g2 : _ = r2 := congrArg Prod.fst e2
        rw [← g1, ← g2]
        exact f3
      · rw [if_neg m1, bnd_def] at e1 e2
        rw [hourW] at e2
        by_cases w3 : F_X5_isWithin xh 0 23 = 0
        · have hh : F_X5_hasHour xs xh = 0 := by
            unfold F_X5_hasHour
            rw [bnd_def, if_pos w3]
          rw [if_pos hh] at e1
          rw [if_pos w3] at e2
          cases e1
          cases e2
          rfl
        · obtain ⟨T, hT, rfl⟩ := vp_in_of (wi_in (n := 24) rfl w3 (by decide)) (by decide)
          rw [hasH hT] at e1
          rw [if_neg w3] at e2
          by_cases b : bt xs T = true
          · rw [if_pos b, if_neg h10, bnd_def, if_neg m1, bnd_def] at e1
            rw [if_neg (fun e => by rw [(bt_shr1 (by omega)).mpr b] at e; exact absurd e (by decide)), bnd_def, if_neg m1, bnd_def] at e2
            have d := deal_n hC (xs := xs) hT (24 + 1) 0 (fun _ => (V : Int)) (-6) (F_X3_most (F_X3_begin mm k xs (nI V))) xs _ _ (by decide) (by decide) hb hm hy (fun h _ => by rw [decide_eq_true (Nat.zero_le h), Bool.true_and]) f1
            unfold F_X3_whoDoes at e1
            rw [bnd_def, bnd_def] at e1
            have g1 : _ = r1 := congrArg Prod.fst e1
            have g2 : _ = r2 := congrArg Prod.fst e2
            rw [← g1, ← g2]
            exact d
          · rw [if_neg b, if_pos rfl] at e1
            have nb : ((xs >>> (nI T &&& 31)) &&& (1 : Int32)) = 0 := by
              rcases and_01 (xs >>> (nI T &&& 31)) with h | h
              · exact h
              · exact absurd ((bt_shr1 (by omega)).mp h) b
            rw [if_pos nb] at e2
            cases e1
            cases e2
            rfl
end D16
