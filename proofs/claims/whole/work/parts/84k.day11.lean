/-! done -/
def KSG (k k' : KS) : Prop := kSights k' = kSights k ∧ kHoursSeen k' = kHoursSeen k ∧ kHoursNotOwned k' = kHoursNotOwned k
theorem ksg_r (k : KS) : KSG k k := ⟨rfl, rfl, rfl⟩
theorem ksg_t {a b c : KS} (h : KSG a b) (g : KSG b c) : KSG a c := ⟨g.1.trans h.1, g.2.1.trans h.2.1, g.2.2.trans h.2.2⟩
theorem ksg_if {p : Prop} [Decidable p] {k a b : KS} (h1 : KSG k a) (h2 : KSG k b) : KSG k (if p then a else b) := by
  split
  · exact h1
  · exact h2
theorem ksg_if2 {p : Prop} [Decidable p] {k : KS} {a b : Int32 × KS} (h1 : KSG k a.2) (h2 : KSG k b.2) : KSG k (if p then a else b).2 := by
  split
  · exact h1
  · exact h2
theorem ksg_ifd {p : Prop} [Decidable p] {k : KS} {a b : DS × KS} (h1 : KSG k a.2) (h2 : KSG k b.2) : KSG k (if p then a else b).2 := by
  split
  · exact h1
  · exact h2
theorem ksg_if3 {p : Prop} [Decidable p] {k : KS} {a b : Int32 × DS × KS} (h1 : KSG k a.2.2) (h2 : KSG k b.2.2) : KSG k (if p then a else b).2.2 := by
  split
  · exact h1
  · exact h2
theorem ksg_ph : ∀ (n i : Nat) (k : KS), KSG k (L_X1_passHour_2 n i k) := by
  intro n
  induction n with
  | zero => intro i k; exact ksg_r k
  | succ n ih =>
    intro i k
    rw [L_X1_passHour_2_s, bnd_def, bnd_def]
    exact ksg_if (ksg_r k) (ksg_if (ih _ _) (ksg_if (ksg_if (ih _ _) (ksg_t ⟨rfl, rfl, rfl⟩ (ih _ _))) (ih _ _)))
theorem ksg_hour (k : KS) : KSG k (F_X1_passHour k) := by
  unfold F_X1_passHour
  rw [bnd_def]
  exact ksg_t (ksg_ph (6 + 1) 0 k) (ksg_if ⟨rfl, rfl, rfl⟩ ⟨rfl, rfl, rfl⟩)
theorem ksg_left (k : KS) (c h : Int32) : KSG k (F_X1_putOnLeft k c h).2 := by
  unfold F_X1_putOnLeft
  rw [bnd_def, bnd_def, bnd_def]
  exact ksg_if2 (ksg_r k) ⟨rfl, rfl, rfl⟩
theorem ksg_right (k : KS) (c h : Int32) : KSG k (F_X1_putOnRight k c h).2 := by
  unfold F_X1_putOnRight
  rw [bnd_def, bnd_def, bnd_def]
  exact ksg_if2 (ksg_r k) ⟨rfl, rfl, rfl⟩
theorem ksg_off (k : KS) (c : Int32) : KSG k (F_X1_takeOff k c).2 := by
  unfold F_X1_takeOff
  rw [bnd_def]
  exact ksg_if2 (ksg_r k) ⟨rfl, rfl, rfl⟩
theorem ksg_lose (k : KS) (c h : Int32) : KSG k (F_X1_losePair k c h) := by
  unfold F_X1_losePair
  exact ksg_if (ksg_r k) (ksg_if (ksg_if (ksg_if ⟨rfl, rfl, rfl⟩ ⟨rfl, rfl, rfl⟩) (ksg_if ⟨rfl, rfl, rfl⟩ ⟨rfl, rfl, rfl⟩)) (ksg_r k))
theorem ksg_give (k : KS) (a b h : Int32) : KSG k (F_X1_give k a b h).2 := by
  unfold F_X1_give
  rw [bnd_def, bnd_def, bnd_def, bnd_def]
  exact ksg_if2 (ksg_if2 (ksg_r k) (ksg_if2 (ksg_r k) (ksg_t ⟨rfl, rfl, rfl⟩ (ksg_lose _ a h)))) (ksg_r k)
theorem ksg_use (k : KS) (c h : Int32) : KSG k (F_X1_usePair k c h) := by
  unfold F_X1_usePair
  rw [bnd_def, bnd_def]
  exact ksg_if (ksg_r k) (ksg_if ⟨rfl, rfl, rfl⟩ (ksg_t ⟨rfl, rfl, rfl⟩ (ksg_lose _ c h)))
theorem ksg_add (dy : DS) (k : KS) (c : Int32) : KSG k (F_X2_addDeed dy k c).2 := by
  unfold F_X2_addDeed
  rw [bnd_def, bnd_def, bnd_def]
  exact ksg_ifd (ksg_r k) (ksg_use k c _)
theorem ksg_deeds (dy : DS) (k : KS) (a b w : Int32) : KSG k (F_X2_playDeeds dy k a b w).2.2 := by
  unfold F_X2_playDeeds
  rw [bnd_def, bnd_def]
  exact ksg_if3 (ksg_if3 (ksg_add dy k a) (ksg_t (ksg_add dy k a) (ksg_add _ _ b))) (ksg_r k)
theorem ksg_act (dy : DS) (k : KS) (pp : PS) (p : Int32) : KSG k (F_X2_playAct dy k pp p).2.2 := by
  unfold F_X2_playAct
  simp only [bnd_def]
  refine ksg_if3 ?_ ?_
  · dsimp only
    exact ksg_hour k
  refine ksg_if3 ?_ ?_
  · dsimp only
    exact ksg_deeds dy k _ _ _
  refine ksg_if3 ?_ ?_
  · dsimp only
    exact ksg_off k _
  refine ksg_if3 ?_ ?_
  · dsimp only
    exact ksg_give k _ _ _
  refine ksg_if3 ?_ ?_
  · dsimp only
    exact ksg_left k _ _
  refine ksg_if3 ?_ ?_
  · dsimp only
    exact ksg_right k _ _
  dsimp only
  exact ksg_deeds dy k _ _ _
theorem ksg_n (pp : PS) : ∀ (n i : Nat) (v : Int32) (dy : DS) (k : KS), KSG k (L_X2_playPad_22 pp n i v dy k).2.2 := by
  intro n
  induction n with
  | zero => intro i v dy k; exact ksg_r k
  | succ n ih =>
    intro i v dy k
    rw [L_X2_playPad_22_s, bnd_def, bnd_def]
    exact ksg_if3 (ksg_r k) (ksg_if3 (ksg_r k) (ksg_if3 (ksg_t (ksg_act dy k pp v) (ih _ _ _ _)) (ksg_act dy k pp v)))
theorem ksg_pad {dy : DS} {kT k : KS} {pp : PS} (h : (F_X2_playPad dy kT k pp).1 = 0) : F_X4_firstFault pp = -6 ∧ KSG k (F_X2_playPad dy kT k pp).2.2 := by
  unfold F_X2_playPad F_X2_begin at h ⊢
  rw [bnd_def] at h ⊢
  by_cases f : F_X4_firstFault pp = -6
  · rw [if_pos f, bnd_def, bnd_def]
    refine ⟨f, ksg_t (b := F_X1_copyFrom kT k) ⟨rfl, rfl, rfl⟩ ?_⟩
    exact ksg_n pp (60 + 1) 0 0 _ _
  · rw [if_neg f] at h
    exact absurd h (show ¬ (-5 : Int32) = 0 by decide)
section D11
variable {gg : GS} {k kE kF : KS} {pp : PS} {lv : LV} {sg : SG} {pd : PD} {kp : KP}
theorem api_done {dy : DS} {kT : KS} {ac : AC} {dd : DD} {hd : HD} {le : LE} {bd : BD} {r1 r2 : Int32} {u1 : KS × PS × DS × KS} {u2 : LV × PD × AC × DD × HD × LE × BD} (hrel : REL gg k kE kF pp lv sg pd kp) (e1 : F_X5_done k pp dy kT = (r1, u1)) (e2 : F_X6_done lv pd ac dd hd le bd = (r2, u2)) : r1 = r2 ∧ REL gg u1.1 kE kF u1.2.1 u2.1 sg u2.2.1 kp := by
  unfold F_X5_done at e1
  unfold F_X6_done at e2
  rw [bnd_def] at e1 e2
  rcases day3 hrel dy kT ac dd hd le bd with ⟨g1, g2⟩ | ⟨K, m, g, c1, c2, g5, d1, d2, d3, d4, c3, g4, g7, g6⟩ | ⟨lv', u, c1, g5, g6⟩
  · rw [g1, if_neg (show ¬ (0 : Int32) ≤ -5 by decide)] at e1
    rw [g2, if_neg (show ¬ (-5 : Int32) = -6 by decide)] at e2
    cases e1
    cases e2
    exact ⟨rfl, hrel⟩
  · rw [c1, if_pos (by decide), bnd_def] at e1
    rw [g5, if_pos rfl, bnd_def] at e2
    obtain ⟨f, ks⟩ := ksg_pad c1
    have hP := hrel.2.2.1
    have fe := faultEq hP ac
    have fn : (F_X6_fault pd ac).1 < 0 := by rw [← fe, f]; decide
    obtain ⟨hA, _⟩ := fault_acts (pd := pd) (ac := ac) (u := (F_X6_fault pd ac).2) (r := (F_X6_fault pd ac).1) rfl fn hP.2.1
    obtain ⟨K2, k1, k2, ⟨m2, b1, b2⟩⟩ := day_go g6.1 hP f dy kT g.2.1 g.2.2 hA
    have f1 : _ = r1 := congrArg Prod.fst e1
    have f2 : _ = r2 := congrArg Prod.fst e2
    have f3 : _ = u1 := congrArg Prod.snd e1
    have f4 : _ = u2 := congrArg Prod.snd e2
    rw [← f1, ← f2, ← f3, ← f4]
    refine ⟨c3.trans g4.symm, cr_cong b1 (copy_ag k _) (agL_r _), sr_cong hrel.2.1 ks.1 ks.2.1 ks.2.2 ⟨rfl, fun _ _ => ⟨rfl, rfl⟩⟩, ⟨rfl, in_0 (by decide), fun j hj => absurd hj (Nat.not_lt_zero j)⟩, hrel.2.2.2.1, hrel.2.2.2.2⟩
  · rw [c1, if_neg (by decide)] at e1
    rw [g5, if_neg (show ¬ (-3 : Int32) = -6 by decide)] at e2
    cases e1
    cases e2
    exact ⟨rfl, g6⟩
end D11
