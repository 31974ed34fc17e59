/-! the reference: what its pure functions say of places in rows -/
theorem lgc_neg (x y : Int64) : lg_cmp x y < 0 ↔ x.toInt < y.toInt := by
  unfold lg_cmp
  simp only [gt_iff_lt]
  split
  · rename_i h
    rw [Int64.lt_iff_toInt_lt] at h
    exact ⟨fun q => absurd q (by decide), fun q => by omega⟩
  · split
    · rename_i h1 h2
      subst h2
      exact ⟨fun q => absurd q (by decide), fun q => by omega⟩
    · rename_i h1 h2
      rw [Int64.lt_iff_toInt_lt] at h1
      have h3 : x.toInt ≠ y.toInt := fun e => h2 (Int64.toInt_inj.mp e)
      exact ⟨fun _ => by omega, fun _ => by decide⟩
theorem lgc_pos (x y : Int64) : 0 < lg_cmp x y ↔ y.toInt < x.toInt := by
  unfold lg_cmp
  simp only [gt_iff_lt]
  split
  · rename_i h
    rw [Int64.lt_iff_toInt_lt] at h
    exact ⟨fun _ => h, fun _ => by decide⟩
  · split
    · rename_i h1 h2
      subst h2
      exact ⟨fun q => absurd q (by decide), fun q => by omega⟩
    · rename_i h1 h2
      rw [Int64.lt_iff_toInt_lt] at h1
      exact ⟨fun q => absurd q (by decide), fun q => by omega⟩
theorem lgc_zero (x y : Int64) : lg_cmp x y = 0 ↔ x = y := by
  unfold lg_cmp
  simp only [gt_iff_lt]
  split
  · rename_i h
    exact ⟨fun q => absurd q (by decide), fun q => by subst q; rw [Int64.lt_iff_toInt_lt] at h; omega⟩
  · split
    · rename_i h1 h2
      exact ⟨fun _ => h2, fun _ => rfl⟩
    · rename_i h1 h2
      exact ⟨fun q => absurd q (by decide), fun q => absurd q h2⟩
theorem in_eq (v l h : Int64) : F_X6_in v l h = if l.toInt ≤ v.toInt ∧ v.toInt ≤ h.toInt then 1 else 0 := by
  unfold F_X6_in
  by_cases h1 : lg_cmp v l < 0
  · rw [if_pos h1]
    rw [lgc_neg] at h1
    rw [if_neg (by omega)]
  · rw [if_neg h1]
    rw [lgc_neg] at h1
    by_cases h2 : 0 < lg_cmp v h
    · rw [if_pos h2]
      rw [lgc_pos] at h2
      rw [if_neg (by omega)]
    · rw [if_neg h2]
      rw [lgc_pos] at h2
      rw [if_pos (by omega)]
theorem in_spec {v l h : Int64} {r : Int32} (e : F_X6_in v l h = r) (hn : ¬ r = 0) : l.toInt ≤ v.toInt ∧ v.toInt ≤ h.toInt := by
  rw [in_eq] at e
  by_cases q : l.toInt ≤ v.toInt ∧ v.toInt ≤ h.toInt
  · exact q
  · rw [if_neg q] at e
    exact absurd e.symm hn
def rOK (lv : LV) : Prop := ∀ j, j < 6 → 0 ≤ (vRight lv j).toInt ∧ (vRight lv j).toInt ≤ 24
theorem and_dec {x : Int32} (h : ¬ x = 0) : (x &&& (x - 1)).toBitVec.toNat < x.toBitVec.toNat := by
  have e : (x &&& (x - 1)).toBitVec = x.toBitVec &&& (x.toBitVec - 1#32) := rfl
  have h0 : x.toBitVec.toNat ≠ 0 := fun q => h (Int32.toBitVec_inj.mp (BitVec.eq_of_toNat_eq (by rw [q]; rfl)))
  have h2 := x.toBitVec.isLt
  have e1 : (1#32).toNat = 1 := rfl
  have e2 : (x.toBitVec - 1#32).toNat = x.toBitVec.toNat - 1 := by
    rw [BitVec.toNat_sub, e1]
    omega
  have h1 := Nat.and_le_right (n := x.toBitVec.toNat) (m := x.toBitVec.toNat - 1)
  rw [e, BitVec.toNat_and, e2]
  omega
theorem court_in {lv : LV} {c r : Int32} (h : F_X6_isCourtier lv c = r) (hn : ¬ r = 0) : vp_in c 6 := by
  subst h
  simp only [F_X6_isCourtier, bnd] at hn
  by_cases q : F_X6_in c.toInt64 0 5 = 0
  · rw [if_pos q] at hn
    exact absurd rfl hn
  · have h1 := in_spec rfl q
    rw [Int32.toInt_toInt64] at h1
    have e0 : (0 : Int64).toInt = 0 := rfl
    have e5 : (5 : Int64).toInt = 5 := rfl
    exact vp_in_iff.mpr (by omega)
theorem at_in {c h' r : Int32} (h : F_X6_at c h' = r) (hc : vp_in c 6) (hh : vp_in h' 24) : vp_in r 144 := by
  subst h
  obtain ⟨j, hj, rfl⟩ := vp_in_of hc (by decide)
  obtain ⟨q, hq, rfl⟩ := vp_in_of hh (by decide)
  unfold F_X6_at
  rw [show (24 : Int32) = nI 24 from rfl, pk_mul, nI_add]
  exact vp_in_nI (by omega) (by decide)
theorem in_in {x r : Int32} {hi : Int64} {n : Nat} (h : F_X6_in x.toInt64 0 hi = r) (hn : ¬ r = 0) (hb : hi.toInt < (n : Int)) : vp_in x n := by
  have h1 := in_spec h hn
  rw [Int32.toInt_toInt64] at h1
  have e0 : (0 : Int64).toInt = 0 := rfl
  exact vp_in_iff.mpr (by omega)
theorem isHour_in {x r : Int32} (h : F_X6_isHour x = r) (hn : ¬ r = 0) : vp_in x 24 := by
  simp only [F_X6_isHour, bnd] at h
  exact in_in h hn (by decide)
theorem in_less {x N : Int32} {n : Nat} (h : vp_in x (n + 1)) (hn : ¬ x = N) (hN : N.toInt = (n : Int)) : vp_in x n := by
  rw [vp_in_iff] at h ⊢
  have h1 : x.toInt ≠ N.toInt := fun e => hn (Int32.toInt_inj.mp e)
  omega
theorem in_61 {x : Int32} (h : vp_in x 61) : x.toNatClampNeg ≤ 60 := by
  obtain ⟨j, hj, rfl⟩ := vp_in_of h (by decide)
  rw [nI_clamp (by omega)]
  omega
theorem in_9 {x : Int32} (h : vp_in x 9) : x.toNatClampNeg ≤ 8 := by
  obtain ⟨j, hj, rfl⟩ := vp_in_of h (by decide)
  rw [nI_clamp (by omega)]
  omega
def aStep (ac : AC) (z : Int32 × AC) : Prop := aActs z.2 = aActs ac ∨ aActs z.2 = aActs ac + 1
theorem aStep_if {ac : AC} {c : Prop} [Decidable c] {a b : Int32 × AC} (h1 : aStep ac a) (h2 : aStep ac b) : aStep ac (if c then a else b) := by
  split
  · exact h1
  · exact h2
theorem begin_step (ac : AC) (c : Int32) : aStep ac (F_X6_begin ac c) := by
  unfold F_X6_begin F_X6_close
  dsimp only [bnd]
  repeat' apply aStep_if
  all_goals first | exact Or.inl rfl | exact Or.inr rfl
theorem behind_step (ac : AC) (c : Int32) : aStep ac (F_X6_behindLetter ac c) := by
  unfold F_X6_behindLetter F_X6_close
  dsimp only [bnd]
  repeat' apply aStep_if
  all_goals first | exact Or.inl rfl | exact Or.inr rfl
theorem readOn_step (ac : AC) (d c : Int32) : aStep ac (F_X6_readOn ac d c) := by
  unfold F_X6_readOn
  by_cases h0 : d = 0
  · rw [if_pos h0]
    exact begin_step ac c
  rw [if_neg h0]
  by_cases h1 : d = 1
  · rw [if_pos h1]
    exact behind_step ac c
  rw [if_neg h1]
  unfold F_X6_close
  dsimp only [bnd]
  repeat' apply aStep_if
  all_goals first | exact Or.inl rfl | exact Or.inr rfl
theorem readOn_cases (ac : AC) (d c : Int32) : aActs (F_X6_readOn ac d c).2 = aActs ac ∨ aActs (F_X6_readOn ac d c).2 = aActs ac + 1 := readOn_step ac d c
theorem i_add1 {x : Int32} (h0 : 0 ≤ x.toInt) (h1 : x.toInt < 2147483647) : (x + 1).toInt = x.toInt + 1 := by
  have h2 := Int32.toInt_add x 1
  rw [h2]
  have e1 : (1 : Int32).toInt = 1 := rfl
  rw [e1]
  exact Int.bmod_eq_of_le (by omega) (by omega)
theorem acts0 : 0 ≤ (0 : Int32).toInt ∧ (0 : Int32).toInt ≤ ((0 : Nat) : Int) := by decide
theorem lt_9 {i : Nat} (h : ¬ (9 : Int32) ≤ nI i) (h2 : i < 10) : i + 1 < 10 := by
  rcases Nat.lt_or_ge i 9 with q | q
  · omega
  · exact absurd (nI_le (a := 9) q (by omega)) h
theorem i_sub1 {x : Int32} (h0 : 1 ≤ x.toInt) : (x - 1).toInt = x.toInt - 1 := by
  have h2 := Int32.toInt_sub x 1
  have h3 := Int32.toInt_lt x
  rw [h2]
  have e1 : (1 : Int32).toInt = 1 := rfl
  rw [e1]
  exact Int.bmod_eq_of_le (by omega) (by omega)
theorem i_add {x y : Int32} (h0 : -2147483648 ≤ x.toInt + y.toInt) (h1 : x.toInt + y.toInt < 2147483648) : (x + y).toInt = x.toInt + y.toInt := by
  rw [Int32.toInt_add]
  exact Int.bmod_eq_of_le (by omega) (by omega)
theorem readOn_acts {ac u : AC} {d c r : Int32} {i : Nat} (h : F_X6_readOn ac d c = (r, u)) (ha : 0 ≤ (aActs ac).toInt ∧ (aActs ac).toInt ≤ i) (hi : i < 60) : 0 ≤ (aActs u).toInt ∧ (aActs u).toInt ≤ ((i + 1 : Nat) : Int) := by
  have h1 := readOn_cases ac d c
  rw [h] at h1
  dsimp only at h1
  rcases h1 with h1 | h1
  · rw [h1]
    omega
  · rw [h1, i_add1 ha.1 (by omega)]
    omega
theorem acts_in {x : Int32} {i : Nat} (h : 0 ≤ x.toInt ∧ x.toInt ≤ i) (hi : i < 60) : vp_in x 60 := by
  exact vp_in_iff.mpr (by omega)
theorem nI_nn {x : Int32} (h : 0 ≤ x.toInt) : ∃ j : Nat, j < 2 ^ 31 ∧ x = nI j := nI_of (fun q => by rw [Int32.lt_iff_toInt_lt] at q; have e0 : (0 : Int32).toInt = 0 := rfl; omega)
theorem rem60 {x : Int32} (h : 0 ≤ x.toInt) : vp_in (x - x / (60 : Int32) * (60 : Int32)) 60 := by
  obtain ⟨j, hj, rfl⟩ := nI_nn h
  rw [show (60 : Int32) = nI 60 from rfl, pk_rem hj (by decide) (by decide)]
  exact vp_in_nI (Nat.mod_lt _ (by decide)) (by decide)
theorem two_ok {lv : LV} {w a b h : Int32} (hw : F_X6_whyNotTwo lv w a b h = 0) : ¬ F_X6_isCourtier lv a = 0 ∧ ¬ F_X6_isCourtier lv b = 0 ∧ ¬ a = b ∧ (¬ w = 5 → ¬ vRight lv a.toNatClampNeg = 24 ∧ ¬ vRight lv b.toNatClampNeg = 24 ∧ vRight lv a.toNatClampNeg = vRight lv b.toNatClampNeg) ∧ (w = 5 → ¬ F_X6_owns lv a h = 0 ∧ F_X6_owns lv b h = 0) := by
  simp only [F_X6_whyNotTwo, bnd] at hw
  by_cases h1 : F_X6_isCourtier lv a = 0
  · rw [if_pos h1] at hw
    exact absurd hw (by decide)
  rw [if_neg h1] at hw
  by_cases h2 : F_X6_isCourtier lv b = 0
  · rw [if_pos h2] at hw
    exact absurd hw (by decide)
  rw [if_neg h2] at hw
  by_cases h3 : a = b
  · rw [if_pos h3] at hw
    exact absurd hw (by decide)
  rw [if_neg h3] at hw
  by_cases h5 : w = 5
  · rw [if_pos h5] at hw
    by_cases h6 : F_X6_owns lv a h = 0
    · rw [if_pos h6] at hw
      exact absurd hw (by decide)
    rw [if_neg h6] at hw
    by_cases h7 : F_X6_owns lv b h = 0
    · exact ⟨h1, h2, h3, fun q => absurd h5 q, fun _ => ⟨h6, h7⟩⟩
    · rw [if_neg h7] at hw
      exact absurd hw (by decide)
  · rw [if_neg h5] at hw
    by_cases h6 : vRight lv a.toNatClampNeg = 24
    · rw [if_pos h6] at hw
      exact absurd hw (by decide)
    rw [if_neg h6] at hw
    by_cases h7 : vRight lv b.toNatClampNeg = 24
    · rw [if_pos h7] at hw
      exact absurd hw (by decide)
    rw [if_neg h7] at hw
    by_cases h8 : vRight lv a.toNatClampNeg = vRight lv b.toNatClampNeg
    · exact ⟨h1, h2, h3, fun _ => ⟨h6, h7, h8⟩, fun q => absurd q h5⟩
    · rw [if_neg h8] at hw
      exact absurd hw (by decide)
theorem wn_2 (lv : LV) (a b h : Int32) : F_X6_whyNot lv 2 a b h = if F_X6_isCourtier lv a = 0 then 1 else 0 := by
  unfold F_X6_whyNot
  rw [if_pos rfl]
  rfl
theorem wn_3 (lv : LV) (a b h : Int32) : F_X6_whyNot lv 3 a b h = if F_X6_isCourtier lv a = 0 then 1 else if vRight lv a.toNatClampNeg = 24 then 5 else 0 := by
  unfold F_X6_whyNot
  rw [if_neg (by decide), if_pos rfl]
  rfl
theorem wn_4 (lv : LV) (a b h : Int32) : F_X6_whyNot lv 4 a b h = F_X6_whyNotTwo lv 4 a b h := by
  unfold F_X6_whyNot
  rw [if_neg (by decide), if_neg (by decide), if_pos rfl]
  rfl
theorem wn_5 (lv : LV) (a b h : Int32) : F_X6_whyNot lv 5 a b h = F_X6_whyNotTwo lv 5 a b h := by
  unfold F_X6_whyNot
  rw [if_neg (by decide), if_neg (by decide), if_neg (by decide), if_pos rfl]
  rfl
theorem wn_6 (lv : LV) (a b h : Int32) : F_X6_whyNot lv 6 a b h = 0 := by
  unfold F_X6_whyNot
  rw [if_neg (by decide), if_neg (by decide), if_neg (by decide), if_neg (by decide), if_pos rfl]
theorem wn_d (lv : LV) {w : Int32} (a b h : Int32) (h2 : ¬ w = 2) (h3 : ¬ w = 3) (h4 : ¬ w = 4) (h5 : ¬ w = 5) (h6 : ¬ w = 6) : F_X6_whyNot lv w a b h = if F_X6_isCourtier lv a = 0 then 1 else if F_X6_owns lv a h = 0 then 3 else 0 := by
  unfold F_X6_whyNot
  rw [if_neg h2, if_neg h3, if_neg h4, if_neg h5, if_neg h6]
  rfl
theorem rgt24 {lv : LV} {c : Int32} (hr : rOK lv) (hc : vp_in c 6) (hn : ¬ vRight lv c.toNatClampNeg = 24) : vp_in (vRight lv c.toNatClampNeg) 24 := by
  obtain ⟨j, hj, rfl⟩ := vp_in_of hc (by decide)
  rw [nI_clamp (by omega)] at hn ⊢
  have h1 := hr j hj
  have h2 : (vRight lv j).toInt ≠ 24 := fun e => hn (Int32.toInt_inj.mp e)
  exact vp_in_iff.mpr (by omega)
theorem lose_o (lv : LV) (c h : Int32) : (∀ j, j ≠ c.toNatClampNeg → vRight (F_X6_lose lv c h) j = vRight lv j) ∧ (vRight (F_X6_lose lv c h) c.toNatClampNeg = vRight lv c.toNatClampNeg ∨ vRight (F_X6_lose lv c h) c.toNatClampNeg = 24) := by
  unfold F_X6_lose
  dsimp only [bnd]
  by_cases h1 : vLeft lv c.toNatClampNeg = h
  · rw [if_pos h1]
    by_cases h2 : vRight lv c.toNatClampNeg = h
    · rw [if_pos h2]
      exact ⟨fun j hj => pk_un hj, Or.inr pk_us⟩
    · rw [if_neg h2]
      exact ⟨fun j hj => pk_un hj, Or.inl pk_us⟩
  · rw [if_neg h1]
    by_cases h2 : vRight lv c.toNatClampNeg = h
    · rw [if_pos h2]
      exact ⟨fun j hj => pk_un hj, Or.inr pk_us⟩
    · rw [if_neg h2]
      exact ⟨fun j hj => pk_un hj, Or.inl pk_us⟩
def ddP (lv : LV) (dd : DD) (c : Int32) (z : LV × DD) : Prop := (∀ j, j ≠ c.toNatClampNeg → vRight z.1 j = vRight lv j) ∧ (vRight z.1 c.toNatClampNeg = vRight lv c.toNatClampNeg ∨ vRight z.1 c.toNatClampNeg = 24) ∧ eDeeds z.2 = eDeeds dd + 1
theorem ddP_if {lv : LV} {dd : DD} {x : Int32} {c : Prop} [Decidable c] {a b : LV × DD} (h1 : ddP lv dd x a) (h2 : ddP lv dd x b) : ddP lv dd x (if c then a else b) := by
  split
  · exact h1
  · exact h2
theorem dd_spec (lv : LV) (dd : DD) (c : Int32) : (∀ j, j ≠ c.toNatClampNeg → vRight (F_X6_doDeed lv dd c).1 j = vRight lv j) ∧ (vRight (F_X6_doDeed lv dd c).1 c.toNatClampNeg = vRight lv c.toNatClampNeg ∨ vRight (F_X6_doDeed lv dd c).1 c.toNatClampNeg = 24) ∧ eDeeds (F_X6_doDeed lv dd c).2 = eDeeds dd + 1 := by
  show ddP lv dd c (F_X6_doDeed lv dd c)
  unfold F_X6_doDeed
  dsimp only [bnd]
  repeat' apply ddP_if
  all_goals first | exact ⟨fun _ _ => rfl, Or.inl rfl, rfl⟩ | exact ⟨(lose_o _ c _).1, (lose_o _ c _).2, rfl⟩
theorem lose_right (lv : LV) (c h : Int32) (j : Nat) : vRight (F_X6_lose lv c h) j = vRight lv j ∨ vRight (F_X6_lose lv c h) j = 24 := by
  by_cases q : j = c.toNatClampNeg
  · subst q
    simp only [F_X6_lose, bnd]
    repeat' split
    all_goals first | exact Or.inr pk_us | exact Or.inl pk_us
  · simp only [F_X6_lose, bnd]
    repeat' split
    all_goals exact Or.inl (pk_un q)
theorem pass_right_n : ∀ (n i : Nat) (lv : LV), vRight (L_X6_passHour_2 n i lv) = vRight lv := by
  intro n
  induction n with
  | zero => intro i lv; rfl
  | succ n ih =>
    intro i lv
    rw [L_X6_passHour_2_s]
    simp only [bnd]
    repeat' split
    all_goals first | rfl | exact ih _ _
theorem rOK_of {lv u : LV} (h : ∀ j, j < 6 → vRight u j = vRight lv j ∨ vp_in (vRight u j) 25) (hr : rOK lv) : rOK u := by
  intro j hj
  rcases h j hj with e | e
  · rw [e]
    exact hr j hj
  · rw [vp_in_iff] at e
    omega
theorem wn_a {lv : LV} {w a b h : Int32} (hw : F_X6_whyNot lv w a b h = 0) (h6 : ¬ w = (6 : Int32)) : vp_in a 6 := by
  by_cases e : F_X6_isCourtier lv a = 0
  · exfalso
    by_cases h2 : w = 2
    · subst h2
      rw [wn_2, if_pos e] at hw
      exact absurd hw (by decide)
    by_cases h3 : w = 3
    · subst h3
      rw [wn_3, if_pos e] at hw
      exact absurd hw (by decide)
    by_cases h4 : w = 4
    · subst h4
      rw [wn_4] at hw
      exact (two_ok hw).1 e
    by_cases h5 : w = 5
    · subst h5
      rw [wn_5] at hw
      exact (two_ok hw).1 e
    rw [wn_d lv a b h h2 h3 h4 h5 h6, if_pos e] at hw
    exact absurd hw (by decide)
  · exact court_in rfl e
theorem wn_b {lv : LV} {w a b h : Int32} (hw : F_X6_whyNot lv w a b h = 0) (h4 : w = (4 : Int32) ∨ w = (5 : Int32)) : vp_in b 6 := by
  rcases h4 with rfl | rfl
  · rw [wn_4] at hw
    exact court_in rfl (two_ok hw).2.1
  · rw [wn_5] at hw
    exact court_in rfl (two_ok hw).2.1
theorem wn_r {lv : LV} {w a b h : Int32} (hw : F_X6_whyNot lv w a b h = 0) (hr : rOK lv) (h4 : w = (3 : Int32) ∨ w = (4 : Int32)) : vp_in (vRight lv a.toNatClampNeg) 24 := by
  rcases h4 with rfl | rfl
  · rw [wn_3] at hw
    by_cases h1 : F_X6_isCourtier lv a = 0
    · rw [if_pos h1] at hw
      exact absurd hw (by decide)
    rw [if_neg h1] at hw
    by_cases h2 : vRight lv a.toNatClampNeg = 24
    · rw [if_pos h2] at hw
      exact absurd hw (by decide)
    exact rgt24 hr (court_in rfl h1) h2
  · rw [wn_4] at hw
    have h1 := two_ok hw
    exact rgt24 hr (court_in rfl h1.1) (h1.2.2.2.1 (by decide)).1
theorem wn_rb {lv : LV} {dd : DD} {w a b h : Int32} {u : LV × DD} (hw : F_X6_whyNot lv w a b h = 0) (hr : rOK lv) (h4 : w = (4 : Int32)) (hu : F_X6_doDeed lv dd a = u) : vp_in (vRight u.1 b.toNatClampNeg) 24 := by
  subst h4
  subst hu
  rw [wn_4] at hw
  have h1 := two_ok hw
  have ha := court_in rfl h1.1
  have hb := court_in rfl h1.2.1
  have hab : b.toNatClampNeg ≠ a.toNatClampNeg := by
    obtain ⟨i, hi, rfl⟩ := vp_in_of ha (by decide)
    obtain ⟨j, hj, rfl⟩ := vp_in_of hb (by decide)
    rw [nI_clamp (by omega), nI_clamp (by omega)]
    intro e
    subst e
    exact h1.2.2.1 rfl
  rw [(dd_spec lv dd a).1 _ hab]
  exact rgt24 hr hb (h1.2.2.2.1 (by decide)).2.1
theorem dd_ge {lv : LV} {dd : DD} {a : Int32} {u : LV × DD} (hd : 0 ≤ (eDeeds dd).toInt ∧ (eDeeds dd).toInt ≤ 1000) (hu : F_X6_doDeed lv dd a = u) : 0 ≤ (eDeeds u.2).toInt := by
  subst hu
  rw [(dd_spec lv dd a).2.2, i_add1 hd.1 (by omega)]
  omega
theorem dd_rok {lv : LV} {dd : DD} {c : Int32} (hr : rOK lv) : rOK (F_X6_doDeed lv dd c).1 := by
  refine rOK_of (fun j hj => ?_) hr
  have h1 := dd_spec lv dd c
  by_cases q : j = c.toNatClampNeg
  · subst q
    rcases h1.2.1 with e | e
    · exact Or.inl e
    · exact Or.inr (by rw [e]; unfold vp_in; decide)
  · exact Or.inl (h1.1 j q)
theorem happen_rok {lv : LV} {dd : DD} {w a b h : Int32} {u : LV × DD} (hu : F_X6_happen lv dd w a b h = u) (hr : rOK lv) (hh : vp_in h 24) : rOK u.1 := by
  subst hu
  simp only [F_X6_happen, bnd]
  by_cases h0 : w = 0
  · rw [if_pos h0]
    exact hr
  rw [if_neg h0]
  by_cases h1 : w = 1
  · rw [if_pos h1]
    refine rOK_of (lv := lv) (fun j hj => ?_) hr
    by_cases q : j = a.toNatClampNeg
    · subst q
      exact Or.inr (by
        show vp_in (upd (vRight lv) a.toNatClampNeg h a.toNatClampNeg) 25
        rw [pk_us]
        rw [vp_in_iff] at hh ⊢
        omega)
    · exact Or.inl (pk_un q)
  rw [if_neg h1]
  by_cases h2 : w = 2
  · rw [if_pos h2]
    refine rOK_of (lv := lv) (fun j hj => ?_) hr
    by_cases q : j = a.toNatClampNeg
    · subst q
      exact Or.inr (by
        show vp_in (upd (vRight lv) a.toNatClampNeg 24 a.toNatClampNeg) 25
        rw [pk_us]
        unfold vp_in
        decide)
    · exact Or.inl (pk_un q)
  rw [if_neg h2]
  by_cases h3 : w = 3
  · rw [if_pos h3]
    exact dd_rok hr
  rw [if_neg h3]
  by_cases h4 : w = 4
  · rw [if_pos h4]
    exact dd_rok (dd_rok hr)
  rw [if_neg h4]
  by_cases h5 : w = 5
  · rw [if_pos h5]
    refine rOK_of (lv := lv) (fun j hj => ?_) hr
    rcases lose_right lv a h j with e | e
    · exact Or.inl e
    · exact Or.inr (by
        show vp_in (vRight (F_X6_lose lv a h) j) 25
        rw [e]
        unfold vp_in
        decide)
  rw [if_neg h5]
  refine rOK_of (lv := lv) (fun j hj => ?_) hr
  exact Or.inl (congrFun (pass_right_n _ _ lv) j)
def ndOf (w : Int32) : Nat := if w = 3 then 1 else if w = 4 then 2 else 0
theorem happen_nd {lv : LV} {dd : DD} {w a b h : Int32} (hd : 0 ≤ (eDeeds dd).toInt ∧ (eDeeds dd).toInt ≤ 1000) : (eDeeds (F_X6_happen lv dd w a b h).2).toInt = (eDeeds dd).toInt + ndOf w := by
  simp only [F_X6_happen, bnd, ndOf]
  by_cases h3 : w = 3
  · subst h3
    rw [if_neg (by decide), if_neg (by decide), if_neg (by decide), if_pos rfl, if_pos rfl, (dd_spec lv dd a).2.2, i_add1 hd.1 (by omega)]
    omega
  by_cases h4 : w = 4
  · subst h4
    rw [if_neg (by decide), if_neg (by decide), if_neg (by decide), if_neg (by decide), if_pos rfl, if_neg (by decide), if_pos rfl]
    have e1 : (eDeeds (F_X6_doDeed lv dd a).2).toInt = (eDeeds dd).toInt + 1 := by rw [(dd_spec lv dd a).2.2, i_add1 hd.1 (by omega)]
    rw [(dd_spec _ _ b).2.2, i_add1 (by omega) (by omega)]
    omega
  rw [if_neg h3, if_neg h4, if_neg h3, if_neg h4]
  repeat' split
  all_goals exact (Int.add_zero _).symm
theorem happen_deeds {lv : LV} {dd : DD} {w a b h : Int32} {u : LV × DD} {i : Nat} (hu : F_X6_happen lv dd w a b h = u) (hi : i < 400) (hd : 0 ≤ (eDeeds dd).toInt ∧ (eDeeds dd).toInt ≤ 2 * (i : Int)) : 0 ≤ (eDeeds u.2).toInt ∧ (eDeeds u.2).toInt ≤ 2 * ((i + 1 : Nat) : Int) := by
  subst hu
  rw [happen_nd ⟨hd.1, by omega⟩]
  have h1 : ndOf w ≤ 2 := by
    unfold ndOf
    repeat' split
    all_goals omega
  omega
theorem bc_deeds {dd u : DD} (hu : F_X6_beginCount dd = u) : 0 ≤ (eDeeds u).toInt ∧ (eDeeds u).toInt ≤ 2 * ((0 : Nat) : Int) := by
  subst hu
  show 0 ≤ (0 : Int32).toInt ∧ (0 : Int32).toInt ≤ 2 * ((0 : Nat) : Int)
  decide
theorem dd_le {x : Int} {i : Nat} (h : 0 ≤ x ∧ x ≤ 2 * (i : Int)) : 0 ≤ x ∧ x ≤ 2 * ((i + 1 : Nat) : Int) := by
  omega
