/-! courtiers, pairs: both sides ask the same of the same bits -/
theorem n_lt0 {c : Nat} (h : c < 2 ^ 31) : ¬ nI c < 0 := nI_pos h
theorem bnd_def {α β : Type} (x : α) (f : α → β) : bnd x f = f x := Eq.trans rfl rfl
theorem n_ge6 {c : Nat} (h : c < 6) : ¬ (6 : Int32) ≤ nI c := nI_ge h (by decide)
theorem n_ge24 {c : Nat} (h : c < 24) : ¬ (24 : Int32) ≤ nI c := nI_ge h (by decide)
theorem n_eq6 {c : Nat} (h : c = 6) : (6 : Int32) ≤ nI c := by subst h; decide
theorem n_eq24 {c : Nat} (h : c = 24) : (24 : Int32) ≤ nI c := by subst h; decide
theorem or0 (x : Int32) : x ||| (0 : Int32) = x := b_ext (fun i _ => by rw [b_or, b_0, Bool.or_false])
theorem n_ge {c N : Nat} (h : c < N) (hN : N < 2 ^ 31) : ¬ nI N ≤ nI c := nI_ge h hN
theorem there_nI {k : KS} {c : Nat} (hc : c < 6) : F_X1_isThere k (nI c) = if bt (kPresent k) c = true then 1 else 0 := by
  unfold F_X1_isThere
  rw [if_neg (n_lt0 (by omega)), if_neg (n_ge6 hc)]
  by_cases h : bt (kPresent k) c = true
  · rw [if_pos h, if_neg (fun e => by rw [(bt_and0 (by omega)).mp e] at h; cases h)]
  · rw [if_neg h, if_pos ((bt_and0 (by omega)).mpr (by simpa using h))]
theorem there_out {k : KS} {x : Int32} (h : ¬ vp_in x 6) : F_X1_isThere k x = 0 := by
  by_cases q : F_X1_isThere k x = 0
  · exact q
  · exact absurd (there_in rfl q) h
theorem court_nI {lv : LV} {c : Nat} (hc : c < 6) : F_X6_isCourtier lv (nI c) = if bt (vCourtiers lv) c = true then 1 else 0 := by
  unfold F_X6_isCourtier
  simp only [bnd_def]
  have e : F_X6_in (nI c).toInt64 0 5 = 1 := by
    rw [in_eq, Int32.toInt_toInt64, nI_toInt (by omega)]
    have e0 : (0 : Int64).toInt = 0 := rfl
    have e5 : (5 : Int64).toInt = 5 := rfl
    rw [if_pos (by omega)]
  rw [e, if_neg (by decide)]
  by_cases h : bt (vCourtiers lv) c = true
  · rw [if_pos h, if_pos ((bt_shr1 (by omega)).mpr h)]
  · rw [if_neg h, if_neg (fun e => h ((bt_shr1 (by omega)).mp e))]
theorem court_out {lv : LV} {x : Int32} (h : ¬ vp_in x 6) : F_X6_isCourtier lv x = 0 := by
  by_cases q : F_X6_isCourtier lv x = 0
  · exact q
  · exact absurd (court_in rfl q) h
theorem thereEq {k : KS} {lv : LV} (h : vCourtiers lv = kPresent k) (x : Int32) : F_X6_isCourtier lv x = F_X1_isThere k x := by
  by_cases q : vp_in x 6
  · obtain ⟨c, hc, rfl⟩ := vp_in_of q (by decide)
    rw [court_nI hc, there_nI hc, h]
  · rw [court_out q, there_out q]
theorem own_nI {k : KS} {c h : Nat} (hc : c < 6) (hh : h < 24) : F_X1_owns k (nI c) (nI h) = if bt (kPairs k c) h = true then 1 else 0 := by
  unfold F_X1_owns
  rw [if_neg (n_lt0 (by omega)), if_neg (n_ge6 hc), if_neg (n_lt0 (by omega)), if_neg (n_ge24 hh), nI_clamp (by omega)]
  by_cases q : bt (kPairs k c) h = true
  · rw [if_pos q, if_neg (fun e => by rw [(bt_and0 (by omega)).mp e] at q; cases q)]
  · rw [if_neg q, if_pos ((bt_and0 (by omega)).mpr (by simpa using q))]
theorem own_out {k : KS} {c h : Int32} (q : ¬ (vp_in c 6 ∧ vp_in h 24)) : F_X1_owns k c h = 0 := by
  by_cases e : F_X1_owns k c h = 0
  · exact e
  · exact absurd (own_in rfl e) q
theorem at_nI (c h : Nat) : F_X6_at (nI c) (nI h) = nI (24 * c + h) := by
  unfold F_X6_at
  rw [show (24 : Int32) = nI 24 from rfl, pk_mul, nI_add]
section CRS
variable {k : KS} {lv : LV}
theorem cr_cts (h : CR k lv) : vCourtiers lv = kPresent k := h.1.1
theorem cr_pc (h : CR k lv) {c : Nat} (hc : c < 6) (hb : bt (kPresent k) c = true) : PC k lv c := h.2.2.2.1 c hc hb
theorem cr_no (h : CR k lv) {c : Nat} (hc : c < 6) (hb : bt (kPresent k) c = false) : kPairs k c = 0 := h.2.2.2.2.1 c hc hb
theorem bt_0 (i : Nat) : bt 0 i = false := b_0 i
theorem own6_nI (h : CR k lv) {c x : Nat} (hc : c < 6) (hx : x < 24) : F_X6_owns lv (nI c) (nI x) = if bt (kPairs k c) x = true then 1 else 0 := by
  unfold F_X6_owns
  simp only [bnd_def]
  rw [court_nI hc, cr_cts h]
  by_cases hb : bt (kPresent k) c = true
  · rw [if_pos hb, if_neg (by decide), at_nI, nI_clamp (by omega)]
    have hp := (cr_pc h hc hb).2.2.2 x hx
    by_cases q : bt (kPairs k c) x = true
    · rw [if_pos q, (hp.1 q).1]
      have h1 := vp_nn (hp.1 q).2
      rw [if_neg (fun e => by rw [Int32.lt_iff_toInt_lt] at e; have e0 : (0 : Int32).toInt = 0 := rfl; omega)]
    · rw [if_neg q, hp.2 (by simpa using q), if_pos (by decide)]
  · have hb2 : bt (kPresent k) c = false := by simpa using hb
    rw [if_neg hb, if_pos rfl, cr_no h hc hb2, bt_0, if_neg (by decide)]
theorem ownsEq (h : CR k lv) (c : Int32) {x : Int32} (hx : vp_in x 24) : F_X6_owns lv c x = F_X1_owns k c x := by
  obtain ⟨i, hi, rfl⟩ := vp_in_of hx (by decide)
  by_cases q : vp_in c 6
  · obtain ⟨j, hj, rfl⟩ := vp_in_of q (by decide)
    rw [own6_nI h hj hi, own_nI hj hi]
  · rw [own_out (fun e => q e.1)]
    unfold F_X6_owns
    simp only [bnd_def]
    rw [court_out q, if_pos rfl]
theorem ownersEq (h : CR k lv) {x : Int32} (hx : vp_in x 24) : F_X6_ownersOf lv x = F_X1_ownersOf k x := by
  have key : ∀ (n i : Nat) (v : Int32), L_X6_ownersOf_4 lv x n i v = L_X1_ownersOf_4 k x n i v := by
    intro n
    induction n with
    | zero => intro i v; rfl
    | succ n ih =>
      intro i v
      rw [L_X6_ownersOf_4_s, L_X1_ownersOf_4_s]
      by_cases c : (6 : Int32) ≤ nI i
      · rw [if_pos c, if_pos c]
      · rw [if_neg c, if_neg c]
        simp only [bnd_def]
        rw [ownsEq h _ hx]
        by_cases d : F_X1_owns k (nI i) x = 0
        · rw [if_pos d, if_pos d, or0, ih]
        · rw [if_neg d, if_neg d, ih]
  unfold F_X6_ownersOf F_X1_ownersOf
  rw [bnd_def, bnd_def]
  exact key _ _ _
/-- a loop that gathers bits -/
theorem or_bits {p : Nat → Bool} {N : Nat} (hN : N ≤ 32) {L : Nat → Nat → Int32 → Int32} (h0 : ∀ n i v, i = N → L (n + 1) i v = v) (hs : ∀ n i v, i < N → L (n + 1) i v = if p i = true then L n (i + 1) (v ||| ((1 : Int32) <<< (nI i &&& 31))) else L n (i + 1) v) : ∀ (n i : Nat) (v : Int32), i ≤ N → N < i + n → ∀ j, j < 32 → bt (L n i v) j = (bt v j || (decide (i ≤ j ∧ j < N) && p j)) := by
  intro n
  induction n with
  | zero => intro i v h1 h2; omega
  | succ n ih =>
    intro i v h1 h2 j hj
    by_cases q : i = N
    · rw [h0 n i v q, decide_eq_false (by omega)]
      simp
    · rw [hs n i v (by omega)]
      by_cases w : p i = true
      · rw [if_pos w, ih (i + 1) _ (by omega) (by omega) j hj, b_or, bt_one (by omega) hj]
        by_cases e : i = j
        · subst e
          rw [decide_eq_true (show i = i from rfl), w, decide_eq_true (show i ≤ i ∧ i < N by omega)]
          simp
        · rw [decide_eq_false e, show decide (i + 1 ≤ j ∧ j < N) = decide (i ≤ j ∧ j < N) from decide_eq_decide.mpr (by omega)]
          simp
      · rw [if_neg w, ih (i + 1) _ (by omega) (by omega) j hj]
        by_cases e : i = j
        · subst e
          have w2 : p i = false := by simpa using w
          rw [w2]
          simp
        · rw [show decide (i + 1 ≤ j ∧ j < N) = decide (i ≤ j ∧ j < N) from decide_eq_decide.mpr (by omega)]
theorem pairs6_nI (h : CR k lv) {c : Nat} (hc : c < 6) : F_X6_pairsOf lv (nI c) = kPairs k c := by
  unfold F_X6_pairsOf
  rw [bnd_def]
  refine b_ext (fun j hj => ?_)
  have key := or_bits (p := fun x => bt (kPairs k c) x) (N := 24) (by decide) (L := L_X6_pairsOf_4 lv (nI c)) (fun n i v e => by
    rw [L_X6_pairsOf_4_s, if_pos (n_eq24 e)]) (fun n i v e => by
    rw [L_X6_pairsOf_4_s, if_neg (n_ge24 e)]
    simp only [bnd_def]
    rw [own6_nI h hc e]
    by_cases q : bt (kPairs k c) i = true
    · rw [if_pos q, if_neg (by decide), if_pos q]
    · rw [if_neg q, if_pos rfl, if_neg q, or0]) (24 + 1) 0 0 (by omega) (by omega) j hj
  rw [key, b_0]
  rcases Nat.lt_or_ge j 24 with q | q
  · simp [q]
  · rw [bt_small (k := 24) (h.2.2.2.2.2.1 c hc) (by decide) q]
    simp
theorem pairs1_nI (h : CR k lv) {c : Nat} (hc : c < 6) : F_X1_pairsOf k (nI c) = kPairs k c := by
  unfold F_X1_pairsOf
  simp only [bnd_def]
  rw [there_nI hc, nI_clamp (by omega)]
  by_cases hb : bt (kPresent k) c = true
  · rw [if_pos hb, if_neg (by decide)]
  · rw [if_neg hb, if_pos rfl, cr_no h hc (by simpa using hb)]
theorem pairs6_out {x : Int32} (q : ¬ vp_in x 6) : F_X6_pairsOf lv x = 0 := by
  have key : ∀ (n i : Nat), L_X6_pairsOf_4 lv x n i 0 = 0 := by
    intro n
    induction n with
    | zero => intro i; rfl
    | succ n ih =>
      intro i
      rw [L_X6_pairsOf_4_s]
      split
      · rfl
      · have e : F_X6_owns lv x (nI i) = 0 := by
          unfold F_X6_owns
          simp only [bnd_def]
          rw [court_out q, if_pos rfl]
        rw [bnd_def, e, if_pos rfl, or0]
        exact ih _
  unfold F_X6_pairsOf
  rw [bnd_def]
  exact key _ _
theorem pairsEq (h : CR k lv) (x : Int32) : F_X6_pairsOf lv x = F_X1_pairsOf k x := by
  by_cases q : vp_in x 6
  · obtain ⟨c, hc, rfl⟩ := vp_in_of q (by decide)
    rw [pairs6_nI h hc, pairs1_nI h hc]
  · rw [pairs6_out q]
    unfold F_X1_pairsOf
    simp only [bnd_def]
    rw [there_out q, if_pos rfl]
theorem pairs_24 (h : CR k lv) (x : Int32) : vp_in (F_X1_pairsOf k x) (2 ^ 24) := by
  by_cases q : vp_in x 6
  · obtain ⟨c, hc, rfl⟩ := vp_in_of q (by decide)
    rw [pairs1_nI h hc]
    exact h.2.2.2.2.2.1 c hc
  · unfold F_X1_pairsOf
    simp only [bnd_def]
    rw [there_out q, if_pos rfl]
    exact in_0 (by decide)
theorem countEq (h : CR k lv) (x : Int32) : F_X6_ones (F_X6_pairsOf lv x) = F_X1_countPairs k x := by
  unfold F_X1_countPairs
  simp only [bnd_def]
  rw [pairsEq h, bitCount_ones (pairs_24 h x)]
theorem owners_6 (k : KS) (x : Int32) : vp_in (F_X1_ownersOf k x) (2 ^ 6) := by
  refine bt_in (by decide) (fun j h6 hj => ?_)
  unfold F_X1_ownersOf
  rw [bnd_def, or_bits (p := fun c => decide (¬ F_X1_owns k (nI c) x = 0)) (N := 6) (by decide) (L := L_X1_ownersOf_4 k x) (fun n i v e => by
    rw [L_X1_ownersOf_4_s, if_pos (n_eq6 e)]) (fun n i v e => by
    rw [L_X1_ownersOf_4_s, if_neg (n_ge6 e)]
    simp only [bnd_def]
    by_cases q : F_X1_owns k (nI i) x = 0
    · rw [if_pos q, if_neg (by simp [q])]
    · rw [if_neg q, if_pos (by simp [q])]) (6 + 1) 0 0 (by omega) (by omega) j hj, b_0, decide_eq_false (by omega)]
  rfl
theorem owners_bt (k : KS) (x : Int32) {j : Nat} (hj : j < 6) : bt (F_X1_ownersOf k x) j = decide (¬ F_X1_owns k (nI j) x = 0) := by
  unfold F_X1_ownersOf
  rw [bnd_def, or_bits (p := fun c => decide (¬ F_X1_owns k (nI c) x = 0)) (N := 6) (by decide) (L := L_X1_ownersOf_4 k x) (fun n i v e => by
    rw [L_X1_ownersOf_4_s, if_pos (n_eq6 e)]) (fun n i v e => by
    rw [L_X1_ownersOf_4_s, if_neg (n_ge6 e)]
    simp only [bnd_def]
    by_cases q : F_X1_owns k (nI i) x = 0
    · rw [if_pos q, if_neg (by simp [q])]
    · rw [if_neg q, if_pos (by simp [q])]) (6 + 1) 0 0 (by omega) (by omega) j (by omega), b_0, decide_eq_true (by omega)]
  simp
theorem aheadEq : ∀ c, c < 24 → (((nI c) + (24 : Int32)) - (1 : Int32)) - (((nI c) + (24 : Int32)) - (1 : Int32)) / (24 : Int32) * (24 : Int32) = if nI c = 0 then 23 else nI c - 1 := by decide +kernel
theorem properEq (h : CR k lv) (x : Int32) : F_X6_isProper lv x = F_X1_isProper k x := by
  unfold F_X6_isProper F_X1_isProper
  simp only [bnd_def]
  rw [thereEq (cr_cts h)]
  by_cases d : F_X1_isThere k x = 0
  · rw [if_pos d, if_pos d]
  · rw [if_neg d, if_neg d]
    have hx := there_in rfl d
    obtain ⟨c, hc, rfl⟩ := vp_in_of hx (by decide)
    rw [nI_clamp (by omega)]
    have hb : bt (kPresent k) c = true := by
      rw [there_nI hc] at d
      by_cases q : bt (kPresent k) c = true
      · exact q
      · rw [if_neg q] at d
        exact absurd rfl d
    obtain ⟨⟨e1, e2, e3⟩, -⟩ := cr_pc h hc hb
    obtain ⟨cl, hcl, ecl⟩ := vp_in_of h.2.1.2 (by decide)
    rw [e1, e2, h.2.1.1, ecl, aheadEq cl hcl]
    by_cases q : kRight k c = nI cl
    · rw [if_pos q, if_pos q]
      by_cases z : nI cl = 0
      · rw [if_pos z, if_pos z]
      · rw [if_neg z, if_neg z]
    · rw [if_neg q, if_neg q]
end CRS
