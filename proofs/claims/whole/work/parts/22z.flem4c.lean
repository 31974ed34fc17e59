/-! pairs that tear by chance, in whole numbers -/
def tp (n t : Nat) : Nat → Nat → Nat
  | 0, k => if k < 10 ∧ k = n then 1 else 0
  | e + 1, k => if k = 0 then 10 * tp n t e 0 + t * tp n t e 1 else if k < 10 then (10 - t) * tp n t e k + t * tp n t e (k + 1) else 0
def tdn (n t : Nat) : Nat → Nat
  | 0 => 0
  | e + 1 => 10 * (tdn n t e + 10 ^ e - tp n t e 0)
def tsum (f : Nat → Nat) : Nat → Nat
  | 0 => 0
  | k + 1 => tsum f k + f k
theorem tp_10 (n t e : Nat) {k : Nat} (h : 10 ≤ k) : tp n t e k = 0 := by
  cases e with
  | zero => exact if_neg (by omega)
  | succ e =>
    show (if k = 0 then _ else if k < 10 then _ else 0) = 0
    rw [if_neg (by omega), if_neg (by omega)]
theorem tsum_tp (n t : Nat) (hn : n ≤ 9) (ht : t ≤ 10) : ∀ e, tsum (tp n t e) 10 = 10 ^ e := by
  intro e
  induction e with
  | zero =>
    rcases (show n = 0 ∨ n = 1 ∨ n = 2 ∨ n = 3 ∨ n = 4 ∨ n = 5 ∨ n = 6 ∨ n = 7 ∨ n = 8 ∨ n = 9 by omega) with rfl | rfl | rfl | rfl | rfl | rfl | rfl | rfl | rfl | rfl <;> rfl
  | succ e ih =>
    obtain ⟨u, hu⟩ : ∃ u, 10 = u + t := ⟨10 - t, by omega⟩
    have hs : 10 - t = u := by omega
    have e9 := tp_10 n t e (k := 10) (by omega)
    have h0 : tp n t (e + 1) 0 = 10 * tp n t e 0 + t * tp n t e 1 := if_pos rfl
    have hk : ∀ k, 0 < k → k < 10 → tp n t (e + 1) k = u * tp n t e k + t * tp n t e (k + 1) := by
      intro k k1 k2
      show (if k = 0 then _ else if k < 10 then _ else 0) = _
      rw [if_neg (by omega), if_pos k2, hs]
    have ih' : tp n t e 0 + tp n t e 1 + tp n t e 2 + tp n t e 3 + tp n t e 4 + tp n t e 5 + tp n t e 6 + tp n t e 7 + tp n t e 8 + tp n t e 9 = 10 ^ e := by
      rw [← ih]
      show _ = 0 + tp n t e 0 + tp n t e 1 + tp n t e 2 + tp n t e 3 + tp n t e 4 + tp n t e 5 + tp n t e 6 + tp n t e 7 + tp n t e 8 + tp n t e 9
      omega
    show 0 + tp n t (e + 1) 0 + tp n t (e + 1) 1 + tp n t (e + 1) 2 + tp n t (e + 1) 3 + tp n t (e + 1) 4 + tp n t (e + 1) 5 + tp n t (e + 1) 6 + tp n t (e + 1) 7 + tp n t (e + 1) 8 + tp n t (e + 1) 9 = 10 ^ (e + 1)
    rw [h0, hk 1 (by omega) (by omega), hk 2 (by omega) (by omega), hk 3 (by omega) (by omega), hk 4 (by omega) (by omega), hk 5 (by omega) (by omega), hk 6 (by omega) (by omega), hk 7 (by omega) (by omega), hk 8 (by omega) (by omega), hk 9 (by omega) (by omega), Nat.pow_succ, ← ih']
    simp only [Nat.reduceAdd]
    rw [e9]
    generalize tp n t e 0 = x0
    generalize tp n t e 1 = x1
    generalize tp n t e 2 = x2
    generalize tp n t e 3 = x3
    generalize tp n t e 4 = x4
    generalize tp n t e 5 = x5
    generalize tp n t e 6 = x6
    generalize tp n t e 7 = x7
    generalize tp n t e 8 = x8
    generalize tp n t e 9 = x9
    have g : ∀ x : Nat, u * x + t * x = 10 * x := fun x => by rw [← Nat.add_mul, ← hu]
    have g1 := g x1
    have g2 := g x2
    have g3 := g x3
    have g4 := g x4
    have g5 := g x5
    have g6 := g x6
    have g7 := g x7
    have g8 := g x8
    have g9 := g x9
    omega
theorem tp_le (n t : Nat) (hn : n ≤ 9) (ht : t ≤ 10) (e k : Nat) : tp n t e k ≤ 10 ^ e := by
  rcases Nat.lt_or_ge k 10 with q | q
  · have h := tsum_tp n t hn ht e
    have h1 : 0 + tp n t e 0 + tp n t e 1 + tp n t e 2 + tp n t e 3 + tp n t e 4 + tp n t e 5 + tp n t e 6 + tp n t e 7 + tp n t e 8 + tp n t e 9 = 10 ^ e := h
    rcases (show k = 0 ∨ k = 1 ∨ k = 2 ∨ k = 3 ∨ k = 4 ∨ k = 5 ∨ k = 6 ∨ k = 7 ∨ k = 8 ∨ k = 9 by omega) with rfl | rfl | rfl | rfl | rfl | rfl | rfl | rfl | rfl | rfl <;> omega
  · rw [tp_10 n t e q]
    exact Nat.zero_le _
theorem tdn_le (n t : Nat) : ∀ e, tdn n t e ≤ e * 10 ^ e := by
  intro e
  induction e with
  | zero => exact Nat.le_refl _
  | succ e ih =>
    show 10 * (tdn n t e + 10 ^ e - tp n t e 0) ≤ (e + 1) * 10 ^ (e + 1)
    rw [Nat.pow_succ, Nat.add_mul, ← Nat.mul_assoc]
    omega
theorem pow10_le {e : Nat} (h : e ≤ 12) : 10 ^ e ≤ 1000000000000 := by
  rcases (show e = 0 ∨ e = 1 ∨ e = 2 ∨ e = 3 ∨ e = 4 ∨ e = 5 ∨ e = 6 ∨ e = 7 ∨ e = 8 ∨ e = 9 ∨ e = 10 ∨ e = 11 ∨ e = 12 by omega) with rfl | rfl | rfl | rfl | rfl | rfl | rfl | rfl | rfl | rfl | rfl | rfl | rfl <;> decide
theorem upL_at {f : Nat → Int64} {k : Nat} {x : Int64} (j : Nat) : vp_updL f k x j = if j = k then x else f j := by
  by_cases q : j = k
  · subst q
    rw [if_pos rfl, pk_uLs]
  · rw [if_neg q, pk_uLn q]
theorem t65 {xn : Int32} : ∀ (m i : Nat) (pa : PA), i ≤ 10 → 10 < i + m → ∀ k, L_X6_tear_65 xn m i pa k = if i ≤ k ∧ k < 10 then (if nI k = xn then 1 else 0) else pa k := by
  intro m
  induction m with
  | zero => intro i pa h1 h2; omega
  | succ m ih =>
    intro i pa h1 h2 k
    rw [L_X6_tear_65_s]
    by_cases c : (10 : Int32) ≤ nI i
    · rw [if_pos c]
      have hi : i = 10 := le_gI (x := 10) c rfl (by decide) h1 (by decide)
      subst hi
      rw [if_neg (by omega)]
    · rw [if_neg c]
      have hi := lt_g c h1 (by decide)
      by_cases d : nI i = xn
      · rw [if_pos d, ih (i + 1) _ (by omega) (by omega) k, nI_clamp (by omega), upL_at]
        by_cases q : k = i
        · subst q
          rw [if_neg (by omega), if_pos rfl, if_pos (by omega), if_pos d]
        · rw [if_neg q]
          by_cases p1 : i ≤ k ∧ k < 10
          · rw [if_pos p1, if_pos (by omega)]
          · rw [if_neg p1, if_neg (by omega)]
      · rw [if_neg d, ih (i + 1) _ (by omega) (by omega) k, nI_clamp (by omega), upL_at]
        by_cases q : k = i
        · subst q
          rw [if_neg (by omega), if_pos rfl, if_pos (by omega), if_neg d]
        · rw [if_neg q]
          by_cases p1 : i ≤ k ∧ k < 10
          · rw [if_pos p1, if_pos (by omega)]
          · rw [if_neg p1, if_neg (by omega)]
theorem t158 {t : Nat} (ht : t ≤ 10) : ∀ (m i : Nat) (pa : PA) (f : Nat → Nat), 1 ≤ i → i ≤ 10 → 10 < i + m → f 10 = 0 → (∀ k, i ≤ k → k < 10 → pa k = lN (f k)) → ∀ k, L_X6_tear_158 (nI t) m i pa k = if i ≤ k ∧ k < 10 then lN ((10 - t) * f k + t * f (k + 1)) else pa k := by
  intro m
  induction m with
  | zero => intro i pa f h0 h1 h2; omega
  | succ m ih =>
    intro i pa f h0 h1 h2 h10 hf k
    rw [L_X6_tear_158_s]
    by_cases c : (10 : Int32) ≤ nI i
    · rw [if_pos c]
      have hi : i = 10 := le_gI (x := 10) c rfl (by decide) h1 (by decide)
      subst hi
      rw [if_neg (by omega)]
    · rw [if_neg c]
      have hi := lt_g c h1 (by decide)
      have et : (10 : Int64) - (nI t).toInt64 = lN (10 - t) := by
        rw [nI_l (by omega), show (10 : Int64) = lN 10 from rfl, lN_sub ht]
      have fin : ∀ x : Int64, x = lN ((10 - t) * f i + t * f (i + 1)) → L_X6_tear_158 (nI t) m (i + 1) (vp_updL (tParts pa) (nI i).toNatClampNeg x) k = if i ≤ k ∧ k < 10 then lN ((10 - t) * f k + t * f (k + 1)) else pa k := by
        intro x hx
        rw [ih (i + 1) _ f (by omega) (by omega) (by omega) h10 (fun j j1 j2 => by rw [nI_clamp (by omega), upL_at, if_neg (by omega)]; exact hf j (by omega) j2) k, nI_clamp (by omega), upL_at]
        by_cases q : k = i
        · subst q
          rw [if_neg (by omega), if_pos rfl, if_pos (by omega), hx]
        · rw [if_neg q]
          by_cases p1 : i ≤ k ∧ k < 10
          · rw [if_pos p1, if_pos (by omega)]
          · rw [if_neg p1, if_neg (by omega)]
      by_cases d : (9 : Int32) ≤ nI i
      · rw [if_pos d]
        refine fin _ ?_
        have h9 : i = 9 := by
          rcases Nat.lt_or_ge i 9 with q | q
          · exact absurd d (nI_ge (a := i) (b := 9) q (by decide))
          · omega
        subst h9
        rw [et, nI_clamp (by omega)]
        dsimp only [tParts]
        rw [hf 9 (by omega) (by omega), lN_mul, show (0 : Int64) = lN 0 from rfl, lN_add, h10, Nat.mul_zero]
      · rw [if_neg d]
        refine fin _ ?_
        have h9 := lt_9 d hi
        rw [et, nI_clamp (by omega), nI_clamp (by omega), nI_l (by omega)]
        dsimp only [tParts]
        rw [hf i (by omega) (by omega), hf (i + 1) (by omega) (by omega), lN_mul, lN_mul, lN_add]
theorem t105 {n t : Nat} (hn : n ≤ 9) (ht : t ≤ 10) {xm : Int32} (hm : 0 ≤ xm.toInt) : ∀ (m i : Nat) (a b : Int64) (pa : PA), i ≤ xm.toNatClampNeg → xm.toNatClampNeg < i + m → xm.toNatClampNeg ≤ 12 → a = lN (tdn n t i) → b = lN (10 ^ i) → (∀ k, k < 10 → pa k = lN (tp n t i k)) → (L_X6_tear_105 xm (nI t) m i a b pa).1 = lN (tdn n t xm.toNatClampNeg) ∧ (L_X6_tear_105 xm (nI t) m i a b pa).2.1 = lN (10 ^ xm.toNatClampNeg) ∧ ∀ k, k < 10 → (L_X6_tear_105 xm (nI t) m i a b pa).2.2 k = lN (tp n t xm.toNatClampNeg k) := by
  intro m
  induction m with
  | zero => intro i a b pa h1 h2; omega
  | succ m ih =>
    intro i a b pa h1 h2 h12 ha hb hp
    rw [L_X6_tear_105_s]
    by_cases c : xm ≤ nI i
    · rw [if_pos c]
      have hi := le_gI c rfl hm h1 (by omega)
      rw [← hi]
      exact ⟨ha, hb, hp⟩
    · rw [if_neg c]
      have hi := lt_c c h1
      simp only [bnd]
      have h10 := tp_10 n t i (k := 10) (by omega)
      have z : (0 : Int32).toNatClampNeg = 0 := rfl
      have o : (1 : Int32).toNatClampNeg = 1 := rfl
      refine ih (i + 1) _ _ _ (by omega) (by omega) h12 ?_ ?_ ?_
      · dsimp only [tParts]
        rw [z, ha, hb, hp 0 (by omega), lN_add, lN_sub (Nat.le_trans (tp_le n t hn ht i 0) (Nat.le_add_left _ _)), show (10 : Int64) = lN 10 from rfl, lN_mul]
        rfl
      · rw [hb, show (10 : Int64) = lN 10 from rfl, lN_mul, Nat.pow_succ]
      · intro k hk
        rw [t158 ht _ _ _ (tp n t i) (by omega) (by omega) (by omega) h10 (fun j j1 j2 => by rw [z, upL_at, if_neg (by omega)]; exact hp j j2) k]
        by_cases q : k = 0
        · subst q
          rw [if_neg (by omega), z, upL_at, if_pos rfl, o]
          dsimp only [tParts]
          rw [hp 0 (by omega), hp 1 (by omega), nI_l (by omega), show (10 : Int64) = lN 10 from rfl, lN_mul, lN_mul, lN_add]
          exact congrArg lN (if_pos rfl).symm
        · rw [if_pos (by omega)]
          refine congrArg lN ?_
          show _ = (if k = 0 then _ else if k < 10 then _ else 0)
          rw [if_neg q, if_pos hk]
theorem tear_all {n m t r6 r18 r30 : Int32} {pa w65 : PA} {w : Int64 × Int64 × PA} (h65 : L_X6_tear_65 n (10 + 1) 0 pa = w65) (h105 : L_X6_tear_105 m t (m.toNatClampNeg + 1) 0 (0 : Int64) (1 : Int64) w65 = w) (h6 : F_X6_in n.toInt64 0 9 = r6) (n6 : ¬ r6 = 0) (h18 : F_X6_in m.toInt64 0 12 = r18) (n18 : ¬ r18 = 0) (h30 : F_X6_in t.toInt64 0 10 = r30) (n30 : ¬ r30 = 0) : (∃ a c : Nat, n = nI a ∧ a ≤ 9 ∧ t = nI c ∧ c ≤ 10 ∧ m.toNatClampNeg ≤ 12 ∧ w.1 = lN (tdn a c m.toNatClampNeg) ∧ w.2.1 = lN (10 ^ m.toNatClampNeg) ∧ ∀ k, k < 10 → w.2.2 k = lN (tp a c m.toNatClampNeg k)) := by
  have hn := in_in (n := 10) h6 n6 (by decide)
  have hm := in_in (n := 13) h18 n18 (by decide)
  have ht := in_in (n := 11) h30 n30 (by decide)
  obtain ⟨a, ha, rfl⟩ := vp_in_of hn (by decide)
  obtain ⟨c, hc, rfl⟩ := vp_in_of ht (by decide)
  have hm12 : m.toNatClampNeg ≤ 12 := by
    obtain ⟨b, hb, rfl⟩ := vp_in_of hm (by decide)
    rw [nI_clamp (by omega)]
    omega
  subst h65
  subst h105
  have h0 : ∀ k, k < 10 → L_X6_tear_65 (nI a) (10 + 1) 0 pa k = lN (tp a c 0 k) := by
    intro k hk
    rw [t65 _ _ _ (by omega) (by omega) k, if_pos (by omega)]
    show _ = lN (if k < 10 ∧ k = a then 1 else 0)
    by_cases q : k = a
    · subst q
      rw [if_pos rfl, if_pos ⟨hk, rfl⟩]
      rfl
    · rw [if_neg (fun e => q ((nI_eq (by omega) (by omega)).mp e)), if_neg (fun e => q e.2)]
      rfl
  have h1 := t105 (n := a) (t := c) (by omega) (by omega) (vp_nn hm) (m.toNatClampNeg + 1) 0 0 1 _ (Nat.zero_le _) (by omega) hm12 rfl rfl h0
  exact ⟨a, c, rfl, by omega, rfl, by omega, hm12, h1.1, h1.2.1, h1.2.2⟩
theorem tear_l {n m t r6 r18 r30 : Int32} {pa w65 : PA} {w : Int64 × Int64 × PA} (h65 : L_X6_tear_65 n (10 + 1) 0 pa = w65) (h105 : L_X6_tear_105 m t (m.toNatClampNeg + 1) 0 (0 : Int64) (1 : Int64) w65 = w) (h6 : F_X6_in n.toInt64 0 9 = r6) (n6 : ¬ r6 = 0) (h18 : F_X6_in m.toInt64 0 12 = r18) (n18 : ¬ r18 = 0) (h30 : F_X6_in t.toInt64 0 10 = r30) (n30 : ¬ r30 = 0) : 0 < w.2.1.toInt := by
  obtain ⟨a, c, -, -, -, -, h12, -, e, -⟩ := tear_all h65 h105 h6 n6 h18 n18 h30 n30
  have h1 := pow10_le h12
  have h2 : 0 < 10 ^ m.toNatClampNeg := Nat.pow_pos (by decide)
  rw [e, pk_lT (by omega)]
  omega
theorem tear_u0 {n m t r6 r18 r30 : Int32} {pa w65 : PA} {w : Int64 × Int64 × PA} (h65 : L_X6_tear_65 n (10 + 1) 0 pa = w65) (h105 : L_X6_tear_105 m t (m.toNatClampNeg + 1) 0 (0 : Int64) (1 : Int64) w65 = w) (h6 : F_X6_in n.toInt64 0 9 = r6) (n6 : ¬ r6 = 0) (h18 : F_X6_in m.toInt64 0 12 = r18) (n18 : ¬ r18 = 0) (h30 : F_X6_in t.toInt64 0 10 = r30) (n30 : ¬ r30 = 0) : 0 ≤ (w.2.1 - tParts w.2.2 (0 : Int32).toNatClampNeg).toInt := by
  obtain ⟨a, c, -, ha, -, hc, h12, -, e, e2⟩ := tear_all h65 h105 h6 n6 h18 n18 h30 n30
  have h1 := pow10_le h12
  have z : (0 : Int32).toNatClampNeg = 0 := rfl
  dsimp only [tParts]
  rw [z, e, e2 0 (by omega), lN_sub (tp_le a c ha hc _ 0), pk_lT (by omega)]
  omega
theorem tear_u1 {n m t r6 r18 r30 : Int32} {pa w65 : PA} {w : Int64 × Int64 × PA} (h65 : L_X6_tear_65 n (10 + 1) 0 pa = w65) (h105 : L_X6_tear_105 m t (m.toNatClampNeg + 1) 0 (0 : Int64) (1 : Int64) w65 = w) (h6 : F_X6_in n.toInt64 0 9 = r6) (n6 : ¬ r6 = 0) (h18 : F_X6_in m.toInt64 0 12 = r18) (n18 : ¬ r18 = 0) (h30 : F_X6_in t.toInt64 0 10 = r30) (n30 : ¬ r30 = 0) : 0 ≤ w.1.toInt := by
  obtain ⟨a, c, -, ha, -, hc, h12, e, -, -⟩ := tear_all h65 h105 h6 n6 h18 n18 h30 n30
  have h1 := pow10_le h12
  have h2 := tdn_le a c m.toNatClampNeg
  have h3 : m.toNatClampNeg * 10 ^ m.toNatClampNeg ≤ 12 * 1000000000000 := Nat.mul_le_mul h12 h1
  rw [e, pk_lT (by omega)]
  omega
