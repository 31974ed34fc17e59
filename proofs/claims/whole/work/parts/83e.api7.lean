/-! images -/
theorem upd_id (f : Nat → Int32) (k : Nat) : upd f k (f k) = f := funext fun j => by
  by_cases e : j = k
  · rw [e, pk_us]
  · rw [pk_un e]
def agL (a b : LV) : Prop := vCourtiers a = vCourtiers b ∧ vClock a = vClock b ∧ vTears a = vTears b ∧ (∀ c, c < 6 → vLeft a c = vLeft b c ∧ vRight a c = vRight b c ∧ vScandals a c = vScandals b c) ∧ ∀ j, j < 144 → vWearOf a j = vWearOf b j
def agS (a b : SG) : Prop := sSights a = sSights b ∧ ∀ j, j < 8 → sSightHour a j = sSightHour b j ∧ sSightOwned a j = sSightOwned b j
def agK (a b : KS) : Prop := kPresent a = kPresent b ∧ kClock a = kClock b ∧ kTears a = kTears b ∧ (∀ c, c < 6 → kPairs a c = kPairs b c ∧ kLeft a c = kLeft b c ∧ kRight a c = kRight b c ∧ kScandals a c = kScandals b c) ∧ ∀ j, j < 144 → kWears a j = kWears b j
theorem agL_s {a b : LV} (h : agL a b) : agL b a := ⟨h.1.symm, h.2.1.symm, h.2.2.1.symm, fun c hc => ⟨(h.2.2.2.1 c hc).1.symm, (h.2.2.2.1 c hc).2.1.symm, (h.2.2.2.1 c hc).2.2.symm⟩, fun j hj => (h.2.2.2.2 j hj).symm⟩
theorem agS_s {a b : SG} (h : agS a b) : agS b a := ⟨h.1.symm, fun j hj => ⟨(h.2 j hj).1.symm, (h.2 j hj).2.symm⟩⟩
theorem cr_cong {k k' : KS} {lv lv' : LV} (h : CR k lv) (g : agK k' k) (f : agL lv' lv) : CR k' lv' := by
  obtain ⟨⟨a1, a2⟩, ⟨a3, a3'⟩, ⟨a4, a4'⟩, a5, a6, a7, a8⟩ := h
  obtain ⟨g1, g2, g3, g4, g5⟩ := g
  obtain ⟨f1, f2, f3, f4, f5⟩ := f
  refine ⟨⟨by rw [f1, g1, a1], by rw [g1]; exact a2⟩, ⟨by rw [f2, g2, a3], by rw [g2]; exact a3'⟩, ⟨by rw [f3, g3, a4], by rw [g3]; exact a4'⟩, fun c hc hb => ?_, fun c hc hb => ?_, fun c hc => ?_, fun j hj => ?_⟩
  · rw [g1] at hb
    exact pc_cong (a5 c hc hb) (g4 c hc).1 (g4 c hc).2.1 (g4 c hc).2.2.1 (g4 c hc).2.2.2 (fun x hx => g5 _ (by omega)) (f4 c hc).1 (f4 c hc).2.1 (f4 c hc).2.2 (fun x hx => f5 _ (by omega))
  · rw [g1] at hb
    rw [(g4 c hc).1]
    exact a6 c hc hb
  · rw [(g4 c hc).1]
    exact a7 c hc
  · rw [(f4 j hj).2.1]
    exact a8 j hj
theorem sr_cong {k k' : KS} {sg sg' : SG} (h : SR k sg) (g1 : kSights k' = kSights k) (g2 : kHoursSeen k' = kHoursSeen k) (g3 : kHoursNotOwned k' = kHoursNotOwned k) (f : agS sg' sg) : SR k' sg' := by
  obtain ⟨a1, a2, a3, a4⟩ := h
  obtain ⟨f1, f2⟩ := f
  have h8 : (sSights sg).toNatClampNeg ≤ 8 := in_9 a2
  refine ⟨by rw [g1, f1, a1], by rw [f1]; exact a2, fun j hj => ?_, fun x hx => ?_⟩
  · rw [f1] at hj
    rw [(f2 j (by omega)).1, (f2 j (by omega)).2]
    exact a3 j hj
  · rw [g2, g3, f1]
    obtain ⟨b1, b2⟩ := a4 x hx
    constructor
    · rw [b1]
      constructor
      · intro ⟨j, hj, y1, y2⟩
        exact ⟨j, hj, by rw [(f2 j (by omega)).1]; exact y1, by rw [(f2 j (by omega)).2]; exact y2⟩
      · intro ⟨j, hj, y1, y2⟩
        rw [(f2 j (by omega)).1] at y1
        rw [(f2 j (by omega)).2] at y2
        exact ⟨j, hj, y1, y2⟩
    · rw [b2]
      constructor
      · intro ⟨j, hj, y1, y2⟩
        exact ⟨j, hj, by rw [(f2 j (by omega)).1]; exact y1, by rw [(f2 j (by omega)).2]; exact y2⟩
      · intro ⟨j, hj, y1, y2⟩
        rw [(f2 j (by omega)).1] at y1
        rw [(f2 j (by omega)).2] at y2
        exact ⟨j, hj, y1, y2⟩
theorem copy_ag (k kJ : KS) : agK (F_X1_copyFrom k kJ) kJ := by
  have z : (0 : Int32).toNatClampNeg = 0 := rfl
  have s6 : (6 : Int32).toNatClampNeg = 6 := rfl
  have s144 : (144 : Int32).toNatClampNeg = 144 := rfl
  unfold F_X1_copyFrom
  rw [z, s6, s144]
  have key : ∀ (f g : Nat → Int32) (n j : Nat), j < n → va_cpy f g 0 0 n j = f j := fun f g n j hj => by
    rw [pk_cpy_in (Nat.zero_le _) (by omega)]
    exact congrArg f (by omega)
  exact ⟨rfl, rfl, rfl, fun c hc => ⟨key _ _ _ _ hc, key _ _ _ _ hc, key _ _ _ _ hc, key _ _ _ _ hc⟩, fun j hj => key _ _ _ _ hj⟩
theorem passR {n : Nat} (hn : n < 2 ^ 31) (K S : Nat → Int32) (v : Int32) : F_X6_pass (nI n, 0, K, S) v = (K n, (nI (n + 1), 0, K, S)) := by
  unfold F_X6_pass
  rw [if_pos rfl]
  show (K (nI n).toNatClampNeg, (nI n + nI 1, (0 : Int32), upd K (nI n).toNatClampNeg (K (nI n).toNatClampNeg), S)) = _
  rw [nI_clamp hn, upd_id, nI_add]
theorem passW {n : Nat} (hn : n < 2 ^ 31) (K S : Nat → Int32) (v : Int32) : F_X6_pass (nI n, 1, K, S) v = (v, (nI (n + 1), 1, upd K n v, S)) := by
  unfold F_X6_pass
  rw [if_neg h10]
  show (v, (nI n + nI 1, (1 : Int32), upd K (nI n).toNatClampNeg v, S)) = _
  rw [nI_clamp hn, nI_add]
theorem pw50 {nb : Nat} (hn : nb ≤ 190) : ∀ (m i : Nat) (lv : LV) (K S : Nat → Int32), i ≤ 6 → 6 < i + m → ∃ K', L_X6_passAll_50 m i lv (nI (nb + 4 + 3 * i), 1, K, S) = (lv, (nI (nb + 22), 1, K', S)) ∧ (∀ c, i ≤ c → c < 6 → K' (nb + 4 + 3 * c) = vLeft lv c ∧ K' (nb + 5 + 3 * c) = vRight lv c ∧ K' (nb + 6 + 3 * c) = vScandals lv c) ∧ ∀ j, (j < nb + 4 + 3 * i ∨ nb + 22 ≤ j) → K' j = K j := by
  intro m
  induction m with
  | zero => intro i lv K S h1 h2; omega
  | succ m ih =>
    intro i lv K S h1 h2
    rw [L_X6_passAll_50_s]
    by_cases q : i = 6
    · rw [if_pos (n_eq6 q), q]
      exact ⟨K, rfl, fun c h3 h4 => by omega, fun j _ => rfl⟩
    · rw [if_neg (n_ge6 (by omega))]
      have p1 := passW (n := nb + 4 + 3 * i) (by omega)
      have p2 := passW (n := nb + 4 + 3 * i + 1) (by omega)
      have p3 := passW (n := nb + 4 + 3 * i + 1 + 1) (by omega)
      have ci : (nI i).toNatClampNeg = i := nI_clamp (by omega)
      simp only [bnd_def, p1, p2, p3, ci, upd_id]
      rw [show nb + 4 + 3 * i + 1 + 1 + 1 = nb + 4 + 3 * (i + 1) by omega]
      obtain ⟨K', g1, g2, g3⟩ := ih (i + 1) lv (upd (upd (upd K (nb + 4 + 3 * i) (vLeft lv i)) (nb + 4 + 3 * i + 1) (vRight lv i)) (nb + 4 + 3 * i + 1 + 1) (vScandals lv i)) S (by omega) (by omega)
      refine ⟨K', g1, fun c h3 h4 => ?_, fun j hj => ?_⟩
      · by_cases e : c = i
        · subst e
          rw [g3 (nb + 4 + 3 * c) (by omega), g3 (nb + 5 + 3 * c) (by omega), g3 (nb + 6 + 3 * c) (by omega)]
          refine ⟨?_, ?_, ?_⟩
          · rw [pk_un (by omega), pk_un (by omega), pk_us]
          · rw [pk_un (by omega), show nb + 5 + 3 * c = nb + 4 + 3 * c + 1 by omega, pk_us]
          · rw [show nb + 6 + 3 * c = nb + 4 + 3 * c + 1 + 1 by omega, pk_us]
        · exact g2 c (by omega) h4
      · rw [g3 j (by omega), pk_un (by omega), pk_un (by omega), pk_un (by omega)]
theorem pw112 {nb : Nat} (hn : nb ≤ 190) : ∀ (m i : Nat) (lv : LV) (K S : Nat → Int32), i ≤ 144 → 144 < i + m → ∃ K', L_X6_passAll_112 m i lv (nI (nb + 22 + i), 1, K, S) = (lv, (nI (nb + 166), 1, K', S)) ∧ (∀ c, i ≤ c → c < 144 → K' (nb + 22 + c) = vWearOf lv c) ∧ ∀ j, (j < nb + 22 + i ∨ nb + 166 ≤ j) → K' j = K j := by
  intro m
  induction m with
  | zero => intro i lv K S h1 h2; omega
  | succ m ih =>
    intro i lv K S h1 h2
    rw [L_X6_passAll_112_s]
    by_cases q : i = 144
    · rw [if_pos (show (144 : Int32) ≤ nI i by rw [q]; decide), q]
      exact ⟨K, rfl, fun c h3 h4 => by omega, fun j _ => rfl⟩
    · rw [if_neg (show ¬ (144 : Int32) ≤ nI i from nI_ge (b := 144) (by omega) (by decide))]
      have p1 := passW (n := nb + 22 + i) (by omega)
      have ci : (nI i).toNatClampNeg = i := nI_clamp (by omega)
      simp only [bnd_def, p1, ci, upd_id]
      obtain ⟨K', g1, g2, g3⟩ := ih (i + 1) lv (upd K (nb + 22 + i) (vWearOf lv i)) S (by omega) (by omega)
      refine ⟨K', g1, fun c h3 h4 => ?_, fun j hj => ?_⟩
      · by_cases e : c = i
        · subst e
          rw [g3 _ (by omega), pk_us]
        · exact g2 c (by omega) h4
      · rw [g3 j (by omega), pk_un (by omega)]
theorem pw143 {nb : Nat} (hn : nb ≤ 190) : ∀ (m i : Nat) (sg : SG) (K S : Nat → Int32), i ≤ 8 → 8 < i + m → ∃ K', L_X6_passAll_143 m i sg (nI (nb + 166 + 2 * i), 1, K, S) = (sg, (nI (nb + 182), 1, K', S)) ∧ (∀ c, i ≤ c → c < 8 → K' (nb + 166 + 2 * c) = sSightHour sg c ∧ K' (nb + 167 + 2 * c) = sSightOwned sg c) ∧ ∀ j, (j < nb + 166 + 2 * i ∨ nb + 182 ≤ j) → K' j = K j := by
  intro m
  induction m with
  | zero => intro i lv K S h1 h2; omega
  | succ m ih =>
    intro i sg K S h1 h2
    rw [L_X6_passAll_143_s]
    by_cases q : i = 8
    · rw [if_pos (show (8 : Int32) ≤ nI i by rw [q]; decide), q]
      exact ⟨K, rfl, fun c h3 h4 => by omega, fun j _ => rfl⟩
    · rw [if_neg (show ¬ (8 : Int32) ≤ nI i from nI_ge (b := 8) (by omega) (by decide))]
      have p1 := passW (n := nb + 166 + 2 * i) (by omega)
      have p2 := passW (n := nb + 166 + 2 * i + 1) (by omega)
      have ci : (nI i).toNatClampNeg = i := nI_clamp (by omega)
      simp only [bnd_def, p1, p2, ci, upd_id]
      rw [show nb + 166 + 2 * i + 1 + 1 = nb + 166 + 2 * (i + 1) by omega]
      obtain ⟨K', g1, g2, g3⟩ := ih (i + 1) sg (upd (upd K (nb + 166 + 2 * i) (sSightHour sg i)) (nb + 166 + 2 * i + 1) (sSightOwned sg i)) S (by omega) (by omega)
      refine ⟨K', g1, fun c h3 h4 => ?_, fun j hj => ?_⟩
      · by_cases e : c = i
        · subst e
          rw [g3 (nb + 166 + 2 * c) (by omega), g3 (nb + 167 + 2 * c) (by omega)]
          refine ⟨?_, ?_⟩
          · rw [pk_un (by omega), pk_us]
          · rw [show nb + 167 + 2 * c = nb + 166 + 2 * c + 1 by omega, pk_us]
        · exact g2 c (by omega) h4
      · rw [g3 j (by omega), pk_un (by omega), pk_un (by omega)]
theorem pr50 {nb : Nat} (hn : nb ≤ 190) (K S : Nat → Int32) : ∀ (m i : Nat) (lv : LV), i ≤ 6 → 6 < i + m → ∃ A B C, L_X6_passAll_50 m i lv (nI (nb + 4 + 3 * i), 0, K, S) = ((vCourtiers lv, vClock lv, vTears lv, A, B, C, vWearOf lv), (nI (nb + 22), 0, K, S)) ∧ (∀ c, i ≤ c → c < 6 → A c = K (nb + 4 + 3 * c) ∧ B c = K (nb + 5 + 3 * c) ∧ C c = K (nb + 6 + 3 * c)) ∧ ∀ c, c < i → A c = vLeft lv c ∧ B c = vRight lv c ∧ C c = vScandals lv c := by
  intro m
  induction m with
  | zero => intro i lv h1 h2; omega
  | succ m ih =>
    intro i lv h1 h2
    rw [L_X6_passAll_50_s]
    by_cases q : i = 6
    · rw [if_pos (n_eq6 q), q]
      exact ⟨_, _, _, rfl, fun c h3 h4 => by omega, fun c _ => ⟨rfl, rfl, rfl⟩⟩
    · rw [if_neg (n_ge6 (by omega))]
      have p1 := passR (n := nb + 4 + 3 * i) (by omega)
      have p2 := passR (n := nb + 4 + 3 * i + 1) (by omega)
      have p3 := passR (n := nb + 4 + 3 * i + 1 + 1) (by omega)
      have ci : (nI i).toNatClampNeg = i := nI_clamp (by omega)
      simp only [bnd_def, p1, p2, p3, ci]
      rw [show nb + 4 + 3 * i + 1 + 1 + 1 = nb + 4 + 3 * (i + 1) by omega]
      obtain ⟨A, B, C, g1, g2, g3⟩ := ih (i + 1) (vCourtiers lv, vClock lv, vTears lv, upd (vLeft lv) i (K (nb + 4 + 3 * i)), upd (vRight lv) i (K (nb + 4 + 3 * i + 1)), upd (vScandals lv) i (K (nb + 4 + 3 * i + 1 + 1)), vWearOf lv) (by omega) (by omega)
      refine ⟨A, B, C, g1, fun c h3 h4 => ?_, fun c hc => ?_⟩
      · by_cases e : c = i
        · subst e
          obtain ⟨y1, y2, y3⟩ := g3 c (by omega)
          rw [y1, y2, y3]
          refine ⟨pk_us, ?_, ?_⟩
          · rw [show nb + 5 + 3 * c = nb + 4 + 3 * c + 1 by omega]
            exact pk_us
          · rw [show nb + 6 + 3 * c = nb + 4 + 3 * c + 1 + 1 by omega]
            exact pk_us
        · exact g2 c (by omega) h4
      · obtain ⟨y1, y2, y3⟩ := g3 c (by omega)
        rw [y1, y2, y3]
        exact ⟨pk_un (by omega), pk_un (by omega), pk_un (by omega)⟩
theorem pr112 {nb : Nat} (hn : nb ≤ 190) (K S : Nat → Int32) : ∀ (m i : Nat) (lv : LV), i ≤ 144 → 144 < i + m → ∃ A, L_X6_passAll_112 m i lv (nI (nb + 22 + i), 0, K, S) = ((vCourtiers lv, vClock lv, vTears lv, vLeft lv, vRight lv, vScandals lv, A), (nI (nb + 166), 0, K, S)) ∧ (∀ c, i ≤ c → c < 144 → A c = K (nb + 22 + c)) ∧ ∀ c, c < i → A c = vWearOf lv c := by
  intro m
  induction m with
  | zero => intro i lv h1 h2; omega
  | succ m ih =>
    intro i lv h1 h2
    rw [L_X6_passAll_112_s]
    by_cases q : i = 144
    · rw [if_pos (show (144 : Int32) ≤ nI i by rw [q]; decide), q]
      exact ⟨_, rfl, fun c h3 h4 => by omega, fun c _ => rfl⟩
    · rw [if_neg (show ¬ (144 : Int32) ≤ nI i from nI_ge (b := 144) (by omega) (by decide))]
      have p1 := passR (n := nb + 22 + i) (by omega)
      have ci : (nI i).toNatClampNeg = i := nI_clamp (by omega)
      simp only [bnd_def, p1, ci]
      obtain ⟨A, g1, g2, g3⟩ := ih (i + 1) (vCourtiers lv, vClock lv, vTears lv, vLeft lv, vRight lv, vScandals lv, upd (vWearOf lv) i (K (nb + 22 + i))) (by omega) (by omega)
      refine ⟨A, g1, fun c h3 h4 => ?_, fun c hc => ?_⟩
      · by_cases e : c = i
        · subst e
          rw [g3 c (by omega)]
          exact pk_us
        · exact g2 c (by omega) h4
      · rw [g3 c (by omega)]
        exact pk_un (by omega)
theorem pr143 {nb : Nat} (hn : nb ≤ 190) (K S : Nat → Int32) : ∀ (m i : Nat) (sg : SG), i ≤ 8 → 8 < i + m → ∃ A B, L_X6_passAll_143 m i sg (nI (nb + 166 + 2 * i), 0, K, S) = ((sSights sg, A, B), (nI (nb + 182), 0, K, S)) ∧ (∀ c, i ≤ c → c < 8 → A c = K (nb + 166 + 2 * c) ∧ B c = K (nb + 167 + 2 * c)) ∧ ∀ c, c < i → A c = sSightHour sg c ∧ B c = sSightOwned sg c := by
  intro m
  induction m with
  | zero => intro i lv h1 h2; omega
  | succ m ih =>
    intro i sg h1 h2
    rw [L_X6_passAll_143_s]
    by_cases q : i = 8
    · rw [if_pos (show (8 : Int32) ≤ nI i by rw [q]; decide), q]
      exact ⟨_, _, rfl, fun c h3 h4 => by omega, fun c _ => ⟨rfl, rfl⟩⟩
    · rw [if_neg (show ¬ (8 : Int32) ≤ nI i from nI_ge (b := 8) (by omega) (by decide))]
      have p1 := passR (n := nb + 166 + 2 * i) (by omega)
      have p2 := passR (n := nb + 166 + 2 * i + 1) (by omega)
      have ci : (nI i).toNatClampNeg = i := nI_clamp (by omega)
      simp only [bnd_def, p1, p2, ci]
      rw [show nb + 166 + 2 * i + 1 + 1 = nb + 166 + 2 * (i + 1) by omega]
      obtain ⟨A, B, g1, g2, g3⟩ := ih (i + 1) (sSights sg, upd (sSightHour sg) i (K (nb + 166 + 2 * i)), upd (sSightOwned sg) i (K (nb + 166 + 2 * i + 1))) (by omega) (by omega)
      refine ⟨A, B, g1, fun c h3 h4 => ?_, fun c hc => ?_⟩
      · by_cases e : c = i
        · subst e
          obtain ⟨y1, y2⟩ := g3 c (by omega)
          rw [y1, y2]
          refine ⟨pk_us, ?_⟩
          rw [show nb + 167 + 2 * c = nb + 166 + 2 * c + 1 by omega]
          exact pk_us
        · exact g2 c (by omega) h4
      · obtain ⟨y1, y2⟩ := g3 c (by omega)
        rw [y1, y2]
        exact ⟨pk_un (by omega), pk_un (by omega)⟩
theorem pa_write {nb : Nat} (hn : nb ≤ 190) (lv : LV) (sg : SG) (K S : Nat → Int32) : ∃ K', F_X6_passAll lv sg (nI nb, 1, K, S) = (lv, sg, (nI (nb + 182), 1, K', S)) ∧ agL (lvAt K' nb) lv ∧ agS (sgAt K' nb) sg ∧ ∀ j, (j < nb ∨ nb + 182 ≤ j) → K' j = K j := by
  unfold F_X6_passAll
  have p1 := passW (n := nb) (by omega)
  have p2 := passW (n := nb + 1) (by omega)
  have p3 := passW (n := nb + 1 + 1) (by omega)
  have p4 := passW (n := nb + 1 + 1 + 1) (by omega)
  simp only [bnd_def, p1, p2, p3, p4]
  obtain ⟨K1, g1, g2, g3⟩ := pw50 hn (6 + 1) 0 lv (upd (upd (upd (upd K nb (vCourtiers lv)) (nb + 1) (vClock lv)) (nb + 1 + 1) (vTears lv)) (nb + 1 + 1 + 1) (sSights sg)) S (by omega) (by omega)
  obtain ⟨K2, f1, f2, f3⟩ := pw112 hn (144 + 1) 0 lv K1 S (by omega) (by omega)
  obtain ⟨K3, e1, e2, e3⟩ := pw143 hn (8 + 1) 0 sg K2 S (by omega) (by omega)
  have g1' : L_X6_passAll_50 (6 + 1) 0 (vCourtiers lv, vClock lv, vTears lv, vLeft lv, vRight lv, vScandals lv, vWearOf lv) (nI (nb + 1 + 1 + 1 + 1), 1, upd (upd (upd (upd K nb (vCourtiers lv)) (nb + 1) (vClock lv)) (nb + 1 + 1) (vTears lv)) (nb + 1 + 1 + 1) (sSights sg), S) = (lv, (nI (nb + 22), 1, K1, S)) := g1
  have f1' : L_X6_passAll_112 (144 + 1) 0 lv (nI (nb + 22), 1, K1, S) = (lv, (nI (nb + 166), 1, K2, S)) := f1
  have e1' : L_X6_passAll_143 (8 + 1) 0 (sSights sg, sSightHour sg, sSightOwned sg) (nI (nb + 166), 1, K2, S) = (sg, (nI (nb + 182), 1, K3, S)) := e1
  rw [g1']
  dsimp only
  rw [f1']
  dsimp only
  rw [e1']
  have low : ∀ j, j < nb + 4 → K3 j = upd (upd (upd (upd K nb (vCourtiers lv)) (nb + 1) (vClock lv)) (nb + 1 + 1) (vTears lv)) (nb + 1 + 1 + 1) (sSights sg) j := fun j hj => by
    rw [e3 j (by omega), f3 j (by omega), g3 j (by omega)]
  refine ⟨K3, rfl, ⟨?_, ?_, ?_, fun c hc => ?_, fun j hj => ?_⟩, ⟨?_, fun j hj => ?_⟩, fun j hj => ?_⟩
  · show K3 nb = _
    rw [low nb (by omega), pk_un (by omega), pk_un (by omega), pk_un (by omega), pk_us]
  · show K3 (nb + 1) = _
    rw [low (nb + 1) (by omega), pk_un (by omega), pk_un (by omega), pk_us]
  · show K3 (nb + 2) = _
    rw [low (nb + 2) (by omega), pk_un (by omega), pk_us]
  · obtain ⟨y1, y2, y3⟩ := g2 c (Nat.zero_le _) hc
    refine ⟨?_, ?_, ?_⟩
    · show K3 (nb + 4 + 3 * c) = _
      rw [e3 _ (by omega), f3 _ (by omega), y1]
    · show K3 (nb + 5 + 3 * c) = _
      rw [e3 _ (by omega), f3 _ (by omega), y2]
    · show K3 (nb + 6 + 3 * c) = _
      rw [e3 _ (by omega), f3 _ (by omega), y3]
  · show K3 (nb + 22 + j) = _
    rw [e3 _ (by omega), f2 j (Nat.zero_le _) hj]
  · show K3 (nb + 3) = _
    rw [low (nb + 3) (by omega)]
    exact pk_us
  · exact e2 j (Nat.zero_le _) hj
  · rw [e3 j (by omega), f3 j (by omega), g3 j (by omega), pk_un (by omega), pk_un (by omega), pk_un (by omega), pk_un (by omega)]
theorem pa_read {nb : Nat} (hn : nb ≤ 190) (lv : LV) (sg : SG) (K S : Nat → Int32) : ∃ lv' sg', F_X6_passAll lv sg (nI nb, 0, K, S) = (lv', sg', (nI (nb + 182), 0, K, S)) ∧ agL lv' (lvAt K nb) ∧ agS sg' (sgAt K nb) := by
  unfold F_X6_passAll
  have p1 := passR (n := nb) (by omega)
  have p2 := passR (n := nb + 1) (by omega)
  have p3 := passR (n := nb + 1 + 1) (by omega)
  have p4 := passR (n := nb + 1 + 1 + 1) (by omega)
  simp only [bnd_def, p1, p2, p3, p4]
  obtain ⟨A, B, C, g1, g2, g3⟩ := pr50 hn K S (6 + 1) 0 (K nb, K (nb + 1), K (nb + 1 + 1), vLeft lv, vRight lv, vScandals lv, vWearOf lv) (by omega) (by omega)
  obtain ⟨W, f1, f2, f3⟩ := pr112 hn K S (144 + 1) 0 (K nb, K (nb + 1), K (nb + 1 + 1), A, B, C, vWearOf lv) (by omega) (by omega)
  obtain ⟨H, O, e1, e2, e3⟩ := pr143 hn K S (8 + 1) 0 (K (nb + 1 + 1 + 1), sSightHour sg, sSightOwned sg) (by omega) (by omega)
  have g1' : L_X6_passAll_50 (6 + 1) 0 (K nb, K (nb + 1), K (nb + 1 + 1), vLeft lv, vRight lv, vScandals lv, vWearOf lv) (nI (nb + 1 + 1 + 1 + 1), 0, K, S) = ((K nb, K (nb + 1), K (nb + 1 + 1), A, B, C, vWearOf lv), (nI (nb + 22), 0, K, S)) := g1
  have f1' : L_X6_passAll_112 (144 + 1) 0 (K nb, K (nb + 1), K (nb + 1 + 1), A, B, C, vWearOf lv) (nI (nb + 22), 0, K, S) = ((K nb, K (nb + 1), K (nb + 1 + 1), A, B, C, W), (nI (nb + 166), 0, K, S)) := f1
  have e1' : L_X6_passAll_143 (8 + 1) 0 (K (nb + 1 + 1 + 1), sSightHour sg, sSightOwned sg) (nI (nb + 166), 0, K, S) = ((K (nb + 1 + 1 + 1), H, O), (nI (nb + 182), 0, K, S)) := e1
  rw [g1']
  dsimp only
  rw [f1']
  dsimp only
  rw [e1']
  exact ⟨_, _, rfl, ⟨rfl, rfl, rfl, fun c hc => g2 c (Nat.zero_le _) hc, fun j hj => f2 j (Nat.zero_le _) hj⟩, ⟨rfl, fun j hj => e2 j (Nat.zero_le _) hj⟩⟩
theorem agK_r (k : KS) : agK k k := ⟨rfl, rfl, rfl, fun _ _ => ⟨rfl, rfl, rfl, rfl⟩, fun _ _ => rfl⟩
theorem im_keep {b : Int32} {kX : KS} {kp kp' : KP} {i : Nat} (h : IM b kX kp i) (hk : iIsKept kp' i = iIsKept kp i) (hK : ∀ j, 190 * i ≤ j → j < 190 * i + 182 → iKept kp' j = iKept kp j) : IM b kX kp' i := by
  rcases h with ⟨h1, h2⟩ | ⟨h1, h2, h3, h4⟩
  · exact Or.inl ⟨h1, by rw [hk, h2]⟩
  · refine Or.inr ⟨h1, by rw [hk, h2], cr_cong h3 (agK_r kX) ⟨hK _ (by omega) (by omega), hK _ (by omega) (by omega), hK _ (by omega) (by omega), fun c hc => ⟨hK _ (by omega) (by omega), hK _ (by omega) (by omega), hK _ (by omega) (by omega)⟩, fun j hj => hK _ (by omega) (by omega)⟩, sr_cong h4 rfl rfl rfl ⟨hK _ (by omega) (by omega), fun j hj => ⟨hK _ (by omega) (by omega), hK _ (by omega) (by omega)⟩⟩⟩
theorem im_new {k kX : KS} {lv : LV} {sg : SG} {kp' : KP} {i : Nat} (hC : CR k lv) (hS : SR k sg) (hk : iIsKept kp' i = 1) (hL : agL (lvAt (iKept kp') (190 * i)) lv) (hG : agS (sgAt (iKept kp') (190 * i)) sg) : IM 1 (F_X1_copyFrom kX k) kp' i :=
  Or.inr ⟨rfl, hk, cr_cong hC (copy_ag kX k) hL, sr_cong hS rfl rfl rfl hG⟩
section A7
variable {gg : GS} {k kE kF : KS} {pp : PS} {lv : LV} {sg : SG} {pd : PD} {kp : KP}
theorem api_image {xk : Int32} {r1 r2 : Int32} {u1 : GS × KS × KS} {u2 : LV × SG × KP} (hrel : REL gg k kE kF pp lv sg pd kp) (e1 : F_X5_image gg k kE kF xk = (r1, u1)) (e2 : F_X6_image lv sg kp xk = (r2, u2)) : r1 = r2 ∧ REL u1.1 k u1.2.1 u1.2.2 pp u2.1 u2.2.1 pd u2.2.2 := by
  obtain ⟨hC, hS, hP, hI, hJ⟩ := hrel
  unfold F_X5_image at e1
  unfold F_X6_image at e2
  rw [bnd_def] at e1 e2
  rw [inW (a := 0) (b := 1) (by decide) (by decide)] at e2
  by_cases w : F_X5_isWithin xk 0 1 = 0
  · rw [if_pos w] at e1 e2
    cases e1
    cases e2
    exact ⟨rfl, hC, hS, hP, hI, hJ⟩
  · rw [if_neg w, bnd_def] at e2
    rw [if_neg w] at e1
    obtain ⟨i, hi, rfl⟩ := vp_in_of (wi_in (n := 2) rfl w (by decide)) (by decide)
    rw [show (190 : Int32) = nI 190 from rfl, pk_mul, nI_clamp (n := i) (by omega)] at e2
    obtain ⟨K', g1, g2, g3, g4⟩ := pa_write (nb := 190 * i) (by omega) lv sg (iKept kp) (iIsKept kp)
    rw [g1] at e2
    have hi2 : i = 0 ∨ i = 1 := by omega
    rcases hi2 with rfl | rfl
    · rw [if_pos (show nI 0 = (0 : Int32) from rfl), bnd_def] at e1
      cases e1
      cases e2
      exact ⟨rfl, hC, hS, hP, im_new (kp' := (nI (190 * 0 + 182), 1, K', upd (iIsKept kp) 0 1)) hC hS (show upd (iIsKept kp) 0 1 0 = 1 from pk_us) g2 g3, im_keep (kp' := (nI (190 * 0 + 182), 1, K', upd (iIsKept kp) 0 1)) hJ (show upd (iIsKept kp) 0 1 1 = iIsKept kp 1 from pk_un (by decide)) (fun j h1 h2 => g4 j (by omega))⟩
    · rw [if_neg (show ¬ nI 1 = (0 : Int32) from h10), bnd_def] at e1
      cases e1
      cases e2
      exact ⟨rfl, hC, hS, hP, im_keep (kp' := (nI (190 * 1 + 182), 1, K', upd (iIsKept kp) 1 1)) hI (show upd (iIsKept kp) 1 1 0 = iIsKept kp 0 from pk_un (by decide)) (fun j h1 h2 => g4 j (by omega)), im_new (kp' := (nI (190 * 1 + 182), 1, K', upd (iIsKept kp) 1 1)) hC hS (show upd (iIsKept kp) 1 1 1 = 1 from pk_us) g2 g3⟩
theorem rel_back {kX : KS} {lv' : LV} {sg' : SG} {i : Nat} (hC : CR kX (lvAt (iKept kp) (190 * i))) (hS : SR kX (sgAt (iKept kp) (190 * i))) (hL : agL lv' (lvAt (iKept kp) (190 * i))) (hG : agS sg' (sgAt (iKept kp) (190 * i))) : CR (F_X1_copyFrom k kX) lv' ∧ SR (F_X1_copyFrom k kX) sg' := ⟨cr_cong hC (copy_ag k kX) hL, sr_cong hS rfl rfl rfl hG⟩
theorem api_restore {xk : Int32} {r1 r2 : Int32} {u1 : KS} {u2 : LV × SG × KP} (hrel : REL gg k kE kF pp lv sg pd kp) (e1 : F_X5_restore gg k kE kF xk = (r1, u1)) (e2 : F_X6_restore lv sg kp xk = (r2, u2)) : r1 = r2 ∧ REL gg u1 kE kF pp u2.1 u2.2.1 pd u2.2.2 := by
  obtain ⟨hC, hS, hP, hI, hJ⟩ := hrel
  unfold F_X5_restore at e1
  unfold F_X6_restore at e2
  rw [bnd_def] at e1 e2
  rw [inW (a := 0) (b := 1) (by decide) (by decide)] at e2
  by_cases w : F_X5_isWithin xk 0 1 = 0
  · rw [if_pos w] at e1 e2
    cases e1
    cases e2
    exact ⟨rfl, hC, hS, hP, hI, hJ⟩
  · rw [if_neg w] at e1 e2
    obtain ⟨i, hi, rfl⟩ := vp_in_of (wi_in (n := 2) rfl w (by decide)) (by decide)
    rw [nI_clamp (n := i) (by omega)] at e2
    have hi2 : i = 0 ∨ i = 1 := by omega
    have e190 : (190 : Int32) * nI i = nI (190 * i) := by rw [show (190 : Int32) = nI 190 from rfl, pk_mul]
    rw [e190] at e2
    rcases hi2 with rfl | rfl
    · rw [if_pos (show nI 0 = (0 : Int32) from rfl)] at e1
      have hI2 := hI
      rcases hI with ⟨h1, h2⟩ | ⟨h1, h2, h3, h4⟩
      · rw [if_pos h1] at e1
        rw [if_pos h2] at e2
        cases e1
        cases e2
        exact ⟨rfl, hC, hS, hP, hI2, hJ⟩
      · rw [if_neg (by rw [h1]; decide), if_pos (show nI 0 = (0 : Int32) from rfl), bnd_def] at e1
        rw [if_neg (by rw [h2]; decide), bnd_def] at e2
        obtain ⟨lv', sg', g1, g2, g3⟩ := pa_read (nb := 190 * 0) (by omega) lv sg (iKept kp) (iIsKept kp)
        rw [g1] at e2
        obtain ⟨c1, c2⟩ := rel_back (k := k) h3 h4 g2 g3
        cases e1
        cases e2
        exact ⟨rfl, c1, c2, hP, im_keep (kp' := (nI (190 * 0 + 182), 0, iKept kp, iIsKept kp)) hI2 rfl (fun j _ _ => rfl), im_keep (kp' := (nI (190 * 0 + 182), 0, iKept kp, iIsKept kp)) hJ rfl (fun j _ _ => rfl)⟩
    · rw [if_neg (show ¬ nI 1 = (0 : Int32) from h10)] at e1
      have hJ2 := hJ
      rcases hJ with ⟨h1, h2⟩ | ⟨h1, h2, h3, h4⟩
      · rw [if_pos h1] at e1
        rw [if_pos h2] at e2
        cases e1
        cases e2
        exact ⟨rfl, hC, hS, hP, hI, hJ2⟩
      · rw [if_neg (by rw [h1]; decide), if_neg (show ¬ nI 1 = (0 : Int32) from h10), bnd_def] at e1
        rw [if_neg (by rw [h2]; decide), bnd_def] at e2
        obtain ⟨lv', sg', g1, g2, g3⟩ := pa_read (nb := 190 * 1) (by omega) lv sg (iKept kp) (iIsKept kp)
        rw [g1] at e2
        obtain ⟨c1, c2⟩ := rel_back (k := k) h3 h4 g2 g3
        cases e1
        cases e2
        exact ⟨rfl, c1, c2, hP, im_keep (kp' := (nI (190 * 1 + 182), 0, iKept kp, iIsKept kp)) hI rfl (fun j _ _ => rfl), im_keep (kp' := (nI (190 * 1 + 182), 0, iKept kp, iIsKept kp)) hJ2 rfl (fun j _ _ => rfl)⟩
end A7
