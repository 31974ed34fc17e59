/-! THE CLAIM OUT OF ONE WALK OF THE LAW'S BODY. Your part is whole_start (and what it stands on); all else here is the same for every law, but numbers. -/
def R_law : String := "GloveHoursLaw"
def lw_P (b : Addr) (xs : List Int32) (args : Array Value) (s : State) : Prop := args = #[.ref b] ∧ s.IntsAt b xs ∧ xs.length ≤ 384 ∧ (Jvm.Cond.and given_1 narrow_1).before args s = true
def lw_Q (_ : Array Value) (s : State) (o : Outcome) (t : State) : Prop := o = .returned (some (.int 1)) ∧ Framed s o t [] 59 2755
def lw_Z (below : List Frame) (a : Array Value) (s : State) : State → Prop := fun t => ∃ o, t.status = .running ∧ Ended t below o ∧ lw_Q a s o t
/-- the law's own end, with 1 on the stack, nothing written that was there before, its room as the claim has it -/
theorem lw_ret {p : Program} {l : Launch} {e : Env} {s : State} {m : MethodId} {below : List Frame} {meth : Method} {c : Code} {b : Nat} (hx : p.tables.exec = Jvm.exec) (hb : c.code = code) (hr : meth.sig.returnType = ret) (hlocks : meth.locks = false) {pc : Nat} {H : Heap} {ls : Array Slot} (hdg : decode code pc = .ok (.ireturn, 1)) : W p l e room_1 s m #[Value.ref b] below meth c H [] 59 2755 (lw_Z below #[Value.ref b] s) (F0 m pc ls [.int 1]) := by
  intro T hT X
  obtain ⟨fs, hret, hrun, hended, hW, hframe⟩ := X.leave (v := some (.int 1)) (hlocks := hlocks) (fun h => by rw [hr] at h; cases h)
  have hmeth' : T.vm.method? m = some meth := X.method'
  refine ⟨T.setFrames fs, ?_, .returned (some (.int 1)), hrun, hended, rfl, ⟨_, rfl⟩, hW, hframe⟩
  jvm_step X.here [X.here.top, hx, hb, hdg, hmeth', hr, ret, narrow_b1]
  (try refine ⟨rfl, ?_⟩); (try refine ⟨rfl, ?_⟩)
  first | (intro acts; rw [hret _ acts rfl rfl rfl]) | rw [hret _ _ rfl rfl rfl]
  exact Steps.refl _
/-- what holds at the law's entry: the machine, the code, the tables' words (any of lw_tbl by 'hts w (by decide +kernel)'), the script of L ints xs at the cell b, what the Statement gives of the start (any of its parts by flat_of_before) -/
def lw_At (p : Program) (s : State) (m : MethodId) (meth : Method) (c : Code) (b L : Nat) (xs : Nat → Int32) : Prop :=
  p.tables.exec = Jvm.exec ∧ c.code = code ∧ meth.sig.returnType = ret ∧ c.maxLocals = 4 ∧ s.vm.findClass R_law = some m.cls ∧ (∀ w ∈ lw_tbl, w.before #[Value.ref b] s = true) ∧ va_X b L xs s s.heap ∧ b < s.heap.size ∧ meth.locks = false ∧ (Jvm.Cond.and given_1 narrow_1).before #[Value.ref b] s = true
/-! THE LAW -/
theorem vP_mem {D : va_G} {cl : List vw_C} {ws : va_W} {H : Heap} : va_P D cl ws H ↔ ∀ q ∈ ws, va_at D cl q H :=
  ⟨fun h q hq => by
    obtain ⟨k, hk⟩ := List.mem_iff_getElem?.mp hq
    exact h k q hk, fun h k q hk => h q (List.mem_of_getElem? hk)⟩
theorem vD_pw {A : Nat → Prop} {ws : va_W} : va_D A ws ↔ (ws.Pairwise (fun p q => ¬ p.1 = q.1)) ∧ ∀ q ∈ ws, A q.1 := by
  constructor
  · rintro ⟨h1, h2⟩
    refine ⟨List.pairwise_iff_getElem.mpr (fun i j hi hj hij e => ?_), fun q hq => ?_⟩
    · have := h1 i j _ _ (List.getElem?_eq_getElem hi) (List.getElem?_eq_getElem hj) e
      omega
    · obtain ⟨k, hk⟩ := List.mem_iff_getElem?.mp hq
      exact h2 k q hk
  · rintro ⟨h1, h2⟩
    rw [List.pairwise_iff_getElem] at h1
    refine ⟨fun i j p q hi hj e => ?_, fun k q hk => h2 q (List.mem_of_getElem? hk)⟩
    obtain ⟨a, ea⟩ := List.getElem?_eq_some_iff.mp hi
    obtain ⟨b, eb⟩ := List.getElem?_eq_some_iff.mp hj
    rcases Nat.lt_trichotomy i j with w | w | w
    · exact absurd (show (ws[i]).1 = (ws[j]).1 by rw [ea, eb]; exact e) (h1 i j a b w)
    · exact w
    · exact absurd (show (ws[j]).1 = (ws[i]).1 by rw [ea, eb]; exact e.symm) (h1 j i b a w)
theorem vP_perm {D : va_G} {cl : List vw_C} {ws ws' : va_W} {H : Heap} (h : ws.Perm ws') (hP : va_P D cl ws H) : va_P D cl ws' H := vP_mem.mpr (fun q hq => vP_mem.mp hP q (h.mem_iff.mpr hq))
theorem vD_perm {A : Nat → Prop} {ws ws' : va_W} (h : ws.Perm ws') (hD : va_D A ws) : va_D A ws' := by
  obtain ⟨h1, h2⟩ := vD_pw.mp hD
  exact vD_pw.mpr ⟨(List.Perm.pairwise_iff (fun {x y} n e => n e.symm) h).mp h1, fun q hq => h2 q (h.mem_iff.mpr hq)⟩
theorem wPc {D : va_G} {cl : List vw_C} {ws wc wr : va_W} {H : Heap} (hP : va_P D cl ws H) (hp : ws.Perm (wc ++ wr)) : va_P D cl wc H := vP_mem.mpr (fun q hq => vP_mem.mp (vP_perm hp hP) q (List.mem_append_left _ hq))
theorem wDc {A : Nat → Prop} {ws wc wr : va_W} (hD : va_D A ws) (hp : ws.Perm (wc ++ wr)) : va_D A wc := by
  obtain ⟨d1, d2⟩ := vD_pw.mp (vD_perm hp hD)
  exact vD_pw.mpr ⟨(List.pairwise_append.mp d1).1, fun q hq => d2 q (List.mem_append_left _ hq)⟩
theorem wfree {A0 : Nat → Prop} {ws wc wr : va_W} {H0 H : Heap} {locs : List Loc} (hD : va_D A0 ws) (hp : ws.Perm (wc ++ wr)) (hS : va_S A0 H0 H locs) (hA : ∀ q, H0.size ≤ q → A0 q) : ∀ q, va_A wc H.size q → A0 q := fun q h => by
  obtain ⟨d1, d2⟩ := vD_pw.mp (vD_perm hp hD)
  rcases h with ⟨k, e, h⟩ | h
  · exact d2 (q, e) (List.mem_append_left _ (List.mem_of_getElem? h))
  · exact hA q (Nat.le_trans hS.1 h)
theorem wjoin {A0 : Nat → Prop} {D : va_G} {cl : List vw_C} {ws wc wr w1 : va_W} {H H1 : Heap} (hP : va_P D cl ws H) (hD : va_D A0 ws) (hp : ws.Perm (wc ++ wr)) (hk : ∀ q : Nat, q < H.size → ¬ va_A wc H.size q → H1[q]? = H[q]?) (hF : ∀ q, va_A wc H.size q → A0 q) (hP1 : va_P D cl w1 H1) (hD1 : va_D (va_A wc H.size) w1) : va_P D cl (w1 ++ wr) H1 ∧ va_D A0 (w1 ++ wr) := by
  have hP' := vP_mem.mp (vP_perm hp hP)
  obtain ⟨d1, d2⟩ := vD_pw.mp (vD_perm hp hD)
  obtain ⟨p1, p2, p3⟩ := List.pairwise_append.mp d1
  obtain ⟨f1, f2⟩ := vD_pw.mp hD1
  have apart : ∀ q ∈ wr, q.1 < H.size ∧ ¬ va_A wc H.size q.1 := fun q hq => by
    have hl := (hP' q (List.mem_append_right _ hq)).lt
    refine ⟨hl, fun h => ?_⟩
    rcases h with ⟨k, e, h⟩ | h
    · exact p3 (q.1, e) (List.mem_of_getElem? h) q hq rfl
    · omega
  refine ⟨vP_mem.mpr (fun q hq => ?_), vD_pw.mpr ⟨List.pairwise_append.mpr ⟨f1, p2, fun a ha b hb e => ?_⟩, fun q hq => ?_⟩⟩
  · rcases List.mem_append.mp hq with h | h
    · exact vP_mem.mp hP1 q h
    · obtain ⟨g1, g2⟩ := apart q h
      exact (hP' q (List.mem_append_right _ h)).kept (hk q.1 g1 g2)
  · exact (apart b hb).2 (by rw [← e]; exact f2 a ha)
  · rcases List.mem_append.mp hq with h | h
    · exact hF q.1 (f2 q h)
    · exact d2 q (List.mem_append_right _ h)
section MLaw
variable {p : Program} {l : Launch} {e : Env} {R : Room} {s : State} {m : MethodId} {args : Array Value} {below : List Frame} {meth : Method} {c : Code} {H : Heap} {locs : List Loc} {cells slots : Nat} {Q : State → Prop}
variable {y : MethodName} {bytes cc : ByteArray} {maxL nL n index pc : Nat} {ret : Option FieldType} {wsC Ts : List Cond} {rm : Room} {Qc : Nat → Array Value → State → Outcome → State → Prop} {own C : String} {b : Addr} {As rest st0 : List Value} {D : va_G} {tys : List (ClassId × FieldType)} {wc wr ws : va_W} {ls : Array Slot} {A : Nat → Prop} {H0 : Heap} {a : Array Value}
theorem mrVx (hM : ∀ sz : Nat, Met l y wsC rm (va_Pc (.ref b :: As) (mPre D tys wc sz)) (Qc sz) 0 0 (va_A wc sz)) (hx : p.tables.exec = Jvm.exec) (hb : c.code = cc) (hml : c.maxLocals = nL) (hts : ∀ w ∈ Ts, w.before args s = true) (hown : s.vm.findClass own = some m.cls) (hK : va_K D vwCl tys s) (hNW : mNW s) (hP : va_P D vwCl ws H) (hD : va_D A ws)
    (hp : ws.Perm (wc ++ wr)) (ci q0 : Nat) {T : u_T} {N : Nat} {fs : List Value} (hc : vwCl[ci]? = some (C, T, N)) (he : wc[q0]? = some (b, .inr (ci, fs))) (cw : CallW R s args own C index y bytes maxL ret wsC rm 0 0 n) (hn : As.length = n) (hsz : ls.size = nL) (hst : st0 = As.reverse ++ .ref b :: rest) (hW : (rest.map fun v => v.category).sum ≤ 8) (hdg : decode cc pc = .ok (.invokevirtual index, 3)) (hf : cells + 0 ≤ R.cells ∧ slots + 0 ≤ R.slots) :
    va_Run p l e R s m args below meth c H locs cells slots 0 0 (F0 m pc ls st0) rest (Qc H.size (Value.ref b :: As).toArray) (va_A wc H.size) := by
  have hPc := wPc hP hp
  have hDc := wDc hD hp
  exact va_runV ⟨hx, hb, hml, hown, hts⟩ (hM H.size) cw ⟨mPre_moved, va_recv hK hPc hc he, fun U hU hW => ⟨rfl, by rw [hU], by rw [hU]; exact hPc, va_K.moved hW.alike hK, hDc.weaken (fun _ _ _ _ => trivial), mNW_warm hW hNW⟩⟩ rfl hn hsz hst (lv_room hW) hdg hf
theorem mcx_i {S : Type} {post : Int32 → S → Prop} {wp wn : S → va_W} (hr : va_Run p l e R s m args below meth c H locs cells slots 0 0 (F0 m pc ls st0) rest (va_Qi post (fun u t => mPost D tys (va_A wc H.size) (wp u) t) (va_A wc H.size) a) (va_A wc H.size)) (hP : va_P D vwCl ws H) (hD : va_D A ws) (hS : va_S A H0 H locs) (hA : ∀ q, H0.size ≤ q → A q) (hp : ws.Perm (wc ++ wr)) (hn : ∀ u, (wn u).Perm (wp u ++ wr))
    (kk : ∀ (r : Int32) (u : S) (H1 : Heap) (locs1 : List Loc), post r u → va_P D vwCl (wn u) H1 → va_D A (wn u) → va_S A H0 H1 locs1 → W p l e R s m args below meth c H1 locs1 cells slots Q (F0 m (pc + 3) ls (.int r :: rest))) : W p l e R s m args below meth c H locs cells slots Q (F0 m pc ls st0) := by
  have hF := wfree hD hp hS hA
  refine va_calli hr hS (fun q _ h => hF q h) hF (fun r u t H1 locs1 ht hvm hw hB hz1 hk1 hS1 => ?_)
  obtain ⟨g1, g2, g3⟩ := hB
  rw [ht] at g1
  obtain ⟨j1, j2⟩ := wjoin hP hD hp hk1 hF g1 g3
  exact kk r u H1 locs1 hw (vP_perm (hn u).symm j1) (vD_perm (hn u).symm j2) hS1
theorem mcx_l {S : Type} {post : Int64 → S → Prop} {wp wn : S → va_W} (hr : va_Run p l e R s m args below meth c H locs cells slots 0 0 (F0 m pc ls st0) rest (va_Ql post (fun u t => mPost D tys (va_A wc H.size) (wp u) t) (va_A wc H.size) a) (va_A wc H.size)) (hP : va_P D vwCl ws H) (hD : va_D A ws) (hS : va_S A H0 H locs) (hA : ∀ q, H0.size ≤ q → A q) (hp : ws.Perm (wc ++ wr)) (hn : ∀ u, (wn u).Perm (wp u ++ wr))
    (kk : ∀ (r : Int64) (u : S) (H1 : Heap) (locs1 : List Loc), post r u → va_P D vwCl (wn u) H1 → va_D A (wn u) → va_S A H0 H1 locs1 → W p l e R s m args below meth c H1 locs1 cells slots Q (F0 m (pc + 3) ls (.long r :: rest))) : W p l e R s m args below meth c H locs cells slots Q (F0 m pc ls st0) := by
  have hF := wfree hD hp hS hA
  refine va_calll hr hS (fun q _ h => hF q h) hF (fun r u t H1 locs1 ht hvm hw hB hz1 hk1 hS1 => ?_)
  obtain ⟨g1, g2, g3⟩ := hB
  rw [ht] at g1
  obtain ⟨j1, j2⟩ := wjoin hP hD hp hk1 hF g1 g3
  exact kk r u H1 locs1 hw (vP_perm (hn u).symm j1) (vD_perm (hn u).symm j2) hS1
end MLaw
theorem pm_GK (wG wK wE wF wP wD wT wM wC wR : va_W) : List.Perm (wG ++ wK ++ wE ++ wF ++ wP ++ wD ++ wT ++ wM ++ wC ++ wR) ((wG ++ wK) ++ (wE ++ wF ++ wP ++ wD ++ wT ++ wM ++ wC ++ wR)) := by
  haveI : DecidableEq (Nat × va_E) := fun a b => Classical.propDecidable (a = b)
  exact List.perm_iff_count.mpr (fun a => by simp only [List.count_append]; omega)
theorem pm_R (wG wK wE wF wP wD wT wM wC wR : va_W) : List.Perm (wG ++ wK ++ wE ++ wF ++ wP ++ wD ++ wT ++ wM ++ wC ++ wR) ((wR) ++ (wG ++ wK ++ wE ++ wF ++ wP ++ wD ++ wT ++ wM ++ wC)) := by
  haveI : DecidableEq (Nat × va_E) := fun a b => Classical.propDecidable (a = b)
  exact List.perm_iff_count.mpr (fun a => by simp only [List.count_append]; omega)
theorem pm_GP (wG wK wE wF wP wD wT wM wC wR : va_W) : List.Perm (wG ++ wK ++ wE ++ wF ++ wP ++ wD ++ wT ++ wM ++ wC ++ wR) ((wG ++ wP) ++ (wK ++ wE ++ wF ++ wD ++ wT ++ wM ++ wC ++ wR)) := by
  haveI : DecidableEq (Nat × va_E) := fun a b => Classical.propDecidable (a = b)
  exact List.perm_iff_count.mpr (fun a => by simp only [List.count_append]; omega)
theorem pm_GKPDT (wG wK wE wF wP wD wT wM wC wR : va_W) : List.Perm (wG ++ wK ++ wE ++ wF ++ wP ++ wD ++ wT ++ wM ++ wC ++ wR) ((wG ++ wK ++ wP ++ wD ++ wT) ++ (wE ++ wF ++ wM ++ wC ++ wR)) := by
  haveI : DecidableEq (Nat × va_E) := fun a b => Classical.propDecidable (a = b)
  exact List.perm_iff_count.mpr (fun a => by simp only [List.count_append]; omega)
theorem pm_GKM (wG wK wE wF wP wD wT wM wC wR : va_W) : List.Perm (wG ++ wK ++ wE ++ wF ++ wP ++ wD ++ wT ++ wM ++ wC ++ wR) ((wG ++ wK ++ wM) ++ (wE ++ wF ++ wP ++ wD ++ wT ++ wC ++ wR)) := by
  haveI : DecidableEq (Nat × va_E) := fun a b => Classical.propDecidable (a = b)
  exact List.perm_iff_count.mpr (fun a => by simp only [List.count_append]; omega)
theorem pm_G (wG wK wE wF wP wD wT wM wC wR : va_W) : List.Perm (wG ++ wK ++ wE ++ wF ++ wP ++ wD ++ wT ++ wM ++ wC ++ wR) ((wG) ++ (wK ++ wE ++ wF ++ wP ++ wD ++ wT ++ wM ++ wC ++ wR)) := by
  haveI : DecidableEq (Nat × va_E) := fun a b => Classical.propDecidable (a = b)
  exact List.perm_iff_count.mpr (fun a => by simp only [List.count_append]; omega)
theorem pm_GC (wG wK wE wF wP wD wT wM wC wR : va_W) : List.Perm (wG ++ wK ++ wE ++ wF ++ wP ++ wD ++ wT ++ wM ++ wC ++ wR) ((wG ++ wC) ++ (wK ++ wE ++ wF ++ wP ++ wD ++ wT ++ wM ++ wR)) := by
  haveI : DecidableEq (Nat × va_E) := fun a b => Classical.propDecidable (a = b)
  exact List.perm_iff_count.mpr (fun a => by simp only [List.count_append]; omega)
theorem pm_GKDT (wG wK wE wF wP wD wT wM wC wR : va_W) : List.Perm (wG ++ wK ++ wE ++ wF ++ wP ++ wD ++ wT ++ wM ++ wC ++ wR) ((wG ++ wK ++ wD ++ wT) ++ (wE ++ wF ++ wP ++ wM ++ wC ++ wR)) := by
  haveI : DecidableEq (Nat × va_E) := fun a b => Classical.propDecidable (a = b)
  exact List.perm_iff_count.mpr (fun a => by simp only [List.count_append]; omega)
theorem pm_GKEF (wG wK wE wF wP wD wT wM wC wR : va_W) : List.Perm (wG ++ wK ++ wE ++ wF ++ wP ++ wD ++ wT ++ wM ++ wC ++ wR) ((wG ++ wK ++ wE ++ wF) ++ (wP ++ wD ++ wT ++ wM ++ wC ++ wR)) := by
  haveI : DecidableEq (Nat × va_E) := fun a b => Classical.propDecidable (a = b)
  exact List.perm_iff_count.mpr (fun a => by simp only [List.count_append]; omega)
theorem pm_GKP (wG wK wE wF wP wD wT wM wC wR : va_W) : List.Perm (wG ++ wK ++ wE ++ wF ++ wP ++ wD ++ wT ++ wM ++ wC ++ wR) ((wG ++ wK ++ wP) ++ (wE ++ wF ++ wD ++ wT ++ wM ++ wC ++ wR)) := by
  haveI : DecidableEq (Nat × va_E) := fun a b => Classical.propDecidable (a = b)
  exact List.perm_iff_count.mpr (fun a => by simp only [List.count_append]; omega)
theorem pk_sub_toInt' {a : Nat} (ha : a < 2000000000) : (nI a - nI 6).toInt = (a : Int) - 6 := by
  have h1 : (nI a).toInt = a := nI_toInt (by omega)
  have h2 : (nI 6).toInt = 6 := rfl
  rw [Int32.toInt_sub, h1, h2]
  exact Int.bmod_eq_of_le (by omega) (by omega)
theorem law_i6 {i L : Nat} (h : ¬ nI L - (6 : Int32) < nI i) (hb : L < 2000000000 ∧ i < 2000000000) : i + 6 ≤ L := by
  rw [show (6 : Int32) = nI 6 from rfl, Int32.lt_iff_toInt_lt, pk_sub_toInt' hb.1, nI_toInt (by omega)] at h
  omega
def LInv (p : Program) (l : Launch) (e : Env) (s : State) (m : MethodId) (below : List Frame) (meth : Method) (c : Code) (δ : va_G) (cI cJ cZ : ClassId) (b : Nat) (aG0 aK0 aK1 aK2 aK3 aK4 aK5 aE0 aE1 aE2 aE3 aE4 aE5 aF0 aF1 aF2 aF3 aF4 aF5 aP0 aP1 aD0 aD1 aD2 aD3 aD4 aT0 aT1 aT2 aT3 aT4 aT5 aM0 aM1 aM2 aC0 aC1 aR0 aR1 aR2 aR3 aR4 aR5 aR6 aR7 aR8 aR9 aR10 aR11 aR12 aR13 aR14 aR15 aR16 aR17 aR18 aR19 aR20 aR21 : Nat) (i : Nat) : Prop := ∀ (gg : GS) (k : KS) (kE : KS) (kF : KS) (pp : PS) (dy : DS) (kT : KS) (mm : MS) (ch : CS) (lv : LV) (sg : SG) (pd : PD) (ac : AC) (dd : DD) (hd : HD) (le : LE) (bd : BD) (my : MY) (lf : LF) (pa : PA) (kp : KP) (H : Heap) (locs : List Loc) (hrel : REL gg k kE kF pp lv sg pd kp) (hP : va_P δ vwCl ((wG  aG0 aK0 aE0 aF0 aP0 aD0 aM0 aC0 gg) ++ (wK cI aK0 aK1 aK2 aK3 aK4 aK5 k) ++ (wK cI aE0 aE1 aE2 aE3 aE4 aE5 kE) ++ (wK cI aF0 aF1 aF2 aF3 aF4 aF5 kF) ++ (wP cI aP0 aP1 pp) ++ (wD cI aD0 aD1 aD2 aD3 aD4 aT0 dy) ++ (wK cI aT0 aT1 aT2 aT3 aT4 aT5 kT) ++ (wM cI aM0 aM1 aM2 mm) ++ (wC cJ aC0 aC1 ch) ++ (wR cI cJ cZ aR0 aR1 aR2 aR3 aR4 aR5 aR6 aR7 aR8 aR9 aR10 aR11 aR12 aR13 aR14 aR15 aR16 aR17 aR18 aR19 aR20 aR21 lv sg pd ac dd hd le bd my lf pa kp)) H) (hD : va_D (fun q : Nat => s.heap.size ≤ q) ((wG  aG0 aK0 aE0 aF0 aP0 aD0 aM0 aC0 gg) ++ (wK cI aK0 aK1 aK2 aK3 aK4 aK5 k) ++ (wK cI aE0 aE1 aE2 aE3 aE4 aE5 kE) ++ (wK cI aF0 aF1 aF2 aF3 aF4 aF5 kF) ++ (wP cI aP0 aP1 pp) ++ (wD cI aD0 aD1 aD2 aD3 aD4 aT0 dy) ++ (wK cI aT0 aT1 aT2 aT3 aT4 aT5 kT) ++ (wM cI aM0 aM1 aM2 mm) ++ (wC cJ aC0 aC1 ch) ++ (wR cI cJ cZ aR0 aR1 aR2 aR3 aR4 aR5 aR6 aR7 aR8 aR9 aR10 aR11 aR12 aR13 aR14 aR15 aR16 aR17 aR18 aR19 aR20 aR21 lv sg pd ac dd hd le bd my lf pa kp))) (hS : va_S (fun q : Nat => s.heap.size ≤ q) s.heap H locs) (ls : Array Slot), lv_has ls 4 [(0, .ref b), (1, .ref aG0), (2, .ref aR0), (3, .int (nI i))] → W p l e room_1 s m #[Value.ref b] below meth c H locs 59 2755 (lw_Z below #[Value.ref b] s) (F0 m 18 ls [])
