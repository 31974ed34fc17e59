/-! THE CLAIM OUT OF ONE WALK OF THE LAW'S BODY. Your part is whole_start (and what it stands on); all else here is the same for every law, but numbers. -/
def R_law : String := "GloveHoursLaw"
def lw_P (b : Addr) (xs : List Int32) (args : Array Value) (s : State) : Prop := args = #[.ref b] ∧ s.IntsAt b xs ∧ xs.length ≤ 384 ∧ (Jvm.Cond.and given_1 narrow_1).before args s = true
def lw_Q (_ : Array Value) (s : State) (o : Outcome) (t : State) : Prop := o = .returned (some (.int 1)) ∧ Framed s o t [] 59 2755
def lw_Z (below : List Frame) (a : Array Value) (s : State) : State → Prop := fun t => ∃ o, t.status = .running ∧ Ended t below o ∧ lw_Q a s o t
/-- the law's own end, with 1 on the stack, nothing written that was there before, its room as the claim has it -/
theorem lw_ret {p : Program} {l : Launch} {e : Env} {s : State} {m : MethodId} {below : List Frame} {meth : Method} {c : Code} {b : Nat} (hx : p.tables.exec = Jvm.exec) (hb : c.code = code) (hr : meth.sig.returnType = ret) (hlocks : meth.locks = false) {pc : Nat} {H : Heap} {ls : Array Slot} (hdg : decode code pc = .ok (.ireturn, 1)) : W p l e room_1 s m #[Value.ref b] below meth c H [] 59 2755 (lw_Z below #[Value.ref b] s) (F0 m pc ls [.int 1]) := by
  intro T hT X
  obtain ⟨fs, hret, hrun, hended, hW, hframe⟩ := X.leave (v := some (.int 1)) (hlocks := hlocks) (fun h => by rw [hr] at h; cases h)
  have hmeth' : T.vm.method? m = some meth := X.method'
  refine ⟨T.setFrames fs, ?_, .returned (some (.int 1)), hrun, hended, rfl, ⟨_, rfl⟩, hW, hframe⟩
  jvm_step X.here [X.here.top, hx, hb, hdg, hmeth', hr, ret, narrow_b1]
  (try refine ⟨rfl, ?_⟩); (try refine ⟨rfl, ?_⟩)
  first | (intro acts; rw [hret _ acts rfl rfl rfl]) | rw [hret _ _ rfl rfl rfl]
  exact Steps.refl _
/-- what holds at the law's entry: the machine, the code, the tables' words (any of lw_tbl by 'hts w (by decide +kernel)'), the script of L ints xs at the cell b, what the Statement gives of the start (any of its parts by flat_of_before) -/
def lw_At (p : Program) (s : State) (m : MethodId) (meth : Method) (c : Code) (b L : Nat) (xs : Nat → Int32) : Prop :=
  p.tables.exec = Jvm.exec ∧ c.code = code ∧ meth.sig.returnType = ret ∧ c.maxLocals = 4 ∧ s.vm.findClass R_law = some m.cls ∧ (∀ w ∈ lw_tbl, w.before #[Value.ref b] s = true) ∧ va_X b L xs s s.heap ∧ b < s.heap.size ∧ meth.locks = false ∧ (Jvm.Cond.and given_1 narrow_1).before #[Value.ref b] s = true
/-! THE LAW -/
section MLaw
variable {p : Program} {l : Launch} {e : Env} {R : Room} {s : State} {m : MethodId} {args : Array Value} {below : List Frame} {meth : Method} {c : Code} {H : Heap} {locs : List Loc} {cells slots : Nat} {Q : State → Prop}
variable {y : MethodName} {bytes cc : ByteArray} {maxL nL n index pc : Nat} {ret : Option FieldType} {wsC Ts : List Cond} {rm : Room} {Qc : Nat → Array Value → State → Outcome → State → Prop} {own C : String} {b : Addr} {As rest st0 : List Value} {D : va_G} {tys : List (ClassId × FieldType)} {wc wr ws : va_W} {ls : Array Slot} {A : Nat → Prop} {H0 : Heap} {a : Array Value}
theorem mrVx (hM : ∀ sz : Nat, Met l y wsC rm (va_Pc (.ref b :: As) (mPre D tys wc sz)) (Qc sz) 0 0 (va_A wc sz)) (hx : p.tables.exec = Jvm.exec) (hb : c.code = cc) (hml : c.maxLocals = nL) (hts : ∀ w ∈ Ts, w.before args s = true) (hown : s.vm.findClass own = some m.cls) (hK : va_K D vwCl tys s) (hNW : mNW s) (hP : va_P D vwCl ws H) (hD : va_D A ws)
    (isC : List Nat) (hC : isC.map (fun i => ws[i]?) = wc.map some) (hnd : va_nd isC = true) (ci q0 : Nat) {T : u_T} {N : Nat} {fs : List Value} (hc : vwCl[ci]? = some (C, T, N)) (he : wc[q0]? = some (b, .inr (ci, fs))) (cw : CallW R s args own C index y bytes maxL ret wsC rm 0 0 n) (hn : As.length = n) (hsz : ls.size = nL) (hst : st0 = As.reverse ++ .ref b :: rest) (hW : (rest.map fun v => v.category).sum ≤ 8) (hdg : decode cc pc = .ok (.invokevirtual index, 3)) (hf : cells + 0 ≤ R.cells ∧ slots + 0 ≤ R.slots) :
    va_Run p l e R s m args below meth c H locs cells slots 0 0 (F0 m pc ls st0) rest (Qc H.size (Value.ref b :: As).toArray) (va_A wc H.size) := by
  have hPc := mP_map hP isC hC
  have hDc := hD.sub isC hnd hC
  exact va_runV ⟨hx, hb, hml, hown, hts⟩ (hM H.size) cw ⟨mPre_moved, va_recv hK hPc hc he, fun U hU hW => ⟨rfl, by rw [hU], by rw [hU]; exact hPc, va_K.moved hW.alike hK, hDc.weaken (fun _ _ _ _ => trivial), mNW_warm hW hNW⟩⟩ rfl hn hsz hst (lv_room hW) hdg hf
theorem mcx_i {S : Type} {post : Int32 → S → Prop} {wp wn : S → va_W} (hr : va_Run p l e R s m args below meth c H locs cells slots 0 0 (F0 m pc ls st0) rest (va_Qi post (fun u t => mPost D tys (va_A wc H.size) (wp u) t) (va_A wc H.size) a) (va_A wc H.size)) (hP : va_P D vwCl ws H) (hD : va_D A ws) (hS : va_S A H0 H locs) (hA : ∀ q, H0.size ≤ q → A q) (isC isR perm : List Nat) (hC : isC.map (fun i => ws[i]?) = wc.map some) (hR : isR.map (fun i => ws[i]?) = wr.map some) (hn : va_nd isR = true) (hdis : mdis isR isC = true) (hpn : va_nd perm = true) (hperm : ∀ u, perm.map (fun i => (wr ++ wp u)[i]?) = (wn u).map some)
    (kk : ∀ (r : Int32) (u : S) (H1 : Heap) (locs1 : List Loc), post r u → va_P D vwCl (wn u) H1 → va_D A (wn u) → va_S A H0 H1 locs1 → W p l e R s m args below meth c H1 locs1 cells slots Q (F0 m (pc + 3) ls (.int r :: rest))) : W p l e R s m args below meth c H locs cells slots Q (F0 m pc ls st0) := by
  have hF := va_free hD hS hA isC hC
  refine va_calli hr hS (fun q _ h => hF q h) hF (fun r u t H1 locs1 ht hvm hw hB hz1 hk1 hS1 => ?_)
  obtain ⟨g1, g2, g3⟩ := hB
  rw [ht] at g1
  obtain ⟨j1, j2⟩ := mj (wn := wn u) hP hD hS hA isC isR perm hC hR hn hdis hpn (hperm u) hk1 g1 g3
  exact kk r u H1 locs1 hw j1 j2 hS1
theorem mcx_l {S : Type} {post : Int64 → S → Prop} {wp wn : S → va_W} (hr : va_Run p l e R s m args below meth c H locs cells slots 0 0 (F0 m pc ls st0) rest (va_Ql post (fun u t => mPost D tys (va_A wc H.size) (wp u) t) (va_A wc H.size) a) (va_A wc H.size)) (hP : va_P D vwCl ws H) (hD : va_D A ws) (hS : va_S A H0 H locs) (hA : ∀ q, H0.size ≤ q → A q) (isC isR perm : List Nat) (hC : isC.map (fun i => ws[i]?) = wc.map some) (hR : isR.map (fun i => ws[i]?) = wr.map some) (hn : va_nd isR = true) (hdis : mdis isR isC = true) (hpn : va_nd perm = true) (hperm : ∀ u, perm.map (fun i => (wr ++ wp u)[i]?) = (wn u).map some)
    (kk : ∀ (r : Int64) (u : S) (H1 : Heap) (locs1 : List Loc), post r u → va_P D vwCl (wn u) H1 → va_D A (wn u) → va_S A H0 H1 locs1 → W p l e R s m args below meth c H1 locs1 cells slots Q (F0 m (pc + 3) ls (.long r :: rest))) : W p l e R s m args below meth c H locs cells slots Q (F0 m pc ls st0) := by
  have hF := va_free hD hS hA isC hC
  refine va_calll hr hS (fun q _ h => hF q h) hF (fun r u t H1 locs1 ht hvm hw hB hz1 hk1 hS1 => ?_)
  obtain ⟨g1, g2, g3⟩ := hB
  rw [ht] at g1
  obtain ⟨j1, j2⟩ := mj (wn := wn u) hP hD hS hA isC isR perm hC hR hn hdis hpn (hperm u) hk1 g1 g3
  exact kk r u H1 locs1 hw j1 j2 hS1
end MLaw
theorem pk_sub_toInt' {a : Nat} (ha : a < 2000000000) : (nI a - nI 6).toInt = (a : Int) - 6 := by
  have h1 : (nI a).toInt = a := nI_toInt (by omega)
  have h2 : (nI 6).toInt = 6 := rfl
  rw [Int32.toInt_sub, h1, h2]
  exact Int.bmod_eq_of_le (by omega) (by omega)
theorem law_i6 {i L : Nat} (h : ¬ nI L - (6 : Int32) < nI i) (hb : L < 2000000000 ∧ i < 2000000000) : i + 6 ≤ L := by
  rw [show (6 : Int32) = nI 6 from rfl, Int32.lt_iff_toInt_lt, pk_sub_toInt' hb.1, nI_toInt (by omega)] at h
  omega
def LInv (p : Program) (l : Launch) (e : Env) (s : State) (m : MethodId) (below : List Frame) (meth : Method) (c : Code) (δ : va_G) (cI cJ cZ : ClassId) (b : Nat) (aG0 aK0 aK1 aK2 aK3 aK4 aK5 aE0 aE1 aE2 aE3 aE4 aE5 aF0 aF1 aF2 aF3 aF4 aF5 aP0 aP1 aD0 aD1 aD2 aD3 aD4 aT0 aT1 aT2 aT3 aT4 aT5 aM0 aM1 aM2 aC0 aC1 aR0 aR1 aR2 aR3 aR4 aR5 aR6 aR7 aR8 aR9 aR10 aR11 aR12 aR13 aR14 aR15 aR16 aR17 aR18 aR19 aR20 aR21 : Nat) (i : Nat) : Prop := ∀ (gg : GS) (k : KS) (kE : KS) (kF : KS) (pp : PS) (dy : DS) (kT : KS) (mm : MS) (ch : CS) (lv : LV) (sg : SG) (pd : PD) (ac : AC) (dd : DD) (hd : HD) (le : LE) (bd : BD) (my : MY) (lf : LF) (pa : PA) (kp : KP) (H : Heap) (locs : List Loc) (hrel : REL gg k kE kF pp lv sg pd kp) (hP : va_P δ vwCl ((wG  aG0 aK0 aE0 aF0 aP0 aD0 aM0 aC0 gg) ++ (wK cI aK0 aK1 aK2 aK3 aK4 aK5 k) ++ (wK cI aE0 aE1 aE2 aE3 aE4 aE5 kE) ++ (wK cI aF0 aF1 aF2 aF3 aF4 aF5 kF) ++ (wP cI aP0 aP1 pp) ++ (wD cI aD0 aD1 aD2 aD3 aD4 aT0 dy) ++ (wK cI aT0 aT1 aT2 aT3 aT4 aT5 kT) ++ (wM cI aM0 aM1 aM2 mm) ++ (wC cJ aC0 aC1 ch) ++ (wR cI cJ cZ aR0 aR1 aR2 aR3 aR4 aR5 aR6 aR7 aR8 aR9 aR10 aR11 aR12 aR13 aR14 aR15 aR16 aR17 aR18 aR19 aR20 aR21 lv sg pd ac dd hd le bd my lf pa kp)) H) (hD : va_D (fun q : Nat => s.heap.size ≤ q) ((wG  aG0 aK0 aE0 aF0 aP0 aD0 aM0 aC0 gg) ++ (wK cI aK0 aK1 aK2 aK3 aK4 aK5 k) ++ (wK cI aE0 aE1 aE2 aE3 aE4 aE5 kE) ++ (wK cI aF0 aF1 aF2 aF3 aF4 aF5 kF) ++ (wP cI aP0 aP1 pp) ++ (wD cI aD0 aD1 aD2 aD3 aD4 aT0 dy) ++ (wK cI aT0 aT1 aT2 aT3 aT4 aT5 kT) ++ (wM cI aM0 aM1 aM2 mm) ++ (wC cJ aC0 aC1 ch) ++ (wR cI cJ cZ aR0 aR1 aR2 aR3 aR4 aR5 aR6 aR7 aR8 aR9 aR10 aR11 aR12 aR13 aR14 aR15 aR16 aR17 aR18 aR19 aR20 aR21 lv sg pd ac dd hd le bd my lf pa kp))) (hS : va_S (fun q : Nat => s.heap.size ≤ q) s.heap H locs) (ls : Array Slot), lv_has ls 4 [(0, .ref b), (1, .ref aG0), (2, .ref aR0), (3, .int (nI i))] → W p l e room_1 s m #[Value.ref b] below meth c H locs 59 2755 (lw_Z below #[Value.ref b] s) (F0 m 18 ls [])
