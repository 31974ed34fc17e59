/-! constructors: contracts that make cells -/
def mMc (l : Launch) (D : va_G) (tys : List (ClassId × FieldType)) (y : MethodName) (ws : List Cond) (rm : Room) (av : List Value) (w0 : va_W) {S : Type} (w1 : S → va_W) (mc ms : Nat) : Prop := ∀ sz : Nat, Met l y ws rm (va_Pc av (mPre D tys w0 sz)) (va_Qv (fun _ : S => True) (fun u t => mPost D tys (va_A w0 sz) (w1 u) t) (va_A w0 sz)) mc ms (va_A w0 sz)
theorem mk_c {l : Launch} {D : va_G} {tys : List (ClassId × FieldType)} {y : MethodName} {ws ws' : List Cond} {rm : Room} {av : List Value} {w0 : va_W} {S : Type} {w1 : S → va_W} {cc : ByteArray} {maxL mc ms : Nat} (hy : plainName y.cls = true) (hyn : y.name = "<init>") (hw : ws = Cond.code y cc maxL none :: ws') (hn : (lg_sl av).length ≤ maxL)
    (body : ∀ (p : Program) (e : Env) (s : State) (m : MethodId) (args : Array Value) (below : List Frame) (meth : Method) (c : Code) (A : Nat → Prop) (Q : State → Prop) (ls : Array Slot) (H : Heap) (locs : List Loc), p.tables.exec = Jvm.exec → c.code = cc → c.maxLocals = maxL → (∀ w ∈ ws, w.before args s = true) → s.vm.findClass y.cls = some m.cls → va_K D vwCl tys s → mNW s → (∀ q, s.heap.size ≤ q → A q) → va_P D vwCl w0 H → va_D A w0 → va_S A s.heap H locs → lv_has ls maxL (lv_args 0 av) → meth.name = "<init>" →
      (∀ (H : Heap) (locs : List Loc) (u : S) (pc : Nat) (ls : Array Slot), va_P D vwCl (w1 u) H → va_D A (w1 u) → va_S A s.heap H locs → decode cc pc = .ok (.return_, 1) → W p l e rm s m args below meth c H locs mc ms Q (F0 m pc ls [])) →
      W p l e rm s m args below meth c H locs 0 0 Q (F0 m 0 ls [])) : mMc l D tys y ws rm av w0 w1 mc ms := by
  intro sz
  refine Met.ofW (cc := cc) (maxL := maxL) (ret := none) hy hw ?_
  intro p e s m args below meth c s₁ B hml hv
  obtain ⟨rfl, hsz, hP, hK, hD0, hNW⟩ := hv
  have hts := atoms_spec (ws := ws) B.pre
  have hown : s.vm.findClass y.cls = some m.cls := findClass_of_methodNamed B.named
  have hlocks := B.notSynchronized
  have hin : meth.name = "<init>" := (name_of_methodNamed B.named B.method).1.trans hyn
  subst hsz
  rw [lg_entry_eq]
  refine body p e s m _ below meth c (va_A w0 s.heap.size) _ _ s.heap [] B.exec B.bytes hml hts hown hK hNW (fun q h => Or.inr h) hP hD0.self va_S.rf (lv_entry av hn) hin ?_
  intro H locs u pc ls hP1 hD1 hS hdg
  exact W.vret B.exec B.bytes B.returns (fun t ht hW => ⟨⟨u, rfl, trivial, by rw [ht]; exact hP1, va_K.moved hW.alike hK, hD1⟩, hS.F ht⟩) hS.2.2 hdg
section MI
variable {p : Program} {l : Launch} {e : Env} {R : Room} {s : State} {m : MethodId} {args : Array Value} {below : List Frame} {meth : Method} {c : Code} {H : Heap} {locs : List Loc} {cells slots : Nat} {Q : State → Prop}
variable {y : MethodName} {bytes cc : ByteArray} {maxL nL n index pc mc ms : Nat} {wsC Ts : List Cond} {rm : Room} {Qc : Nat → Array Value → State → Outcome → State → Prop} {own : String} {b : Addr} {As rest st0 : List Value} {D : va_G} {tys : List (ClassId × FieldType)} {wc wr ws : va_W} {ls : Array Slot} {A : Nat → Prop} {H0 : Heap} {a : Array Value}
theorem mrI (hM : ∀ sz : Nat, Met l y wsC rm (va_Pc (.ref b :: As) (mPre D tys wc sz)) (Qc sz) mc ms (va_A wc sz)) (hx : p.tables.exec = Jvm.exec) (hb : c.code = cc) (hml : c.maxLocals = nL) (hts : ∀ w ∈ Ts, w.before args s = true) (hown : s.vm.findClass own = some m.cls) (hK : va_K D vwCl tys s) (hNW : mNW s) (hP : va_P D vwCl ws H) (hD : va_D A ws)
    (isC : List Nat) (hC : isC.map (fun i => ws[i]?) = wc.map some) (hnd : va_nd isC = true) (cw : CallB R s args own index y bytes maxL none wsC rm mc ms n ∧ y.name = "<init>" ∧ (Cond.instanceMethod y).before args s = true) (hn : As.length = n) (hsz : ls.size = nL) (hst : st0 = As.reverse ++ .ref b :: rest) (hW : (rest.map fun v => v.category).sum ≤ 8) (hdg : decode cc pc = .ok (.invokespecial index, 3)) (hf : cells + mc ≤ R.cells ∧ slots + ms ≤ R.slots) :
    va_Run p l e R s m args below meth c H locs cells slots mc ms (F0 m pc ls st0) rest (Qc H.size (Value.ref b :: As).toArray) (va_A wc H.size) := by
  have hPc := mP_map hP isC hC
  have hDc := hD.sub isC hnd hC
  exact va_runI ⟨hx, hb, hml, hown, hts⟩ (hM H.size) cw ⟨mPre_moved, fun U hU hW => ⟨rfl, by rw [hU], by rw [hU]; exact hPc, va_K.moved hW.alike hK, hDc.weaken (fun _ _ _ _ => trivial), mNW_warm hW hNW⟩⟩ rfl hn hsz hst (lv_room hW) hdg hf
theorem mc_c {S : Type} {wp wn : S → va_W} (hr : va_Run p l e R s m args below meth c H locs cells slots mc ms (F0 m pc ls st0) rest (va_Qv (fun _ : S => True) (fun u t => mPost D tys (va_A wc H.size) (wp u) t) (va_A wc H.size) a) (va_A wc H.size)) (hP : va_P D vwCl ws H) (hD : va_D A ws) (hS : va_S A H0 H locs) (hA : ∀ q, H0.size ≤ q → A q) (isC isR perm : List Nat) (hC : isC.map (fun i => ws[i]?) = wc.map some) (hR : isR.map (fun i => ws[i]?) = wr.map some) (hn : va_nd isR = true) (hdis : mdis isR isC = true) (hpn : va_nd perm = true) (hperm : ∀ u, perm.map (fun i => (wr ++ wp u)[i]?) = (wn u).map some)
    (kk : ∀ (u : S) (H1 : Heap) (locs1 : List Loc), va_P D vwCl (wn u) H1 → va_D A (wn u) → va_S A H0 H1 locs1 → W p l e R s m args below meth c H1 locs1 (cells + mc) (slots + ms) Q (F0 m (pc + 3) ls rest)) : W p l e R s m args below meth c H locs cells slots Q (F0 m pc ls st0) := by
  have hF := va_free hD hS hA isC hC
  refine va_callv hr hS (fun q _ h => hF q h) hF (fun u t H1 locs1 ht hvm hw hB hz1 hk1 hS1 => ?_)
  obtain ⟨g1, g2, g3⟩ := hB
  rw [ht] at g1
  obtain ⟨j1, j2⟩ := mj (wn := wn u) hP hD hS hA isC isR perm hC hR hn hdis hpn (hperm u) hk1 g1 g3
  exact kk u H1 locs1 j1 j2 hS1
theorem mnewa (hexec : p.tables.exec = Jvm.exec) (hb : c.code = cc) {atype : ArrayType} (harr : (Cond.arrayClass (newarray.typeOf atype)).before args s = true) {ty : FieldType} (hty : newarray.typeOf atype = ty) (t0 : Nat) {cA0 : ClassId} (ht : tys[t0]? = some (cA0, ty)) (hinj : ∀ z1 z2 : ClassId, va_RA s z1 ty → va_RA s z2 ty → z1 = z2) {cl : List vw_C} (hK : va_K D cl tys s) (hP : va_P D cl ws H) (hD : va_D A ws) (hS : va_S A H0 H locs) (hA : ∀ q, H0.size ≤ q → A q)
    {n : Int32} {N' : Nat} {a0 : vp_A} (ha : ∀ cA : ClassId, vp_cell cA a0 = arrV cA N' (fun _ => defaultValue ty)) (hn : ¬ n < 0) (hN : n.toNatClampNeg = N') (hbytes : N' * componentBytes ty ≤ 536870912) (hcells : cells + 1 ≤ R.cells) (hslots : slots + N' ≤ R.slots) (hdg : decode cc pc = .ok (.newarray atype, 2))
    (kk : ∀ (q : Nat) (H1 : Heap), va_P D cl (ws ++ [(q, .inl (cA0, a0))]) H1 → va_D A (ws ++ [(q, .inl (cA0, a0))]) → va_S A H0 H1 locs → W p l e R s m args below meth c H1 locs (cells + 1) (slots + N') Q (F0 m (pc + 2) ls (.ref q :: rest))) : W p l e R s m args below meth c H locs cells slots Q (F0 m pc ls (.int n :: rest)) := by
  refine va_newa hexec hb harr hty hK hP hD hS hA ha hn hN hbytes hcells hslots hdg (fun q cA H1 hK1 hP1 hD1 hS1 => ?_)
  have e1 : va_RA s cA0 ty := (hK.2 t0 _ ht).2
  have e2 : va_RA s cA ty := (hK1.2 tys.length (cA, ty) (by simp)).2
  have e3 := hinj _ _ e2 e1
  subst e3
  exact kk q H1 hP1 hD1 hS1
end MI
theorem ri_int (s : State) (z1 z2 : ClassId) (h1 : va_RA s z1 .int) (h2 : va_RA s z2 .int) : z1 = z2 := Option.some.inj (h1.symm.trans h2)
theorem ri_long (s : State) (z1 z2 : ClassId) (h1 : va_RA s z1 .long) (h2 : va_RA s z2 .long) : z1 = z2 := Option.some.inj (h1.symm.trans h2)
theorem ri_bool (s : State) (z1 z2 : ClassId) (h1 : va_RA s z1 .boolean) (h2 : va_RA s z2 .boolean) : z1 = z2 := Option.some.inj (h1.symm.trans h2)
def zKS : KS := ((0 : Int32), (0 : Int32), (9 : Int32), (0 : Int32), (0 : Int32), (0 : Int32), (fun _ => 0), (fun _ => 0), (fun _ => 0), (fun _ => 0), (fun _ => 0))
def zPS : PS := ((0 : Int32), (fun _ => 0))
def zDS : DS := ((0 : Int32), (0 : Int32), (0 : Int32), (0 : Int32), (fun _ => 0), (fun _ => 0), (fun _ => 0), (fun _ => 0))
def zMS : MS := ((0 : Int32), (fun _ => 0), (fun _ => 0))
def zCS : CS := ((0 : Int64), (0 : Int64), (fun _ => 0))
def zGS : GS := ((0 : Int32), (0 : Int32))
def zLV : LV := ((0 : Int32), (0 : Int32), (9 : Int32), (fun _ => 0), (fun _ => 0), (fun _ => 0), (fun _ => 0))
def zSG : SG := ((0 : Int32), (fun _ => 0), (fun _ => 0))
def zPD : PD := ((0 : Int32), (fun _ => 0))
def zAC : AC := ((0 : Int32), (fun _ => 0), (fun _ => 0), (fun _ => 0), (fun _ => 0))
def zDD : DD := ((0 : Int32), (0 : Int32), (0 : Int32), (fun _ => 0), (fun _ => 0), (fun _ => 0))
def zHD : HD := (fun _ => 0)
def zLE : LE := (fun _ => 0)
def zBD : BD := ((0 : Int32), (0 : Int32))
def zMY : MY := (fun _ => 0)
def zLF : LF := (fun _ => 0)
def zPA : PA := (fun _ => 0)
def zKP : KP := ((0 : Int32), (0 : Int32), (fun _ => 0), (fun _ => 0))
abbrev rm_X0_init : Room := { frames := 1, cells := 1, slots := 11, locals := 12 }
set_option maxHeartbeats 4000000 in
set_option maxRecDepth 100000 in
theorem c_X0_init (l : Launch) (δ : va_G) (cI cJ cZ : ClassId) (h0 : Nat) : mMc l δ (mTy cI cJ cZ) yX0_init wsX0_init rm_X0_init [.ref h0] ([(h0, .inr (0, [.long 0, .long 0, .null]))]) (S := Nat) (fun u => (wC cJ h0 u zCS)) 1 11 := by
  refine mk_c (cc := cX0_init) (maxL := 1) (by decide) rfl rfl (Nat.le_of_ble_eq_true rfl) ?_
  intro p e s m args below meth c A Q ls H locs hx hb hml hts hown hK hNW hA hP hD hS hl hin hret
  have hown : s.vm.findClass RX0 = some m.cls := hown
  have hl : lv_has ls 1 [(0, .ref h0)] := hl
  have hinX0 : ∀ w ∈ u_ws RX0 TX0 3, w ∈ wsX0_init := (fun _ h => List.mem_cons_of_mem _ (List.mem_append_right _ (h)))
  refine lv_aload_n hx hb dX0_init_0 rfl (lv_at hl 0 rfl) ?_
  refine W.objInit hx hb hown (hts (.methodLink RX0 3 objectInit) (List.mem_of_getElem? (i := 1) rfl)) (hts (.instanceMethod objectInit) (List.mem_of_getElem? (i := 2) rfl)) (hts _ (List.mem_of_getElem? (i := 3) rfl)) rfl (by rw [hml]; exact hl.1) rfl dX0_init_1 (Nat.le_of_ble_eq_true rfl) (Nat.le_of_ble_eq_true rfl) ?_
  refine W.eq (g2 := F0 m 4 ls []) rfl ?_
  refine lv_aload_n hx hb dX0_init_4 rfl (lv_at hl 0 rfl) ?_
  refine lv_bipush (v := (11 : Int32)) hx hb dX0_init_5 (by decide) ?_
  refine mnewa (atype := .long) (a0 := (11, .inr (.inl (fun _ => 0)))) (N' := 11) hx hb (hts (.arrayClass .long) (List.mem_of_getElem? (i := 4) rfl)) rfl 1 rfl (ri_long s) hK hP hD hS hA (fun _ => rfl) (by decide) (by decide) (by decide) (Nat.le_of_ble_eq_true rfl) (Nat.le_of_ble_eq_true rfl) dX0_init_7 (fun q7 H hP hD hS => ?_)
  have hP : va_P δ vwCl ([(h0, .inr (0, [.long 0, .long 0, .null])), (q7, .inl (cJ, 11, .inr (.inl (fun _ => 0))))]) H := hP
  have hD : va_D A ([(h0, .inr (0, [.long 0, .long 0, .null])), (q7, .inl (cJ, 11, .inr (.inl (fun _ => 0))))]) := hD
  refine va_putF (D := δ) (ci := 0) (v := .ref q7) (ty := .array .long) (C := RX0) (T := TX0) (N := 3) hx hb hts hinX0 tyX0 tyX0_ok nmX0 hown hK hP hD hS 0 rfl rfl 2 (by decide) (hts (.fieldLink RX0 9 "GloveHours$Chances" "left" "[J") (List.mem_of_getElem? (i := 5) rfl)) (fun _ h9 => h9) rfl hin rfl (by decide +kernel) rfl rfl (Nat.le_of_ble_eq_true rfl) dX0_init_9 (fun H locs hP hD hS => ?_)
  have hP : va_P δ vwCl ([(h0, .inr (0, [.long 0, .long 0, .ref q7])), (q7, .inl (cJ, 11, .inr (.inl (fun _ => 0))))]) H := hP
  have hD : va_D A ([(h0, .inr (0, [.long 0, .long 0, .ref q7])), (q7, .inl (cJ, 11, .inr (.inl (fun _ => 0))))]) := hD
  have hP := mP_map (ws' := (wC cJ h0 q7 zCS)) hP [0, 1] rfl
  have hD := hD.sub (ws' := (wC cJ h0 q7 zCS)) [0, 1] rfl rfl
  exact hret _ _ q7 _ _ hP hD hS dX0_init_12

abbrev rm_X1_init : Room := { frames := 1, cells := 5, slots := 168, locals := 12 }
set_option maxHeartbeats 4000000 in
set_option maxRecDepth 100000 in
theorem c_X1_init (l : Launch) (δ : va_G) (cI cJ cZ : ClassId) (h0 : Nat) : mMc l δ (mTy cI cJ cZ) yX1_init wsX1_init rm_X1_init [.ref h0] ([(h0, .inr (1, [.int 0, .int 0, .int 0, .int 0, .int 0, .int 0, .null, .null, .null, .null, .null]))]) (S := Nat × Nat × Nat × Nat × Nat) (fun u => (wK cI h0 u.1 u.2.1 u.2.2.1 u.2.2.2.1 u.2.2.2.2 zKS)) 5 168 := by
  refine mk_c (cc := cX1_init) (maxL := 1) (by decide) rfl rfl (Nat.le_of_ble_eq_true rfl) ?_
  intro p e s m args below meth c A Q ls H locs hx hb hml hts hown hK hNW hA hP hD hS hl hin hret
  have hown : s.vm.findClass RX1 = some m.cls := hown
  have hl : lv_has ls 1 [(0, .ref h0)] := hl
  have hinX1 : ∀ w ∈ u_ws RX1 TX1 11, w ∈ wsX1_init := (fun _ h => List.mem_cons_of_mem _ (List.mem_append_right _ (h)))
  refine lv_aload_n hx hb dX1_init_0 rfl (lv_at hl 0 rfl) ?_
  refine W.objInit hx hb hown (hts (.methodLink RX1 3 objectInit) (List.mem_of_getElem? (i := 1) rfl)) (hts (.instanceMethod objectInit) (List.mem_of_getElem? (i := 2) rfl)) (hts _ (List.mem_of_getElem? (i := 3) rfl)) rfl (by rw [hml]; exact hl.1) rfl dX1_init_1 (Nat.le_of_ble_eq_true rfl) (Nat.le_of_ble_eq_true rfl) ?_
  refine W.eq (g2 := F0 m 4 ls []) rfl ?_
  refine lv_aload_n hx hb dX1_init_4 rfl (lv_at hl 0 rfl) ?_
  refine lv_bipush (v := (9 : Int32)) hx hb dX1_init_5 (by decide) ?_
  refine va_put (D := δ) (ci := 1) (v := .int (9 : Int32)) (ty := .int) (C := RX1) (T := TX1) (N := 11) hx hb hts hinX1 tyX1 tyX1_ok nmX1 hown hK hP hD hS 0 rfl rfl 2 (by decide) (hts (.fieldLink RX1 9 "GloveHours$Court" "tears" "I") (List.mem_of_getElem? (i := 4) rfl)) (fun _ h9 => h9) rfl (by decide +kernel) rfl rfl (Nat.le_of_ble_eq_true rfl) dX1_init_7 (fun H locs hP hD hS => ?_)
  have hP : va_P δ vwCl ([(h0, .inr (1, [.int 0, .int 0, .int (9 : Int32), .int 0, .int 0, .int 0, .null, .null, .null, .null, .null]))]) H := hP
  have hD : va_D A ([(h0, .inr (1, [.int 0, .int 0, .int (9 : Int32), .int 0, .int 0, .int 0, .null, .null, .null, .null, .null]))]) := hD
  refine lv_aload_n hx hb dX1_init_10 rfl (lv_at hl 0 rfl) ?_
  refine lv_bipush (v := (6 : Int32)) hx hb dX1_init_11 (by decide) ?_
  refine mnewa (atype := .int) (a0 := (6, .inl (fun _ => 0))) (N' := 6) hx hb (hts (.arrayClass .int) (List.mem_of_getElem? (i := 5) rfl)) rfl 0 rfl (ri_int s) hK hP hD hS hA (fun _ => rfl) (by decide) (by decide) (by decide) (Nat.le_of_ble_eq_true rfl) (Nat.le_of_ble_eq_true rfl) dX1_init_13 (fun q13 H hP hD hS => ?_)
  have hP : va_P δ vwCl ([(h0, .inr (1, [.int 0, .int 0, .int (9 : Int32), .int 0, .int 0, .int 0, .null, .null, .null, .null, .null])), (q13, .inl (cI, 6, .inl (fun _ => 0)))]) H := hP
  have hD : va_D A ([(h0, .inr (1, [.int 0, .int 0, .int (9 : Int32), .int 0, .int 0, .int 0, .null, .null, .null, .null, .null])), (q13, .inl (cI, 6, .inl (fun _ => 0)))]) := hD
  refine va_putF (D := δ) (ci := 1) (v := .ref q13) (ty := .array .int) (C := RX1) (T := TX1) (N := 11) hx hb hts hinX1 tyX1 tyX1_ok nmX1 hown hK hP hD hS 0 rfl rfl 6 (by decide) (hts (.fieldLink RX1 15 "GloveHours$Court" "pairs" "[I") (List.mem_of_getElem? (i := 6) rfl)) (fun _ h9 => h9) rfl hin rfl (by decide +kernel) rfl rfl (Nat.le_of_ble_eq_true rfl) dX1_init_15 (fun H locs hP hD hS => ?_)
  have hP : va_P δ vwCl ([(h0, .inr (1, [.int 0, .int 0, .int (9 : Int32), .int 0, .int 0, .int 0, .ref q13, .null, .null, .null, .null])), (q13, .inl (cI, 6, .inl (fun _ => 0)))]) H := hP
  have hD : va_D A ([(h0, .inr (1, [.int 0, .int 0, .int (9 : Int32), .int 0, .int 0, .int 0, .ref q13, .null, .null, .null, .null])), (q13, .inl (cI, 6, .inl (fun _ => 0)))]) := hD
  refine lv_aload_n hx hb dX1_init_18 rfl (lv_at hl 0 rfl) ?_
  refine lv_bipush (v := (6 : Int32)) hx hb dX1_init_19 (by decide) ?_
  refine mnewa (atype := .int) (a0 := (6, .inl (fun _ => 0))) (N' := 6) hx hb (hts (.arrayClass .int) (List.mem_of_getElem? (i := 5) rfl)) rfl 0 rfl (ri_int s) hK hP hD hS hA (fun _ => rfl) (by decide) (by decide) (by decide) (Nat.le_of_ble_eq_true rfl) (Nat.le_of_ble_eq_true rfl) dX1_init_21 (fun q21 H hP hD hS => ?_)
  have hP : va_P δ vwCl ([(h0, .inr (1, [.int 0, .int 0, .int (9 : Int32), .int 0, .int 0, .int 0, .ref q13, .null, .null, .null, .null])), (q13, .inl (cI, 6, .inl (fun _ => 0))), (q21, .inl (cI, 6, .inl (fun _ => 0)))]) H := hP
  have hD : va_D A ([(h0, .inr (1, [.int 0, .int 0, .int (9 : Int32), .int 0, .int 0, .int 0, .ref q13, .null, .null, .null, .null])), (q13, .inl (cI, 6, .inl (fun _ => 0))), (q21, .inl (cI, 6, .inl (fun _ => 0)))]) := hD
  refine va_putF (D := δ) (ci := 1) (v := .ref q21) (ty := .array .int) (C := RX1) (T := TX1) (N := 11) hx hb hts hinX1 tyX1 tyX1_ok nmX1 hown hK hP hD hS 0 rfl rfl 7 (by decide) (hts (.fieldLink RX1 19 "GloveHours$Court" "left" "[I") (List.mem_of_getElem? (i := 7) rfl)) (fun _ h9 => h9) rfl hin rfl (by decide +kernel) rfl rfl (Nat.le_of_ble_eq_true rfl) dX1_init_23 (fun H locs hP hD hS => ?_)
  have hP : va_P δ vwCl ([(h0, .inr (1, [.int 0, .int 0, .int (9 : Int32), .int 0, .int 0, .int 0, .ref q13, .ref q21, .null, .null, .null])), (q13, .inl (cI, 6, .inl (fun _ => 0))), (q21, .inl (cI, 6, .inl (fun _ => 0)))]) H := hP
  have hD : va_D A ([(h0, .inr (1, [.int 0, .int 0, .int (9 : Int32), .int 0, .int 0, .int 0, .ref q13, .ref q21, .null, .null, .null])), (q13, .inl (cI, 6, .inl (fun _ => 0))), (q21, .inl (cI, 6, .inl (fun _ => 0)))]) := hD
  refine lv_aload_n hx hb dX1_init_26 rfl (lv_at hl 0 rfl) ?_
  refine lv_bipush (v := (6 : Int32)) hx hb dX1_init_27 (by decide) ?_
  refine mnewa (atype := .int) (a0 := (6, .inl (fun _ => 0))) (N' := 6) hx hb (hts (.arrayClass .int) (List.mem_of_getElem? (i := 5) rfl)) rfl 0 rfl (ri_int s) hK hP hD hS hA (fun _ => rfl) (by decide) (by decide) (by decide) (Nat.le_of_ble_eq_true rfl) (Nat.le_of_ble_eq_true rfl) dX1_init_29 (fun q29 H hP hD hS => ?_)
  have hP : va_P δ vwCl ([(h0, .inr (1, [.int 0, .int 0, .int (9 : Int32), .int 0, .int 0, .int 0, .ref q13, .ref q21, .null, .null, .null])), (q13, .inl (cI, 6, .inl (fun _ => 0))), (q21, .inl (cI, 6, .inl (fun _ => 0))), (q29, .inl (cI, 6, .inl (fun _ => 0)))]) H := hP
  have hD : va_D A ([(h0, .inr (1, [.int 0, .int 0, .int (9 : Int32), .int 0, .int 0, .int 0, .ref q13, .ref q21, .null, .null, .null])), (q13, .inl (cI, 6, .inl (fun _ => 0))), (q21, .inl (cI, 6, .inl (fun _ => 0))), (q29, .inl (cI, 6, .inl (fun _ => 0)))]) := hD
  refine va_putF (D := δ) (ci := 1) (v := .ref q29) (ty := .array .int) (C := RX1) (T := TX1) (N := 11) hx hb hts hinX1 tyX1 tyX1_ok nmX1 hown hK hP hD hS 0 rfl rfl 8 (by decide) (hts (.fieldLink RX1 22 "GloveHours$Court" "right" "[I") (List.mem_of_getElem? (i := 8) rfl)) (fun _ h9 => h9) rfl hin rfl (by decide +kernel) rfl rfl (Nat.le_of_ble_eq_true rfl) dX1_init_31 (fun H locs hP hD hS => ?_)
  have hP : va_P δ vwCl ([(h0, .inr (1, [.int 0, .int 0, .int (9 : Int32), .int 0, .int 0, .int 0, .ref q13, .ref q21, .ref q29, .null, .null])), (q13, .inl (cI, 6, .inl (fun _ => 0))), (q21, .inl (cI, 6, .inl (fun _ => 0))), (q29, .inl (cI, 6, .inl (fun _ => 0)))]) H := hP
  have hD : va_D A ([(h0, .inr (1, [.int 0, .int 0, .int (9 : Int32), .int 0, .int 0, .int 0, .ref q13, .ref q21, .ref q29, .null, .null])), (q13, .inl (cI, 6, .inl (fun _ => 0))), (q21, .inl (cI, 6, .inl (fun _ => 0))), (q29, .inl (cI, 6, .inl (fun _ => 0)))]) := hD
  refine lv_aload_n hx hb dX1_init_34 rfl (lv_at hl 0 rfl) ?_
  refine lv_bipush (v := (6 : Int32)) hx hb dX1_init_35 (by decide) ?_
  refine mnewa (atype := .int) (a0 := (6, .inl (fun _ => 0))) (N' := 6) hx hb (hts (.arrayClass .int) (List.mem_of_getElem? (i := 5) rfl)) rfl 0 rfl (ri_int s) hK hP hD hS hA (fun _ => rfl) (by decide) (by decide) (by decide) (Nat.le_of_ble_eq_true rfl) (Nat.le_of_ble_eq_true rfl) dX1_init_37 (fun q37 H hP hD hS => ?_)
  have hP : va_P δ vwCl ([(h0, .inr (1, [.int 0, .int 0, .int (9 : Int32), .int 0, .int 0, .int 0, .ref q13, .ref q21, .ref q29, .null, .null])), (q13, .inl (cI, 6, .inl (fun _ => 0))), (q21, .inl (cI, 6, .inl (fun _ => 0))), (q29, .inl (cI, 6, .inl (fun _ => 0))), (q37, .inl (cI, 6, .inl (fun _ => 0)))]) H := hP
  have hD : va_D A ([(h0, .inr (1, [.int 0, .int 0, .int (9 : Int32), .int 0, .int 0, .int 0, .ref q13, .ref q21, .ref q29, .null, .null])), (q13, .inl (cI, 6, .inl (fun _ => 0))), (q21, .inl (cI, 6, .inl (fun _ => 0))), (q29, .inl (cI, 6, .inl (fun _ => 0))), (q37, .inl (cI, 6, .inl (fun _ => 0)))]) := hD
  refine va_putF (D := δ) (ci := 1) (v := .ref q37) (ty := .array .int) (C := RX1) (T := TX1) (N := 11) hx hb hts hinX1 tyX1 tyX1_ok nmX1 hown hK hP hD hS 0 rfl rfl 9 (by decide) (hts (.fieldLink RX1 25 "GloveHours$Court" "scandals" "[I") (List.mem_of_getElem? (i := 9) rfl)) (fun _ h9 => h9) rfl hin rfl (by decide +kernel) rfl rfl (Nat.le_of_ble_eq_true rfl) dX1_init_39 (fun H locs hP hD hS => ?_)
  have hP : va_P δ vwCl ([(h0, .inr (1, [.int 0, .int 0, .int (9 : Int32), .int 0, .int 0, .int 0, .ref q13, .ref q21, .ref q29, .ref q37, .null])), (q13, .inl (cI, 6, .inl (fun _ => 0))), (q21, .inl (cI, 6, .inl (fun _ => 0))), (q29, .inl (cI, 6, .inl (fun _ => 0))), (q37, .inl (cI, 6, .inl (fun _ => 0)))]) H := hP
  have hD : va_D A ([(h0, .inr (1, [.int 0, .int 0, .int (9 : Int32), .int 0, .int 0, .int 0, .ref q13, .ref q21, .ref q29, .ref q37, .null])), (q13, .inl (cI, 6, .inl (fun _ => 0))), (q21, .inl (cI, 6, .inl (fun _ => 0))), (q29, .inl (cI, 6, .inl (fun _ => 0))), (q37, .inl (cI, 6, .inl (fun _ => 0)))]) := hD
  refine lv_aload_n hx hb dX1_init_42 rfl (lv_at hl 0 rfl) ?_
  refine lv_sipush (v := (144 : Int32)) hx hb dX1_init_43 (by decide) ?_
  refine mnewa (atype := .int) (a0 := (144, .inl (fun _ => 0))) (N' := 144) hx hb (hts (.arrayClass .int) (List.mem_of_getElem? (i := 5) rfl)) rfl 0 rfl (ri_int s) hK hP hD hS hA (fun _ => rfl) (by decide) (by decide) (by decide) (Nat.le_of_ble_eq_true rfl) (Nat.le_of_ble_eq_true rfl) dX1_init_46 (fun q46 H hP hD hS => ?_)
  have hP : va_P δ vwCl ([(h0, .inr (1, [.int 0, .int 0, .int (9 : Int32), .int 0, .int 0, .int 0, .ref q13, .ref q21, .ref q29, .ref q37, .null])), (q13, .inl (cI, 6, .inl (fun _ => 0))), (q21, .inl (cI, 6, .inl (fun _ => 0))), (q29, .inl (cI, 6, .inl (fun _ => 0))), (q37, .inl (cI, 6, .inl (fun _ => 0))), (q46, .inl (cI, 144, .inl (fun _ => 0)))]) H := hP
  have hD : va_D A ([(h0, .inr (1, [.int 0, .int 0, .int (9 : Int32), .int 0, .int 0, .int 0, .ref q13, .ref q21, .ref q29, .ref q37, .null])), (q13, .inl (cI, 6, .inl (fun _ => 0))), (q21, .inl (cI, 6, .inl (fun _ => 0))), (q29, .inl (cI, 6, .inl (fun _ => 0))), (q37, .inl (cI, 6, .inl (fun _ => 0))), (q46, .inl (cI, 144, .inl (fun _ => 0)))]) := hD
  refine va_putF (D := δ) (ci := 1) (v := .ref q46) (ty := .array .int) (C := RX1) (T := TX1) (N := 11) hx hb hts hinX1 tyX1 tyX1_ok nmX1 hown hK hP hD hS 0 rfl rfl 10 (by decide) (hts (.fieldLink RX1 28 "GloveHours$Court" "wears" "[I") (List.mem_of_getElem? (i := 10) rfl)) (fun _ h9 => h9) rfl hin rfl (by decide +kernel) rfl rfl (Nat.le_of_ble_eq_true rfl) dX1_init_48 (fun H locs hP hD hS => ?_)
  have hP : va_P δ vwCl ([(h0, .inr (1, [.int 0, .int 0, .int (9 : Int32), .int 0, .int 0, .int 0, .ref q13, .ref q21, .ref q29, .ref q37, .ref q46])), (q13, .inl (cI, 6, .inl (fun _ => 0))), (q21, .inl (cI, 6, .inl (fun _ => 0))), (q29, .inl (cI, 6, .inl (fun _ => 0))), (q37, .inl (cI, 6, .inl (fun _ => 0))), (q46, .inl (cI, 144, .inl (fun _ => 0)))]) H := hP
  have hD : va_D A ([(h0, .inr (1, [.int 0, .int 0, .int (9 : Int32), .int 0, .int 0, .int 0, .ref q13, .ref q21, .ref q29, .ref q37, .ref q46])), (q13, .inl (cI, 6, .inl (fun _ => 0))), (q21, .inl (cI, 6, .inl (fun _ => 0))), (q29, .inl (cI, 6, .inl (fun _ => 0))), (q37, .inl (cI, 6, .inl (fun _ => 0))), (q46, .inl (cI, 144, .inl (fun _ => 0)))]) := hD
  have hP := mP_map (ws' := (wK cI h0 q13 q21 q29 q37 q46 zKS)) hP [0, 1, 2, 3, 4, 5] rfl
  have hD := hD.sub (ws' := (wK cI h0 q13 q21 q29 q37 q46 zKS)) [0, 1, 2, 3, 4, 5] rfl rfl
  exact hret _ _ (q13, q21, q29, q37, q46) _ _ hP hD hS dX1_init_51

abbrev rm_X3_init : Room := { frames := 1, cells := 2, slots := 70, locals := 12 }
set_option maxHeartbeats 4000000 in
set_option maxRecDepth 100000 in
theorem c_X3_init (l : Launch) (δ : va_G) (cI cJ cZ : ClassId) (h0 : Nat) : mMc l δ (mTy cI cJ cZ) yX3_init wsX3_init rm_X3_init [.ref h0] ([(h0, .inr (3, [.int 0, .null, .null]))]) (S := Nat × Nat) (fun u => (wM cI h0 u.1 u.2 zMS)) 2 70 := by
  refine mk_c (cc := cX3_init) (maxL := 1) (by decide) rfl rfl (Nat.le_of_ble_eq_true rfl) ?_
  intro p e s m args below meth c A Q ls H locs hx hb hml hts hown hK hNW hA hP hD hS hl hin hret
  have hown : s.vm.findClass RX3 = some m.cls := hown
  have hl : lv_has ls 1 [(0, .ref h0)] := hl
  have hinX3 : ∀ w ∈ u_ws RX3 TX3 3, w ∈ wsX3_init := (fun _ h => List.mem_cons_of_mem _ (List.mem_append_right _ (h)))
  refine lv_aload_n hx hb dX3_init_0 rfl (lv_at hl 0 rfl) ?_
  refine W.objInit hx hb hown (hts (.methodLink RX3 3 objectInit) (List.mem_of_getElem? (i := 1) rfl)) (hts (.instanceMethod objectInit) (List.mem_of_getElem? (i := 2) rfl)) (hts _ (List.mem_of_getElem? (i := 3) rfl)) rfl (by rw [hml]; exact hl.1) rfl dX3_init_1 (Nat.le_of_ble_eq_true rfl) (Nat.le_of_ble_eq_true rfl) ?_
  refine W.eq (g2 := F0 m 4 ls []) rfl ?_
  refine lv_aload_n hx hb dX3_init_4 rfl (lv_at hl 0 rfl) ?_
  refine lv_bipush (v := (6 : Int32)) hx hb dX3_init_5 (by decide) ?_
  refine mnewa (atype := .int) (a0 := (6, .inl (fun _ => 0))) (N' := 6) hx hb (hts (.arrayClass .int) (List.mem_of_getElem? (i := 4) rfl)) rfl 0 rfl (ri_int s) hK hP hD hS hA (fun _ => rfl) (by decide) (by decide) (by decide) (Nat.le_of_ble_eq_true rfl) (Nat.le_of_ble_eq_true rfl) dX3_init_7 (fun q7 H hP hD hS => ?_)
  have hP : va_P δ vwCl ([(h0, .inr (3, [.int 0, .null, .null])), (q7, .inl (cI, 6, .inl (fun _ => 0)))]) H := hP
  have hD : va_D A ([(h0, .inr (3, [.int 0, .null, .null])), (q7, .inl (cI, 6, .inl (fun _ => 0)))]) := hD
  refine va_putF (D := δ) (ci := 3) (v := .ref q7) (ty := .array .int) (C := RX3) (T := TX3) (N := 3) hx hb hts hinX3 tyX3 tyX3_ok nmX3 hown hK hP hD hS 0 rfl rfl 1 (by decide) (hts (.fieldLink RX3 9 "GloveHours$Matching" "room" "[I") (List.mem_of_getElem? (i := 5) rfl)) (fun _ h9 => h9) rfl hin rfl (by decide +kernel) rfl rfl (Nat.le_of_ble_eq_true rfl) dX3_init_9 (fun H locs hP hD hS => ?_)
  have hP : va_P δ vwCl ([(h0, .inr (3, [.int 0, .ref q7, .null])), (q7, .inl (cI, 6, .inl (fun _ => 0)))]) H := hP
  have hD : va_D A ([(h0, .inr (3, [.int 0, .ref q7, .null])), (q7, .inl (cI, 6, .inl (fun _ => 0)))]) := hD
  refine lv_aload_n hx hb dX3_init_12 rfl (lv_at hl 0 rfl) ?_
  refine lv_bipush (v := (64 : Int32)) hx hb dX3_init_13 (by decide) ?_
  refine mnewa (atype := .int) (a0 := (64, .inl (fun _ => 0))) (N' := 64) hx hb (hts (.arrayClass .int) (List.mem_of_getElem? (i := 4) rfl)) rfl 0 rfl (ri_int s) hK hP hD hS hA (fun _ => rfl) (by decide) (by decide) (by decide) (Nat.le_of_ble_eq_true rfl) (Nat.le_of_ble_eq_true rfl) dX3_init_15 (fun q15 H hP hD hS => ?_)
  have hP : va_P δ vwCl ([(h0, .inr (3, [.int 0, .ref q7, .null])), (q7, .inl (cI, 6, .inl (fun _ => 0))), (q15, .inl (cI, 64, .inl (fun _ => 0)))]) H := hP
  have hD : va_D A ([(h0, .inr (3, [.int 0, .ref q7, .null])), (q7, .inl (cI, 6, .inl (fun _ => 0))), (q15, .inl (cI, 64, .inl (fun _ => 0)))]) := hD
  refine va_putF (D := δ) (ci := 3) (v := .ref q15) (ty := .array .int) (C := RX3) (T := TX3) (N := 3) hx hb hts hinX3 tyX3 tyX3_ok nmX3 hown hK hP hD hS 0 rfl rfl 2 (by decide) (hts (.fieldLink RX3 15 "GloveHours$Matching" "slack" "[I") (List.mem_of_getElem? (i := 6) rfl)) (fun _ h9 => h9) rfl hin rfl (by decide +kernel) rfl rfl (Nat.le_of_ble_eq_true rfl) dX3_init_17 (fun H locs hP hD hS => ?_)
  have hP : va_P δ vwCl ([(h0, .inr (3, [.int 0, .ref q7, .ref q15])), (q7, .inl (cI, 6, .inl (fun _ => 0))), (q15, .inl (cI, 64, .inl (fun _ => 0)))]) H := hP
  have hD : va_D A ([(h0, .inr (3, [.int 0, .ref q7, .ref q15])), (q7, .inl (cI, 6, .inl (fun _ => 0))), (q15, .inl (cI, 64, .inl (fun _ => 0)))]) := hD
  have hP := mP_map (ws' := (wM cI h0 q7 q15 zMS)) hP [0, 1, 2] rfl
  have hD := hD.sub (ws' := (wM cI h0 q7 q15 zMS)) [0, 1, 2] rfl rfl
  exact hret _ _ (q7, q15) _ _ hP hD hS dX3_init_20

abbrev rm_X4_init : Room := { frames := 1, cells := 1, slots := 60, locals := 12 }
set_option maxHeartbeats 4000000 in
set_option maxRecDepth 100000 in
theorem c_X4_init (l : Launch) (δ : va_G) (cI cJ cZ : ClassId) (h0 : Nat) : mMc l δ (mTy cI cJ cZ) yX4_init wsX4_init rm_X4_init [.ref h0] ([(h0, .inr (4, [.int 0, .null]))]) (S := Nat) (fun u => (wP cI h0 u zPS)) 1 60 := by
  refine mk_c (cc := cX4_init) (maxL := 1) (by decide) rfl rfl (Nat.le_of_ble_eq_true rfl) ?_
  intro p e s m args below meth c A Q ls H locs hx hb hml hts hown hK hNW hA hP hD hS hl hin hret
  have hown : s.vm.findClass RX4 = some m.cls := hown
  have hl : lv_has ls 1 [(0, .ref h0)] := hl
  have hinX4 : ∀ w ∈ u_ws RX4 TX4 2, w ∈ wsX4_init := (fun _ h => List.mem_cons_of_mem _ (List.mem_append_right _ (h)))
  refine lv_aload_n hx hb dX4_init_0 rfl (lv_at hl 0 rfl) ?_
  refine W.objInit hx hb hown (hts (.methodLink RX4 3 objectInit) (List.mem_of_getElem? (i := 1) rfl)) (hts (.instanceMethod objectInit) (List.mem_of_getElem? (i := 2) rfl)) (hts _ (List.mem_of_getElem? (i := 3) rfl)) rfl (by rw [hml]; exact hl.1) rfl dX4_init_1 (Nat.le_of_ble_eq_true rfl) (Nat.le_of_ble_eq_true rfl) ?_
  refine W.eq (g2 := F0 m 4 ls []) rfl ?_
  refine lv_aload_n hx hb dX4_init_4 rfl (lv_at hl 0 rfl) ?_
  refine lv_bipush (v := (60 : Int32)) hx hb dX4_init_5 (by decide) ?_
  refine mnewa (atype := .int) (a0 := (60, .inl (fun _ => 0))) (N' := 60) hx hb (hts (.arrayClass .int) (List.mem_of_getElem? (i := 4) rfl)) rfl 0 rfl (ri_int s) hK hP hD hS hA (fun _ => rfl) (by decide) (by decide) (by decide) (Nat.le_of_ble_eq_true rfl) (Nat.le_of_ble_eq_true rfl) dX4_init_7 (fun q7 H hP hD hS => ?_)
  have hP : va_P δ vwCl ([(h0, .inr (4, [.int 0, .null])), (q7, .inl (cI, 60, .inl (fun _ => 0)))]) H := hP
  have hD : va_D A ([(h0, .inr (4, [.int 0, .null])), (q7, .inl (cI, 60, .inl (fun _ => 0)))]) := hD
  refine va_putF (D := δ) (ci := 4) (v := .ref q7) (ty := .array .int) (C := RX4) (T := TX4) (N := 2) hx hb hts hinX4 tyX4 tyX4_ok nmX4 hown hK hP hD hS 0 rfl rfl 1 (by decide) (hts (.fieldLink RX4 9 "GloveHours$Pad" "signs" "[I") (List.mem_of_getElem? (i := 5) rfl)) (fun _ h9 => h9) rfl hin rfl (by decide +kernel) rfl rfl (Nat.le_of_ble_eq_true rfl) dX4_init_9 (fun H locs hP hD hS => ?_)
  have hP : va_P δ vwCl ([(h0, .inr (4, [.int 0, .ref q7])), (q7, .inl (cI, 60, .inl (fun _ => 0)))]) H := hP
  have hD : va_D A ([(h0, .inr (4, [.int 0, .ref q7])), (q7, .inl (cI, 60, .inl (fun _ => 0)))]) := hD
  have hP := mP_map (ws' := (wP cI h0 q7 zPS)) hP [0, 1] rfl
  have hD := hD.sub (ws' := (wP cI h0 q7 zPS)) [0, 1] rfl rfl
  exact hret _ _ q7 _ _ hP hD hS dX4_init_12
