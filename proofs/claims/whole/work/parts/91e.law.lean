/-! the law, calls 16 on -/
set_option maxHeartbeats 40000000 in
set_option maxRecDepth 100000 in
theorem law_c16 {p : Program} {l : Launch} {e : Env} {s : State} {m : MethodId} {below : List Frame} {meth : Method} {c : Code} {δ : va_G} {cI cJ cZ : ClassId} {b L : Nat} {xs : Nat → Int32} (hL : L ≤ 384) (C0 : lw_At p s m meth c b L xs) (hK : va_K δ vwCl (mTy cI cJ cZ) s) (hNW : mNW s) {aG0 aK0 aK1 aK2 aK3 aK4 aK5 aE0 aE1 aE2 aE3 aE4 aE5 aF0 aF1 aF2 aF3 aF4 aF5 aP0 aP1 aD0 aD1 aD2 aD3 aD4 aT0 aT1 aT2 aT3 aT4 aT5 aM0 aM1 aM2 aC0 aC1 aR0 aR1 aR2 aR3 aR4 aR5 aR6 aR7 aR8 aR9 aR10 aR11 aR12 aR13 aR14 aR15 aR16 aR17 aR18 aR19 aR20 aR21 : Nat} {i : Nat} (hi6 : i + 6 ≤ L) (ih : LInv p l e s m below meth c δ cI cJ cZ b aG0 aK0 aK1 aK2 aK3 aK4 aK5 aE0 aE1 aE2 aE3 aE4 aE5 aF0 aF1 aF2 aF3 aF4 aF5 aP0 aP1 aD0 aD1 aD2 aD3 aD4 aT0 aT1 aT2 aT3 aT4 aT5 aM0 aM1 aM2 aC0 aC1 aR0 aR1 aR2 aR3 aR4 aR5 aR6 aR7 aR8 aR9 aR10 aR11 aR12 aR13 aR14 aR15 aR16 aR17 aR18 aR19 aR20 aR21 (i + 6)) {gg : GS} {k : KS} {kE : KS} {kF : KS} {pp : PS} {dy : DS} {kT : KS} {mm : MS} {ch : CS} {lv : LV} {sg : SG} {pd : PD} {ac : AC} {dd : DD} {hd : HD} {le : LE} {bd : BD} {my : MY} {lf : LF} {pa : PA} {kp : KP} {H : Heap} {locs : List Loc} (hrel : REL gg k kE kF pp lv sg pd kp) (hP : va_P δ vwCl ((wG  aG0 aK0 aE0 aF0 aP0 aD0 aM0 aC0 gg) ++ (wK cI aK0 aK1 aK2 aK3 aK4 aK5 k) ++ (wK cI aE0 aE1 aE2 aE3 aE4 aE5 kE) ++ (wK cI aF0 aF1 aF2 aF3 aF4 aF5 kF) ++ (wP cI aP0 aP1 pp) ++ (wD cI aD0 aD1 aD2 aD3 aD4 aT0 dy) ++ (wK cI aT0 aT1 aT2 aT3 aT4 aT5 kT) ++ (wM cI aM0 aM1 aM2 mm) ++ (wC cJ aC0 aC1 ch) ++ (wR cI cJ cZ aR0 aR1 aR2 aR3 aR4 aR5 aR6 aR7 aR8 aR9 aR10 aR11 aR12 aR13 aR14 aR15 aR16 aR17 aR18 aR19 aR20 aR21 lv sg pd ac dd hd le bd my lf pa kp)) H) (hD : va_D (fun q : Nat => s.heap.size ≤ q) ((wG  aG0 aK0 aE0 aF0 aP0 aD0 aM0 aC0 gg) ++ (wK cI aK0 aK1 aK2 aK3 aK4 aK5 k) ++ (wK cI aE0 aE1 aE2 aE3 aE4 aE5 kE) ++ (wK cI aF0 aF1 aF2 aF3 aF4 aF5 kF) ++ (wP cI aP0 aP1 pp) ++ (wD cI aD0 aD1 aD2 aD3 aD4 aT0 dy) ++ (wK cI aT0 aT1 aT2 aT3 aT4 aT5 kT) ++ (wM cI aM0 aM1 aM2 mm) ++ (wC cJ aC0 aC1 ch) ++ (wR cI cJ cZ aR0 aR1 aR2 aR3 aR4 aR5 aR6 aR7 aR8 aR9 aR10 aR11 aR12 aR13 aR14 aR15 aR16 aR17 aR18 aR19 aR20 aR21 lv sg pd ac dd hd le bd my lf pa kp))) (hS : va_S (fun q : Nat => s.heap.size ≤ q) s.heap H locs) {ls : Array Slot} (hl : lv_has ls 4 [(0, .ref b), (1, .ref aG0), (2, .ref aR0), (3, .int (nI i))]) : W p l e room_1 s m #[Value.ref b] below meth c H locs 59 2755 (lw_Z below #[Value.ref b] s) (F0 m 592 ls []) := by
  obtain ⟨hx, hb, hr0, hml, hown, hts, hX, hbl, hlocks, hgv⟩ := C0
  have htsL : ∀ w ∈ wsL_law, w.before #[Value.ref b] s = true := fun w h => hts w (wsL_law_in w h)
  have hA : ∀ q : Nat, s.heap.size ≤ q → (fun q : Nat => s.heap.size ≤ q) q := fun _ h => h
  have hbA : ¬ (fun q : Nat => s.heap.size ≤ q) b := Nat.not_le.mpr hbl
  refine lv_aload_n hx hb dL_law_592 rfl (lv_at hl 1 rfl) ?_
  refine lv_aload_n hx hb dL_law_593 rfl (lv_at hl 0 rfl) ?_
  refine lv_iload_n hx hb dL_law_594 rfl (lv_at hl 3 rfl) ?_
  refine lv_iconst (v := (1 : Int32)) hx hb dL_law_595 (by decide) ?_
  refine lv_iadd hx hb dL_law_596 ?_
  refine lv_topi (fun y_596 e_596 => ?_)
  obtain rfl : y_596 = (nI (i + 1)) := e_596.trans (nI_add i 1)
  refine va_sld hx hb hX hbl hbA hS (vp_in_nI (by omega) (by omega)) dL_law_597 ?_
  have hr := mrVx (p := p) (e := e) (R := room_1) (below := below) (meth := meth) (H := H) (locs := locs) (ls := ls) (cells := 59) (slots := 2755) (As := [.int (xs (nI (i + 1)).toNatClampNeg)]) (rest := []) (c_X5_mended l δ cI cJ cZ aG0 aK0 aK1 aK2 aK3 aK4 aK5 aP0 aP1 aD0 aD1 aD2 aD3 aD4 aT0 aT1 aT2 aT3 aT4 aT5 aE0 aF0 aM0 aC0 gg k pp dy kT (xs (nI (i + 1)).toNatClampNeg)) hx hb hml htsL hown hK hNW hP hD (pm_GKPDT _ _ _ _ _ _ _ _ _ _) 5 0 rfl rfl (cwV 1 htsL gL_law_X5_mended rfl rfl rfl (by decide +kernel) ⟨(Nat.le_of_ble_eq_true rfl), (Nat.le_of_ble_eq_true rfl)⟩) rfl hl.1 rfl (Nat.le_of_ble_eq_true rfl) dL_law_598 ⟨(Nat.le_of_ble_eq_true rfl), (Nat.le_of_ble_eq_true rfl)⟩
  refine mcx_i (wr := ((wK cI aE0 aE1 aE2 aE3 aE4 aE5 kE) ++ (wK cI aF0 aF1 aF2 aF3 aF4 aF5 kF) ++ (wM cI aM0 aM1 aM2 mm) ++ (wC cJ aC0 aC1 ch) ++ (wR cI cJ cZ aR0 aR1 aR2 aR3 aR4 aR5 aR6 aR7 aR8 aR9 aR10 aR11 aR12 aR13 aR14 aR15 aR16 aR17 aR18 aR19 aR20 aR21 lv sg pd ac dd hd le bd my lf pa kp))) hr hP hD hS hA (pm_GKPDT _ _ _ _ _ _ _ _ _ _) (wn := fun u_598 => ((wG  aG0 aK0 aE0 aF0 aP0 aD0 aM0 aC0 gg) ++ (wK cI aK0 aK1 aK2 aK3 aK4 aK5 k) ++ (wK cI aE0 aE1 aE2 aE3 aE4 aE5 kE) ++ (wK cI aF0 aF1 aF2 aF3 aF4 aF5 kF) ++ (wP cI aP0 aP1 pp) ++ (wD cI aD0 aD1 aD2 aD3 aD4 aT0 u_598.1) ++ (wK cI aT0 aT1 aT2 aT3 aT4 aT5 u_598.2) ++ (wM cI aM0 aM1 aM2 mm) ++ (wC cJ aC0 aC1 ch) ++ (wR cI cJ cZ aR0 aR1 aR2 aR3 aR4 aR5 aR6 aR7 aR8 aR9 aR10 aR11 aR12 aR13 aR14 aR15 aR16 aR17 aR18 aR19 aR20 aR21 lv sg pd ac dd hd le bd my lf pa kp))) (fun _ => (pm_GKPDT _ _ _ _ _ _ _ _ _ _)) (fun r_598 u_598 H locs hw_598 hP hD hS => ?_)
  have hP : va_P δ vwCl ((wG  aG0 aK0 aE0 aF0 aP0 aD0 aM0 aC0 gg) ++ (wK cI aK0 aK1 aK2 aK3 aK4 aK5 k) ++ (wK cI aE0 aE1 aE2 aE3 aE4 aE5 kE) ++ (wK cI aF0 aF1 aF2 aF3 aF4 aF5 kF) ++ (wP cI aP0 aP1 pp) ++ (wD cI aD0 aD1 aD2 aD3 aD4 aT0 u_598.1) ++ (wK cI aT0 aT1 aT2 aT3 aT4 aT5 u_598.2) ++ (wM cI aM0 aM1 aM2 mm) ++ (wC cJ aC0 aC1 ch) ++ (wR cI cJ cZ aR0 aR1 aR2 aR3 aR4 aR5 aR6 aR7 aR8 aR9 aR10 aR11 aR12 aR13 aR14 aR15 aR16 aR17 aR18 aR19 aR20 aR21 lv sg pd ac dd hd le bd my lf pa kp)) H := hP
  have hD : va_D (fun q : Nat => s.heap.size ≤ q) ((wG  aG0 aK0 aE0 aF0 aP0 aD0 aM0 aC0 gg) ++ (wK cI aK0 aK1 aK2 aK3 aK4 aK5 k) ++ (wK cI aE0 aE1 aE2 aE3 aE4 aE5 kE) ++ (wK cI aF0 aF1 aF2 aF3 aF4 aF5 kF) ++ (wP cI aP0 aP1 pp) ++ (wD cI aD0 aD1 aD2 aD3 aD4 aT0 u_598.1) ++ (wK cI aT0 aT1 aT2 aT3 aT4 aT5 u_598.2) ++ (wM cI aM0 aM1 aM2 mm) ++ (wC cJ aC0 aC1 ch) ++ (wR cI cJ cZ aR0 aR1 aR2 aR3 aR4 aR5 aR6 aR7 aR8 aR9 aR10 aR11 aR12 aR13 aR14 aR15 aR16 aR17 aR18 aR19 aR20 aR21 lv sg pd ac dd hd le bd my lf pa kp)) := hD
  refine lv_aload_n hx hb dL_law_601 rfl (lv_at hl 2 rfl) ?_
  refine lv_aload_n hx hb dL_law_602 rfl (lv_at hl 0 rfl) ?_
  refine lv_iload_n hx hb dL_law_603 rfl (lv_at hl 3 rfl) ?_
  refine lv_iconst (v := (1 : Int32)) hx hb dL_law_604 (by decide) ?_
  refine lv_iadd hx hb dL_law_605 ?_
  refine lv_topi (fun y_605 e_605 => ?_)
  obtain rfl : y_605 = (nI (i + 1)) := e_605.trans (nI_add i 1)
  refine va_sld hx hb hX hbl hbA hS (vp_in_nI (by omega) (by omega)) dL_law_606 ?_
  have hr := mrVx (p := p) (e := e) (R := room_1) (below := below) (meth := meth) (H := H) (locs := locs) (ls := ls) (cells := 59) (slots := 2755) (As := [.int (xs (nI (i + 1)).toNatClampNeg)]) (rest := [.int r_598]) (c_X6_mended l δ cI cJ cZ aR0 aR1 aR2 aR3 aR4 aR5 aR6 aR7 aR8 aR9 aR10 aR11 aR12 aR13 aR14 aR15 aR16 aR17 aR18 aR19 aR20 aR21 lv sg pd ac dd hd le bd my lf pa kp (xs (nI (i + 1)).toNatClampNeg) (rel_hq hrel) (rel_hrk hrel)) hx hb hml htsL hown hK hNW hP hD (pm_R _ _ _ _ _ _ _ _ _ _) 6 0 rfl rfl (cwV 1 htsL gL_law_X6_mended rfl rfl rfl (by decide +kernel) ⟨(Nat.le_of_ble_eq_true rfl), (Nat.le_of_ble_eq_true rfl)⟩) rfl hl.1 rfl (Nat.le_of_ble_eq_true rfl) dL_law_607 ⟨(Nat.le_of_ble_eq_true rfl), (Nat.le_of_ble_eq_true rfl)⟩
  refine mcx_i (wr := ((wG  aG0 aK0 aE0 aF0 aP0 aD0 aM0 aC0 gg) ++ (wK cI aK0 aK1 aK2 aK3 aK4 aK5 k) ++ (wK cI aE0 aE1 aE2 aE3 aE4 aE5 kE) ++ (wK cI aF0 aF1 aF2 aF3 aF4 aF5 kF) ++ (wP cI aP0 aP1 pp) ++ (wD cI aD0 aD1 aD2 aD3 aD4 aT0 u_598.1) ++ (wK cI aT0 aT1 aT2 aT3 aT4 aT5 u_598.2) ++ (wM cI aM0 aM1 aM2 mm) ++ (wC cJ aC0 aC1 ch))) hr hP hD hS hA (pm_R _ _ _ _ _ _ _ _ _ _) (wn := fun u_607 => ((wG  aG0 aK0 aE0 aF0 aP0 aD0 aM0 aC0 gg) ++ (wK cI aK0 aK1 aK2 aK3 aK4 aK5 k) ++ (wK cI aE0 aE1 aE2 aE3 aE4 aE5 kE) ++ (wK cI aF0 aF1 aF2 aF3 aF4 aF5 kF) ++ (wP cI aP0 aP1 pp) ++ (wD cI aD0 aD1 aD2 aD3 aD4 aT0 u_598.1) ++ (wK cI aT0 aT1 aT2 aT3 aT4 aT5 u_598.2) ++ (wM cI aM0 aM1 aM2 mm) ++ (wC cJ aC0 aC1 ch) ++ (wR cI cJ cZ aR0 aR1 aR2 aR3 aR4 aR5 aR6 aR7 aR8 aR9 aR10 aR11 aR12 aR13 aR14 aR15 aR16 aR17 aR18 aR19 aR20 aR21 u_607.1 sg pd u_607.2.1 u_607.2.2.1 u_607.2.2.2.1 u_607.2.2.2.2.1 u_607.2.2.2.2.2.1 my u_607.2.2.2.2.2.2 pa kp))) (fun _ => (pm_R _ _ _ _ _ _ _ _ _ _)) (fun r_607 u_607 H locs hw_607 hP hD hS => ?_)
  have hP : va_P δ vwCl ((wG  aG0 aK0 aE0 aF0 aP0 aD0 aM0 aC0 gg) ++ (wK cI aK0 aK1 aK2 aK3 aK4 aK5 k) ++ (wK cI aE0 aE1 aE2 aE3 aE4 aE5 kE) ++ (wK cI aF0 aF1 aF2 aF3 aF4 aF5 kF) ++ (wP cI aP0 aP1 pp) ++ (wD cI aD0 aD1 aD2 aD3 aD4 aT0 u_598.1) ++ (wK cI aT0 aT1 aT2 aT3 aT4 aT5 u_598.2) ++ (wM cI aM0 aM1 aM2 mm) ++ (wC cJ aC0 aC1 ch) ++ (wR cI cJ cZ aR0 aR1 aR2 aR3 aR4 aR5 aR6 aR7 aR8 aR9 aR10 aR11 aR12 aR13 aR14 aR15 aR16 aR17 aR18 aR19 aR20 aR21 u_607.1 sg pd u_607.2.1 u_607.2.2.1 u_607.2.2.2.1 u_607.2.2.2.2.1 u_607.2.2.2.2.2.1 my u_607.2.2.2.2.2.2 pa kp)) H := hP
  have hD : va_D (fun q : Nat => s.heap.size ≤ q) ((wG  aG0 aK0 aE0 aF0 aP0 aD0 aM0 aC0 gg) ++ (wK cI aK0 aK1 aK2 aK3 aK4 aK5 k) ++ (wK cI aE0 aE1 aE2 aE3 aE4 aE5 kE) ++ (wK cI aF0 aF1 aF2 aF3 aF4 aF5 kF) ++ (wP cI aP0 aP1 pp) ++ (wD cI aD0 aD1 aD2 aD3 aD4 aT0 u_598.1) ++ (wK cI aT0 aT1 aT2 aT3 aT4 aT5 u_598.2) ++ (wM cI aM0 aM1 aM2 mm) ++ (wC cJ aC0 aC1 ch) ++ (wR cI cJ cZ aR0 aR1 aR2 aR3 aR4 aR5 aR6 aR7 aR8 aR9 aR10 aR11 aR12 aR13 aR14 aR15 aR16 aR17 aR18 aR19 aR20 aR21 u_607.1 sg pd u_607.2.1 u_607.2.2.1 u_607.2.2.2.1 u_607.2.2.2.2.1 u_607.2.2.2.2.2.1 my u_607.2.2.2.2.2.2 pa kp)) := hD
  refine lv_icmp_eq (tgt := 1038) hx hb dL_law_610 (by decide) (fun c_610 => ?_) (fun c_610 => ?_)
  · skip
    have hap := api_mended hrel hw_598 hw_607
    have hrel := hap.2
    refine lv_iinc (v := nI (i + 6)) (lv' := [(3, .int (nI (i + 6))), (0, .ref b), (1, .ref aG0), (2, .ref aR0)]) hx hb dL_law_1038 hl (k := 3) rfl (nI_add i 6) (by decide) rfl (fun ls hl => ?_)
    refine lv_goto (tgt := 18) hx hb dL_law_1041 (by decide) ?_
    exact ih gg k kE kF pp u_598.1 u_598.2 mm ch u_607.1 sg pd u_607.2.1 u_607.2.2.1 u_607.2.2.2.1 u_607.2.2.2.2.1 u_607.2.2.2.2.2.1 my u_607.2.2.2.2.2.2 pa kp _ _ hrel hP hD hS ls (lv_sub hl [1, 2, 3, 0] rfl)
  · skip
    have hap := api_mended hrel hw_598 hw_607
    exact absurd hap.1 c_610
set_option maxHeartbeats 40000000 in
set_option maxRecDepth 100000 in
theorem law_c17 {p : Program} {l : Launch} {e : Env} {s : State} {m : MethodId} {below : List Frame} {meth : Method} {c : Code} {δ : va_G} {cI cJ cZ : ClassId} {b L : Nat} {xs : Nat → Int32} (hL : L ≤ 384) (C0 : lw_At p s m meth c b L xs) (hK : va_K δ vwCl (mTy cI cJ cZ) s) (hNW : mNW s) {aG0 aK0 aK1 aK2 aK3 aK4 aK5 aE0 aE1 aE2 aE3 aE4 aE5 aF0 aF1 aF2 aF3 aF4 aF5 aP0 aP1 aD0 aD1 aD2 aD3 aD4 aT0 aT1 aT2 aT3 aT4 aT5 aM0 aM1 aM2 aC0 aC1 aR0 aR1 aR2 aR3 aR4 aR5 aR6 aR7 aR8 aR9 aR10 aR11 aR12 aR13 aR14 aR15 aR16 aR17 aR18 aR19 aR20 aR21 : Nat} {i : Nat} (hi6 : i + 6 ≤ L) (ih : LInv p l e s m below meth c δ cI cJ cZ b aG0 aK0 aK1 aK2 aK3 aK4 aK5 aE0 aE1 aE2 aE3 aE4 aE5 aF0 aF1 aF2 aF3 aF4 aF5 aP0 aP1 aD0 aD1 aD2 aD3 aD4 aT0 aT1 aT2 aT3 aT4 aT5 aM0 aM1 aM2 aC0 aC1 aR0 aR1 aR2 aR3 aR4 aR5 aR6 aR7 aR8 aR9 aR10 aR11 aR12 aR13 aR14 aR15 aR16 aR17 aR18 aR19 aR20 aR21 (i + 6)) {gg : GS} {k : KS} {kE : KS} {kF : KS} {pp : PS} {dy : DS} {kT : KS} {mm : MS} {ch : CS} {lv : LV} {sg : SG} {pd : PD} {ac : AC} {dd : DD} {hd : HD} {le : LE} {bd : BD} {my : MY} {lf : LF} {pa : PA} {kp : KP} {H : Heap} {locs : List Loc} (hrel : REL gg k kE kF pp lv sg pd kp) (hP : va_P δ vwCl ((wG  aG0 aK0 aE0 aF0 aP0 aD0 aM0 aC0 gg) ++ (wK cI aK0 aK1 aK2 aK3 aK4 aK5 k) ++ (wK cI aE0 aE1 aE2 aE3 aE4 aE5 kE) ++ (wK cI aF0 aF1 aF2 aF3 aF4 aF5 kF) ++ (wP cI aP0 aP1 pp) ++ (wD cI aD0 aD1 aD2 aD3 aD4 aT0 dy) ++ (wK cI aT0 aT1 aT2 aT3 aT4 aT5 kT) ++ (wM cI aM0 aM1 aM2 mm) ++ (wC cJ aC0 aC1 ch) ++ (wR cI cJ cZ aR0 aR1 aR2 aR3 aR4 aR5 aR6 aR7 aR8 aR9 aR10 aR11 aR12 aR13 aR14 aR15 aR16 aR17 aR18 aR19 aR20 aR21 lv sg pd ac dd hd le bd my lf pa kp)) H) (hD : va_D (fun q : Nat => s.heap.size ≤ q) ((wG  aG0 aK0 aE0 aF0 aP0 aD0 aM0 aC0 gg) ++ (wK cI aK0 aK1 aK2 aK3 aK4 aK5 k) ++ (wK cI aE0 aE1 aE2 aE3 aE4 aE5 kE) ++ (wK cI aF0 aF1 aF2 aF3 aF4 aF5 kF) ++ (wP cI aP0 aP1 pp) ++ (wD cI aD0 aD1 aD2 aD3 aD4 aT0 dy) ++ (wK cI aT0 aT1 aT2 aT3 aT4 aT5 kT) ++ (wM cI aM0 aM1 aM2 mm) ++ (wC cJ aC0 aC1 ch) ++ (wR cI cJ cZ aR0 aR1 aR2 aR3 aR4 aR5 aR6 aR7 aR8 aR9 aR10 aR11 aR12 aR13 aR14 aR15 aR16 aR17 aR18 aR19 aR20 aR21 lv sg pd ac dd hd le bd my lf pa kp))) (hS : va_S (fun q : Nat => s.heap.size ≤ q) s.heap H locs) {ls : Array Slot} (hl : lv_has ls 4 [(0, .ref b), (1, .ref aG0), (2, .ref aR0), (3, .int (nI i))]) : W p l e room_1 s m #[Value.ref b] below meth c H locs 59 2755 (lw_Z below #[Value.ref b] s) (F0 m 615 ls []) := by
  obtain ⟨hx, hb, hr0, hml, hown, hts, hX, hbl, hlocks, hgv⟩ := C0
  have htsL : ∀ w ∈ wsL_law, w.before #[Value.ref b] s = true := fun w h => hts w (wsL_law_in w h)
  have hA : ∀ q : Nat, s.heap.size ≤ q → (fun q : Nat => s.heap.size ≤ q) q := fun _ h => h
  have hbA : ¬ (fun q : Nat => s.heap.size ≤ q) b := Nat.not_le.mpr hbl
  refine lv_aload_n hx hb dL_law_615 rfl (lv_at hl 1 rfl) ?_
  refine lv_aload_n hx hb dL_law_616 rfl (lv_at hl 0 rfl) ?_
  refine lv_iload_n hx hb dL_law_617 rfl (lv_at hl 3 rfl) ?_
  refine lv_iconst (v := (1 : Int32)) hx hb dL_law_618 (by decide) ?_
  refine lv_iadd hx hb dL_law_619 ?_
  refine lv_topi (fun y_619 e_619 => ?_)
  obtain rfl : y_619 = (nI (i + 1)) := e_619.trans (nI_add i 1)
  refine va_sld hx hb hX hbl hbA hS (vp_in_nI (by omega) (by omega)) dL_law_620 ?_
  refine lv_aload_n hx hb dL_law_621 rfl (lv_at hl 0 rfl) ?_
  refine lv_iload_n hx hb dL_law_622 rfl (lv_at hl 3 rfl) ?_
  refine lv_iconst (v := (2 : Int32)) hx hb dL_law_623 (by decide) ?_
  refine lv_iadd hx hb dL_law_624 ?_
  refine lv_topi (fun y_624 e_624 => ?_)
  obtain rfl : y_624 = (nI (i + 2)) := e_624.trans (nI_add i 2)
  refine va_sld hx hb hX hbl hbA hS (vp_in_nI (by omega) (by omega)) dL_law_625 ?_
  refine lv_aload_n hx hb dL_law_626 rfl (lv_at hl 0 rfl) ?_
  refine lv_iload_n hx hb dL_law_627 rfl (lv_at hl 3 rfl) ?_
  refine lv_iconst (v := (3 : Int32)) hx hb dL_law_628 (by decide) ?_
  refine lv_iadd hx hb dL_law_629 ?_
  refine lv_topi (fun y_629 e_629 => ?_)
  obtain rfl : y_629 = (nI (i + 3)) := e_629.trans (nI_add i 3)
  refine va_sld hx hb hX hbl hbA hS (vp_in_nI (by omega) (by omega)) dL_law_630 ?_
  refine lv_aload_n hx hb dL_law_631 rfl (lv_at hl 0 rfl) ?_
  refine lv_iload_n hx hb dL_law_632 rfl (lv_at hl 3 rfl) ?_
  refine lv_iconst (v := (4 : Int32)) hx hb dL_law_633 (by decide) ?_
  refine lv_iadd hx hb dL_law_634 ?_
  refine lv_topi (fun y_634 e_634 => ?_)
  obtain rfl : y_634 = (nI (i + 4)) := e_634.trans (nI_add i 4)
  refine va_sld hx hb hX hbl hbA hS (vp_in_nI (by omega) (by omega)) dL_law_635 ?_
  have hr := mrVx (p := p) (e := e) (R := room_1) (below := below) (meth := meth) (H := H) (locs := locs) (ls := ls) (cells := 59) (slots := 2755) (As := [.int (xs (nI (i + 1)).toNatClampNeg), .int (xs (nI (i + 2)).toNatClampNeg), .int (xs (nI (i + 3)).toNatClampNeg), .int (xs (nI (i + 4)).toNatClampNeg)]) (rest := []) (c_X5_strikes l δ cI cJ cZ aG0 aK0 aE0 aF0 aP0 aD0 aM0 aC0 gg (xs (nI (i + 1)).toNatClampNeg) (xs (nI (i + 2)).toNatClampNeg) (xs (nI (i + 3)).toNatClampNeg) (xs (nI (i + 4)).toNatClampNeg)) hx hb hml htsL hown hK hNW hP hD (pm_G _ _ _ _ _ _ _ _ _ _) 5 0 rfl rfl (cwV 4 htsL gL_law_X5_strikes rfl rfl rfl (by decide +kernel) ⟨(Nat.le_of_ble_eq_true rfl), (Nat.le_of_ble_eq_true rfl)⟩) rfl hl.1 rfl (Nat.le_of_ble_eq_true rfl) dL_law_636 ⟨(Nat.le_of_ble_eq_true rfl), (Nat.le_of_ble_eq_true rfl)⟩
  refine mcx_i (wr := ((wK cI aK0 aK1 aK2 aK3 aK4 aK5 k) ++ (wK cI aE0 aE1 aE2 aE3 aE4 aE5 kE) ++ (wK cI aF0 aF1 aF2 aF3 aF4 aF5 kF) ++ (wP cI aP0 aP1 pp) ++ (wD cI aD0 aD1 aD2 aD3 aD4 aT0 dy) ++ (wK cI aT0 aT1 aT2 aT3 aT4 aT5 kT) ++ (wM cI aM0 aM1 aM2 mm) ++ (wC cJ aC0 aC1 ch) ++ (wR cI cJ cZ aR0 aR1 aR2 aR3 aR4 aR5 aR6 aR7 aR8 aR9 aR10 aR11 aR12 aR13 aR14 aR15 aR16 aR17 aR18 aR19 aR20 aR21 lv sg pd ac dd hd le bd my lf pa kp))) hr hP hD hS hA (pm_G _ _ _ _ _ _ _ _ _ _) (wn := fun _ => ((wG  aG0 aK0 aE0 aF0 aP0 aD0 aM0 aC0 gg) ++ (wK cI aK0 aK1 aK2 aK3 aK4 aK5 k) ++ (wK cI aE0 aE1 aE2 aE3 aE4 aE5 kE) ++ (wK cI aF0 aF1 aF2 aF3 aF4 aF5 kF) ++ (wP cI aP0 aP1 pp) ++ (wD cI aD0 aD1 aD2 aD3 aD4 aT0 dy) ++ (wK cI aT0 aT1 aT2 aT3 aT4 aT5 kT) ++ (wM cI aM0 aM1 aM2 mm) ++ (wC cJ aC0 aC1 ch) ++ (wR cI cJ cZ aR0 aR1 aR2 aR3 aR4 aR5 aR6 aR7 aR8 aR9 aR10 aR11 aR12 aR13 aR14 aR15 aR16 aR17 aR18 aR19 aR20 aR21 lv sg pd ac dd hd le bd my lf pa kp))) (fun _ => (pm_G _ _ _ _ _ _ _ _ _ _)) (fun r_636 _ H locs hw_636 hP hD hS => ?_)
  have hP : va_P δ vwCl ((wG  aG0 aK0 aE0 aF0 aP0 aD0 aM0 aC0 gg) ++ (wK cI aK0 aK1 aK2 aK3 aK4 aK5 k) ++ (wK cI aE0 aE1 aE2 aE3 aE4 aE5 kE) ++ (wK cI aF0 aF1 aF2 aF3 aF4 aF5 kF) ++ (wP cI aP0 aP1 pp) ++ (wD cI aD0 aD1 aD2 aD3 aD4 aT0 dy) ++ (wK cI aT0 aT1 aT2 aT3 aT4 aT5 kT) ++ (wM cI aM0 aM1 aM2 mm) ++ (wC cJ aC0 aC1 ch) ++ (wR cI cJ cZ aR0 aR1 aR2 aR3 aR4 aR5 aR6 aR7 aR8 aR9 aR10 aR11 aR12 aR13 aR14 aR15 aR16 aR17 aR18 aR19 aR20 aR21 lv sg pd ac dd hd le bd my lf pa kp)) H := hP
  have hD : va_D (fun q : Nat => s.heap.size ≤ q) ((wG  aG0 aK0 aE0 aF0 aP0 aD0 aM0 aC0 gg) ++ (wK cI aK0 aK1 aK2 aK3 aK4 aK5 k) ++ (wK cI aE0 aE1 aE2 aE3 aE4 aE5 kE) ++ (wK cI aF0 aF1 aF2 aF3 aF4 aF5 kF) ++ (wP cI aP0 aP1 pp) ++ (wD cI aD0 aD1 aD2 aD3 aD4 aT0 dy) ++ (wK cI aT0 aT1 aT2 aT3 aT4 aT5 kT) ++ (wM cI aM0 aM1 aM2 mm) ++ (wC cJ aC0 aC1 ch) ++ (wR cI cJ cZ aR0 aR1 aR2 aR3 aR4 aR5 aR6 aR7 aR8 aR9 aR10 aR11 aR12 aR13 aR14 aR15 aR16 aR17 aR18 aR19 aR20 aR21 lv sg pd ac dd hd le bd my lf pa kp)) := hD
  refine lv_aload_n hx hb dL_law_639 rfl (lv_at hl 2 rfl) ?_
  refine lv_aload_n hx hb dL_law_640 rfl (lv_at hl 0 rfl) ?_
  refine lv_iload_n hx hb dL_law_641 rfl (lv_at hl 3 rfl) ?_
  refine lv_iconst (v := (1 : Int32)) hx hb dL_law_642 (by decide) ?_
  refine lv_iadd hx hb dL_law_643 ?_
  refine lv_topi (fun y_643 e_643 => ?_)
  obtain rfl : y_643 = (nI (i + 1)) := e_643.trans (nI_add i 1)
  refine va_sld hx hb hX hbl hbA hS (vp_in_nI (by omega) (by omega)) dL_law_644 ?_
  refine lv_aload_n hx hb dL_law_645 rfl (lv_at hl 0 rfl) ?_
  refine lv_iload_n hx hb dL_law_646 rfl (lv_at hl 3 rfl) ?_
  refine lv_iconst (v := (2 : Int32)) hx hb dL_law_647 (by decide) ?_
  refine lv_iadd hx hb dL_law_648 ?_
  refine lv_topi (fun y_648 e_648 => ?_)
  obtain rfl : y_648 = (nI (i + 2)) := e_648.trans (nI_add i 2)
  refine va_sld hx hb hX hbl hbA hS (vp_in_nI (by omega) (by omega)) dL_law_649 ?_
  refine lv_aload_n hx hb dL_law_650 rfl (lv_at hl 0 rfl) ?_
  refine lv_iload_n hx hb dL_law_651 rfl (lv_at hl 3 rfl) ?_
  refine lv_iconst (v := (3 : Int32)) hx hb dL_law_652 (by decide) ?_
  refine lv_iadd hx hb dL_law_653 ?_
  refine lv_topi (fun y_653 e_653 => ?_)
  obtain rfl : y_653 = (nI (i + 3)) := e_653.trans (nI_add i 3)
  refine va_sld hx hb hX hbl hbA hS (vp_in_nI (by omega) (by omega)) dL_law_654 ?_
  refine lv_aload_n hx hb dL_law_655 rfl (lv_at hl 0 rfl) ?_
  refine lv_iload_n hx hb dL_law_656 rfl (lv_at hl 3 rfl) ?_
  refine lv_iconst (v := (4 : Int32)) hx hb dL_law_657 (by decide) ?_
  refine lv_iadd hx hb dL_law_658 ?_
  refine lv_topi (fun y_658 e_658 => ?_)
  obtain rfl : y_658 = (nI (i + 4)) := e_658.trans (nI_add i 4)
  refine va_sld hx hb hX hbl hbA hS (vp_in_nI (by omega) (by omega)) dL_law_659 ?_
  have hr := mrVx (p := p) (e := e) (R := room_1) (below := below) (meth := meth) (H := H) (locs := locs) (ls := ls) (cells := 59) (slots := 2755) (As := [.int (xs (nI (i + 1)).toNatClampNeg), .int (xs (nI (i + 2)).toNatClampNeg), .int (xs (nI (i + 3)).toNatClampNeg), .int (xs (nI (i + 4)).toNatClampNeg)]) (rest := [.int r_636]) (c_X6_strikes l δ cI cJ cZ aR0 aR1 aR2 aR3 aR4 aR5 aR6 aR7 aR8 aR9 aR10 aR11 aR12 aR13 aR14 aR15 aR16 aR17 aR18 aR19 aR20 aR21 lv sg pd ac dd hd le bd my lf pa kp (xs (nI (i + 1)).toNatClampNeg) (xs (nI (i + 2)).toNatClampNeg) (xs (nI (i + 3)).toNatClampNeg) (xs (nI (i + 4)).toNatClampNeg)) hx hb hml htsL hown hK hNW hP hD (pm_R _ _ _ _ _ _ _ _ _ _) 6 0 rfl rfl (cwV 4 htsL gL_law_X6_strikes rfl rfl rfl (by decide +kernel) ⟨(Nat.le_of_ble_eq_true rfl), (Nat.le_of_ble_eq_true rfl)⟩) rfl hl.1 rfl (Nat.le_of_ble_eq_true rfl) dL_law_660 ⟨(Nat.le_of_ble_eq_true rfl), (Nat.le_of_ble_eq_true rfl)⟩
  refine mcx_i (wr := ((wG  aG0 aK0 aE0 aF0 aP0 aD0 aM0 aC0 gg) ++ (wK cI aK0 aK1 aK2 aK3 aK4 aK5 k) ++ (wK cI aE0 aE1 aE2 aE3 aE4 aE5 kE) ++ (wK cI aF0 aF1 aF2 aF3 aF4 aF5 kF) ++ (wP cI aP0 aP1 pp) ++ (wD cI aD0 aD1 aD2 aD3 aD4 aT0 dy) ++ (wK cI aT0 aT1 aT2 aT3 aT4 aT5 kT) ++ (wM cI aM0 aM1 aM2 mm) ++ (wC cJ aC0 aC1 ch))) hr hP hD hS hA (pm_R _ _ _ _ _ _ _ _ _ _) (wn := fun _ => ((wG  aG0 aK0 aE0 aF0 aP0 aD0 aM0 aC0 gg) ++ (wK cI aK0 aK1 aK2 aK3 aK4 aK5 k) ++ (wK cI aE0 aE1 aE2 aE3 aE4 aE5 kE) ++ (wK cI aF0 aF1 aF2 aF3 aF4 aF5 kF) ++ (wP cI aP0 aP1 pp) ++ (wD cI aD0 aD1 aD2 aD3 aD4 aT0 dy) ++ (wK cI aT0 aT1 aT2 aT3 aT4 aT5 kT) ++ (wM cI aM0 aM1 aM2 mm) ++ (wC cJ aC0 aC1 ch) ++ (wR cI cJ cZ aR0 aR1 aR2 aR3 aR4 aR5 aR6 aR7 aR8 aR9 aR10 aR11 aR12 aR13 aR14 aR15 aR16 aR17 aR18 aR19 aR20 aR21 lv sg pd ac dd hd le bd my lf pa kp))) (fun _ => (pm_R _ _ _ _ _ _ _ _ _ _)) (fun r_660 _ H locs hw_660 hP hD hS => ?_)
  have hP : va_P δ vwCl ((wG  aG0 aK0 aE0 aF0 aP0 aD0 aM0 aC0 gg) ++ (wK cI aK0 aK1 aK2 aK3 aK4 aK5 k) ++ (wK cI aE0 aE1 aE2 aE3 aE4 aE5 kE) ++ (wK cI aF0 aF1 aF2 aF3 aF4 aF5 kF) ++ (wP cI aP0 aP1 pp) ++ (wD cI aD0 aD1 aD2 aD3 aD4 aT0 dy) ++ (wK cI aT0 aT1 aT2 aT3 aT4 aT5 kT) ++ (wM cI aM0 aM1 aM2 mm) ++ (wC cJ aC0 aC1 ch) ++ (wR cI cJ cZ aR0 aR1 aR2 aR3 aR4 aR5 aR6 aR7 aR8 aR9 aR10 aR11 aR12 aR13 aR14 aR15 aR16 aR17 aR18 aR19 aR20 aR21 lv sg pd ac dd hd le bd my lf pa kp)) H := hP
  have hD : va_D (fun q : Nat => s.heap.size ≤ q) ((wG  aG0 aK0 aE0 aF0 aP0 aD0 aM0 aC0 gg) ++ (wK cI aK0 aK1 aK2 aK3 aK4 aK5 k) ++ (wK cI aE0 aE1 aE2 aE3 aE4 aE5 kE) ++ (wK cI aF0 aF1 aF2 aF3 aF4 aF5 kF) ++ (wP cI aP0 aP1 pp) ++ (wD cI aD0 aD1 aD2 aD3 aD4 aT0 dy) ++ (wK cI aT0 aT1 aT2 aT3 aT4 aT5 kT) ++ (wM cI aM0 aM1 aM2 mm) ++ (wC cJ aC0 aC1 ch) ++ (wR cI cJ cZ aR0 aR1 aR2 aR3 aR4 aR5 aR6 aR7 aR8 aR9 aR10 aR11 aR12 aR13 aR14 aR15 aR16 aR17 aR18 aR19 aR20 aR21 lv sg pd ac dd hd le bd my lf pa kp)) := hD
  refine lv_icmp_eq (tgt := 1038) hx hb dL_law_663 (by decide) (fun c_663 => ?_) (fun c_663 => ?_)
  · skip
    have hap := api_strikes hrel hw_636 hw_660
    have hrel := hap.2
    refine lv_iinc (v := nI (i + 6)) (lv' := [(3, .int (nI (i + 6))), (0, .ref b), (1, .ref aG0), (2, .ref aR0)]) hx hb dL_law_1038 hl (k := 3) rfl (nI_add i 6) (by decide) rfl (fun ls hl => ?_)
    refine lv_goto (tgt := 18) hx hb dL_law_1041 (by decide) ?_
    exact ih gg k kE kF pp dy kT mm ch lv sg pd ac dd hd le bd my lf pa kp _ _ hrel hP hD hS ls (lv_sub hl [1, 2, 3, 0] rfl)
  · skip
    have hap := api_strikes hrel hw_636 hw_660
    exact absurd hap.1 c_663
set_option maxHeartbeats 40000000 in
set_option maxRecDepth 100000 in
theorem law_c18 {p : Program} {l : Launch} {e : Env} {s : State} {m : MethodId} {below : List Frame} {meth : Method} {c : Code} {δ : va_G} {cI cJ cZ : ClassId} {b L : Nat} {xs : Nat → Int32} (hL : L ≤ 384) (C0 : lw_At p s m meth c b L xs) (hK : va_K δ vwCl (mTy cI cJ cZ) s) (hNW : mNW s) {aG0 aK0 aK1 aK2 aK3 aK4 aK5 aE0 aE1 aE2 aE3 aE4 aE5 aF0 aF1 aF2 aF3 aF4 aF5 aP0 aP1 aD0 aD1 aD2 aD3 aD4 aT0 aT1 aT2 aT3 aT4 aT5 aM0 aM1 aM2 aC0 aC1 aR0 aR1 aR2 aR3 aR4 aR5 aR6 aR7 aR8 aR9 aR10 aR11 aR12 aR13 aR14 aR15 aR16 aR17 aR18 aR19 aR20 aR21 : Nat} {i : Nat} (hi6 : i + 6 ≤ L) (ih : LInv p l e s m below meth c δ cI cJ cZ b aG0 aK0 aK1 aK2 aK3 aK4 aK5 aE0 aE1 aE2 aE3 aE4 aE5 aF0 aF1 aF2 aF3 aF4 aF5 aP0 aP1 aD0 aD1 aD2 aD3 aD4 aT0 aT1 aT2 aT3 aT4 aT5 aM0 aM1 aM2 aC0 aC1 aR0 aR1 aR2 aR3 aR4 aR5 aR6 aR7 aR8 aR9 aR10 aR11 aR12 aR13 aR14 aR15 aR16 aR17 aR18 aR19 aR20 aR21 (i + 6)) {gg : GS} {k : KS} {kE : KS} {kF : KS} {pp : PS} {dy : DS} {kT : KS} {mm : MS} {ch : CS} {lv : LV} {sg : SG} {pd : PD} {ac : AC} {dd : DD} {hd : HD} {le : LE} {bd : BD} {my : MY} {lf : LF} {pa : PA} {kp : KP} {H : Heap} {locs : List Loc} (hrel : REL gg k kE kF pp lv sg pd kp) (hP : va_P δ vwCl ((wG  aG0 aK0 aE0 aF0 aP0 aD0 aM0 aC0 gg) ++ (wK cI aK0 aK1 aK2 aK3 aK4 aK5 k) ++ (wK cI aE0 aE1 aE2 aE3 aE4 aE5 kE) ++ (wK cI aF0 aF1 aF2 aF3 aF4 aF5 kF) ++ (wP cI aP0 aP1 pp) ++ (wD cI aD0 aD1 aD2 aD3 aD4 aT0 dy) ++ (wK cI aT0 aT1 aT2 aT3 aT4 aT5 kT) ++ (wM cI aM0 aM1 aM2 mm) ++ (wC cJ aC0 aC1 ch) ++ (wR cI cJ cZ aR0 aR1 aR2 aR3 aR4 aR5 aR6 aR7 aR8 aR9 aR10 aR11 aR12 aR13 aR14 aR15 aR16 aR17 aR18 aR19 aR20 aR21 lv sg pd ac dd hd le bd my lf pa kp)) H) (hD : va_D (fun q : Nat => s.heap.size ≤ q) ((wG  aG0 aK0 aE0 aF0 aP0 aD0 aM0 aC0 gg) ++ (wK cI aK0 aK1 aK2 aK3 aK4 aK5 k) ++ (wK cI aE0 aE1 aE2 aE3 aE4 aE5 kE) ++ (wK cI aF0 aF1 aF2 aF3 aF4 aF5 kF) ++ (wP cI aP0 aP1 pp) ++ (wD cI aD0 aD1 aD2 aD3 aD4 aT0 dy) ++ (wK cI aT0 aT1 aT2 aT3 aT4 aT5 kT) ++ (wM cI aM0 aM1 aM2 mm) ++ (wC cJ aC0 aC1 ch) ++ (wR cI cJ cZ aR0 aR1 aR2 aR3 aR4 aR5 aR6 aR7 aR8 aR9 aR10 aR11 aR12 aR13 aR14 aR15 aR16 aR17 aR18 aR19 aR20 aR21 lv sg pd ac dd hd le bd my lf pa kp))) (hS : va_S (fun q : Nat => s.heap.size ≤ q) s.heap H locs) {ls : Array Slot} (hl : lv_has ls 4 [(0, .ref b), (1, .ref aG0), (2, .ref aR0), (3, .int (nI i))]) : W p l e room_1 s m #[Value.ref b] below meth c H locs 59 2755 (lw_Z below #[Value.ref b] s) (F0 m 668 ls []) := by
  obtain ⟨hx, hb, hr0, hml, hown, hts, hX, hbl, hlocks, hgv⟩ := C0
  have htsL : ∀ w ∈ wsL_law, w.before #[Value.ref b] s = true := fun w h => hts w (wsL_law_in w h)
  have hA : ∀ q : Nat, s.heap.size ≤ q → (fun q : Nat => s.heap.size ≤ q) q := fun _ h => h
  have hbA : ¬ (fun q : Nat => s.heap.size ≤ q) b := Nat.not_le.mpr hbl
  refine lv_aload_n hx hb dL_law_668 rfl (lv_at hl 1 rfl) ?_
  refine lv_aload_n hx hb dL_law_669 rfl (lv_at hl 0 rfl) ?_
  refine lv_iload_n hx hb dL_law_670 rfl (lv_at hl 3 rfl) ?_
  refine lv_iconst (v := (1 : Int32)) hx hb dL_law_671 (by decide) ?_
  refine lv_iadd hx hb dL_law_672 ?_
  refine lv_topi (fun y_672 e_672 => ?_)
  obtain rfl : y_672 = (nI (i + 1)) := e_672.trans (nI_add i 1)
  refine va_sld hx hb hX hbl hbA hS (vp_in_nI (by omega) (by omega)) dL_law_673 ?_
  refine lv_aload_n hx hb dL_law_674 rfl (lv_at hl 0 rfl) ?_
  refine lv_iload_n hx hb dL_law_675 rfl (lv_at hl 3 rfl) ?_
  refine lv_iconst (v := (2 : Int32)) hx hb dL_law_676 (by decide) ?_
  refine lv_iadd hx hb dL_law_677 ?_
  refine lv_topi (fun y_677 e_677 => ?_)
  obtain rfl : y_677 = (nI (i + 2)) := e_677.trans (nI_add i 2)
  refine va_sld hx hb hX hbl hbA hS (vp_in_nI (by omega) (by omega)) dL_law_678 ?_
  refine lv_aload_n hx hb dL_law_679 rfl (lv_at hl 0 rfl) ?_
  refine lv_iload_n hx hb dL_law_680 rfl (lv_at hl 3 rfl) ?_
  refine lv_iconst (v := (3 : Int32)) hx hb dL_law_681 (by decide) ?_
  refine lv_iadd hx hb dL_law_682 ?_
  refine lv_topi (fun y_682 e_682 => ?_)
  obtain rfl : y_682 = (nI (i + 3)) := e_682.trans (nI_add i 3)
  refine va_sld hx hb hX hbl hbA hS (vp_in_nI (by omega) (by omega)) dL_law_683 ?_
  refine lv_aload_n hx hb dL_law_684 rfl (lv_at hl 0 rfl) ?_
  refine lv_iload_n hx hb dL_law_685 rfl (lv_at hl 3 rfl) ?_
  refine lv_iconst (v := (4 : Int32)) hx hb dL_law_686 (by decide) ?_
  refine lv_iadd hx hb dL_law_687 ?_
  refine lv_topi (fun y_687 e_687 => ?_)
  obtain rfl : y_687 = (nI (i + 4)) := e_687.trans (nI_add i 4)
  refine va_sld hx hb hX hbl hbA hS (vp_in_nI (by omega) (by omega)) dL_law_688 ?_
  refine lv_aload_n hx hb dL_law_689 rfl (lv_at hl 0 rfl) ?_
  refine lv_iload_n hx hb dL_law_690 rfl (lv_at hl 3 rfl) ?_
  refine lv_iconst (v := (5 : Int32)) hx hb dL_law_691 (by decide) ?_
  refine lv_iadd hx hb dL_law_692 ?_
  refine lv_topi (fun y_692 e_692 => ?_)
  obtain rfl : y_692 = (nI (i + 5)) := e_692.trans (nI_add i 5)
  refine va_sld hx hb hX hbl hbA hS (vp_in_nI (by omega) (by omega)) dL_law_693 ?_
  have hr := mrVx (p := p) (e := e) (R := room_1) (below := below) (meth := meth) (H := H) (locs := locs) (ls := ls) (cells := 59) (slots := 2755) (As := [.int (xs (nI (i + 1)).toNatClampNeg), .int (xs (nI (i + 2)).toNatClampNeg), .int (xs (nI (i + 3)).toNatClampNeg), .int (xs (nI (i + 4)).toNatClampNeg), .int (xs (nI (i + 5)).toNatClampNeg)]) (rest := []) (c_X5_often l δ cI cJ cZ aG0 aK0 aE0 aF0 aP0 aD0 aM0 aC0 gg (xs (nI (i + 1)).toNatClampNeg) (xs (nI (i + 2)).toNatClampNeg) (xs (nI (i + 3)).toNatClampNeg) (xs (nI (i + 4)).toNatClampNeg) (xs (nI (i + 5)).toNatClampNeg)) hx hb hml htsL hown hK hNW hP hD (pm_G _ _ _ _ _ _ _ _ _ _) 5 0 rfl rfl (cwV 5 htsL gL_law_X5_often rfl rfl rfl (by decide +kernel) ⟨(Nat.le_of_ble_eq_true rfl), (Nat.le_of_ble_eq_true rfl)⟩) rfl hl.1 rfl (Nat.le_of_ble_eq_true rfl) dL_law_694 ⟨(Nat.le_of_ble_eq_true rfl), (Nat.le_of_ble_eq_true rfl)⟩
  refine mcx_i (wr := ((wK cI aK0 aK1 aK2 aK3 aK4 aK5 k) ++ (wK cI aE0 aE1 aE2 aE3 aE4 aE5 kE) ++ (wK cI aF0 aF1 aF2 aF3 aF4 aF5 kF) ++ (wP cI aP0 aP1 pp) ++ (wD cI aD0 aD1 aD2 aD3 aD4 aT0 dy) ++ (wK cI aT0 aT1 aT2 aT3 aT4 aT5 kT) ++ (wM cI aM0 aM1 aM2 mm) ++ (wC cJ aC0 aC1 ch) ++ (wR cI cJ cZ aR0 aR1 aR2 aR3 aR4 aR5 aR6 aR7 aR8 aR9 aR10 aR11 aR12 aR13 aR14 aR15 aR16 aR17 aR18 aR19 aR20 aR21 lv sg pd ac dd hd le bd my lf pa kp))) hr hP hD hS hA (pm_G _ _ _ _ _ _ _ _ _ _) (wn := fun _ => ((wG  aG0 aK0 aE0 aF0 aP0 aD0 aM0 aC0 gg) ++ (wK cI aK0 aK1 aK2 aK3 aK4 aK5 k) ++ (wK cI aE0 aE1 aE2 aE3 aE4 aE5 kE) ++ (wK cI aF0 aF1 aF2 aF3 aF4 aF5 kF) ++ (wP cI aP0 aP1 pp) ++ (wD cI aD0 aD1 aD2 aD3 aD4 aT0 dy) ++ (wK cI aT0 aT1 aT2 aT3 aT4 aT5 kT) ++ (wM cI aM0 aM1 aM2 mm) ++ (wC cJ aC0 aC1 ch) ++ (wR cI cJ cZ aR0 aR1 aR2 aR3 aR4 aR5 aR6 aR7 aR8 aR9 aR10 aR11 aR12 aR13 aR14 aR15 aR16 aR17 aR18 aR19 aR20 aR21 lv sg pd ac dd hd le bd my lf pa kp))) (fun _ => (pm_G _ _ _ _ _ _ _ _ _ _)) (fun r_694 _ H locs hw_694 hP hD hS => ?_)
  have hP : va_P δ vwCl ((wG  aG0 aK0 aE0 aF0 aP0 aD0 aM0 aC0 gg) ++ (wK cI aK0 aK1 aK2 aK3 aK4 aK5 k) ++ (wK cI aE0 aE1 aE2 aE3 aE4 aE5 kE) ++ (wK cI aF0 aF1 aF2 aF3 aF4 aF5 kF) ++ (wP cI aP0 aP1 pp) ++ (wD cI aD0 aD1 aD2 aD3 aD4 aT0 dy) ++ (wK cI aT0 aT1 aT2 aT3 aT4 aT5 kT) ++ (wM cI aM0 aM1 aM2 mm) ++ (wC cJ aC0 aC1 ch) ++ (wR cI cJ cZ aR0 aR1 aR2 aR3 aR4 aR5 aR6 aR7 aR8 aR9 aR10 aR11 aR12 aR13 aR14 aR15 aR16 aR17 aR18 aR19 aR20 aR21 lv sg pd ac dd hd le bd my lf pa kp)) H := hP
  have hD : va_D (fun q : Nat => s.heap.size ≤ q) ((wG  aG0 aK0 aE0 aF0 aP0 aD0 aM0 aC0 gg) ++ (wK cI aK0 aK1 aK2 aK3 aK4 aK5 k) ++ (wK cI aE0 aE1 aE2 aE3 aE4 aE5 kE) ++ (wK cI aF0 aF1 aF2 aF3 aF4 aF5 kF) ++ (wP cI aP0 aP1 pp) ++ (wD cI aD0 aD1 aD2 aD3 aD4 aT0 dy) ++ (wK cI aT0 aT1 aT2 aT3 aT4 aT5 kT) ++ (wM cI aM0 aM1 aM2 mm) ++ (wC cJ aC0 aC1 ch) ++ (wR cI cJ cZ aR0 aR1 aR2 aR3 aR4 aR5 aR6 aR7 aR8 aR9 aR10 aR11 aR12 aR13 aR14 aR15 aR16 aR17 aR18 aR19 aR20 aR21 lv sg pd ac dd hd le bd my lf pa kp)) := hD
  refine lv_aload_n hx hb dL_law_697 rfl (lv_at hl 2 rfl) ?_
  refine lv_aload_n hx hb dL_law_698 rfl (lv_at hl 0 rfl) ?_
  refine lv_iload_n hx hb dL_law_699 rfl (lv_at hl 3 rfl) ?_
  refine lv_iconst (v := (1 : Int32)) hx hb dL_law_700 (by decide) ?_
  refine lv_iadd hx hb dL_law_701 ?_
  refine lv_topi (fun y_701 e_701 => ?_)
  obtain rfl : y_701 = (nI (i + 1)) := e_701.trans (nI_add i 1)
  refine va_sld hx hb hX hbl hbA hS (vp_in_nI (by omega) (by omega)) dL_law_702 ?_
  refine lv_aload_n hx hb dL_law_703 rfl (lv_at hl 0 rfl) ?_
  refine lv_iload_n hx hb dL_law_704 rfl (lv_at hl 3 rfl) ?_
  refine lv_iconst (v := (2 : Int32)) hx hb dL_law_705 (by decide) ?_
  refine lv_iadd hx hb dL_law_706 ?_
  refine lv_topi (fun y_706 e_706 => ?_)
  obtain rfl : y_706 = (nI (i + 2)) := e_706.trans (nI_add i 2)
  refine va_sld hx hb hX hbl hbA hS (vp_in_nI (by omega) (by omega)) dL_law_707 ?_
  refine lv_aload_n hx hb dL_law_708 rfl (lv_at hl 0 rfl) ?_
  refine lv_iload_n hx hb dL_law_709 rfl (lv_at hl 3 rfl) ?_
  refine lv_iconst (v := (3 : Int32)) hx hb dL_law_710 (by decide) ?_
  refine lv_iadd hx hb dL_law_711 ?_
  refine lv_topi (fun y_711 e_711 => ?_)
  obtain rfl : y_711 = (nI (i + 3)) := e_711.trans (nI_add i 3)
  refine va_sld hx hb hX hbl hbA hS (vp_in_nI (by omega) (by omega)) dL_law_712 ?_
  refine lv_aload_n hx hb dL_law_713 rfl (lv_at hl 0 rfl) ?_
  refine lv_iload_n hx hb dL_law_714 rfl (lv_at hl 3 rfl) ?_
  refine lv_iconst (v := (4 : Int32)) hx hb dL_law_715 (by decide) ?_
  refine lv_iadd hx hb dL_law_716 ?_
  refine lv_topi (fun y_716 e_716 => ?_)
  obtain rfl : y_716 = (nI (i + 4)) := e_716.trans (nI_add i 4)
  refine va_sld hx hb hX hbl hbA hS (vp_in_nI (by omega) (by omega)) dL_law_717 ?_
  refine lv_aload_n hx hb dL_law_718 rfl (lv_at hl 0 rfl) ?_
  refine lv_iload_n hx hb dL_law_719 rfl (lv_at hl 3 rfl) ?_
  refine lv_iconst (v := (5 : Int32)) hx hb dL_law_720 (by decide) ?_
  refine lv_iadd hx hb dL_law_721 ?_
  refine lv_topi (fun y_721 e_721 => ?_)
  obtain rfl : y_721 = (nI (i + 5)) := e_721.trans (nI_add i 5)
  refine va_sld hx hb hX hbl hbA hS (vp_in_nI (by omega) (by omega)) dL_law_722 ?_
  have hr := mrVx (p := p) (e := e) (R := room_1) (below := below) (meth := meth) (H := H) (locs := locs) (ls := ls) (cells := 59) (slots := 2755) (As := [.int (xs (nI (i + 1)).toNatClampNeg), .int (xs (nI (i + 2)).toNatClampNeg), .int (xs (nI (i + 3)).toNatClampNeg), .int (xs (nI (i + 4)).toNatClampNeg), .int (xs (nI (i + 5)).toNatClampNeg)]) (rest := [.int r_694]) (c_X6_often l δ cI cJ cZ aR0 aR1 aR2 aR3 aR4 aR5 aR6 aR7 aR8 aR9 aR10 aR11 aR12 aR13 aR14 aR15 aR16 aR17 aR18 aR19 aR20 aR21 lv sg pd ac dd hd le bd my lf pa kp (xs (nI (i + 1)).toNatClampNeg) (xs (nI (i + 2)).toNatClampNeg) (xs (nI (i + 3)).toNatClampNeg) (xs (nI (i + 4)).toNatClampNeg) (xs (nI (i + 5)).toNatClampNeg)) hx hb hml htsL hown hK hNW hP hD (pm_R _ _ _ _ _ _ _ _ _ _) 6 0 rfl rfl (cwV 5 htsL gL_law_X6_often rfl rfl rfl (by decide +kernel) ⟨(Nat.le_of_ble_eq_true rfl), (Nat.le_of_ble_eq_true rfl)⟩) rfl hl.1 rfl (Nat.le_of_ble_eq_true rfl) dL_law_723 ⟨(Nat.le_of_ble_eq_true rfl), (Nat.le_of_ble_eq_true rfl)⟩
  refine mcx_i (wr := ((wG  aG0 aK0 aE0 aF0 aP0 aD0 aM0 aC0 gg) ++ (wK cI aK0 aK1 aK2 aK3 aK4 aK5 k) ++ (wK cI aE0 aE1 aE2 aE3 aE4 aE5 kE) ++ (wK cI aF0 aF1 aF2 aF3 aF4 aF5 kF) ++ (wP cI aP0 aP1 pp) ++ (wD cI aD0 aD1 aD2 aD3 aD4 aT0 dy) ++ (wK cI aT0 aT1 aT2 aT3 aT4 aT5 kT) ++ (wM cI aM0 aM1 aM2 mm) ++ (wC cJ aC0 aC1 ch))) hr hP hD hS hA (pm_R _ _ _ _ _ _ _ _ _ _) (wn := fun _ => ((wG  aG0 aK0 aE0 aF0 aP0 aD0 aM0 aC0 gg) ++ (wK cI aK0 aK1 aK2 aK3 aK4 aK5 k) ++ (wK cI aE0 aE1 aE2 aE3 aE4 aE5 kE) ++ (wK cI aF0 aF1 aF2 aF3 aF4 aF5 kF) ++ (wP cI aP0 aP1 pp) ++ (wD cI aD0 aD1 aD2 aD3 aD4 aT0 dy) ++ (wK cI aT0 aT1 aT2 aT3 aT4 aT5 kT) ++ (wM cI aM0 aM1 aM2 mm) ++ (wC cJ aC0 aC1 ch) ++ (wR cI cJ cZ aR0 aR1 aR2 aR3 aR4 aR5 aR6 aR7 aR8 aR9 aR10 aR11 aR12 aR13 aR14 aR15 aR16 aR17 aR18 aR19 aR20 aR21 lv sg pd ac dd hd le bd my lf pa kp))) (fun _ => (pm_R _ _ _ _ _ _ _ _ _ _)) (fun r_723 _ H locs hw_723 hP hD hS => ?_)
  have hP : va_P δ vwCl ((wG  aG0 aK0 aE0 aF0 aP0 aD0 aM0 aC0 gg) ++ (wK cI aK0 aK1 aK2 aK3 aK4 aK5 k) ++ (wK cI aE0 aE1 aE2 aE3 aE4 aE5 kE) ++ (wK cI aF0 aF1 aF2 aF3 aF4 aF5 kF) ++ (wP cI aP0 aP1 pp) ++ (wD cI aD0 aD1 aD2 aD3 aD4 aT0 dy) ++ (wK cI aT0 aT1 aT2 aT3 aT4 aT5 kT) ++ (wM cI aM0 aM1 aM2 mm) ++ (wC cJ aC0 aC1 ch) ++ (wR cI cJ cZ aR0 aR1 aR2 aR3 aR4 aR5 aR6 aR7 aR8 aR9 aR10 aR11 aR12 aR13 aR14 aR15 aR16 aR17 aR18 aR19 aR20 aR21 lv sg pd ac dd hd le bd my lf pa kp)) H := hP
  have hD : va_D (fun q : Nat => s.heap.size ≤ q) ((wG  aG0 aK0 aE0 aF0 aP0 aD0 aM0 aC0 gg) ++ (wK cI aK0 aK1 aK2 aK3 aK4 aK5 k) ++ (wK cI aE0 aE1 aE2 aE3 aE4 aE5 kE) ++ (wK cI aF0 aF1 aF2 aF3 aF4 aF5 kF) ++ (wP cI aP0 aP1 pp) ++ (wD cI aD0 aD1 aD2 aD3 aD4 aT0 dy) ++ (wK cI aT0 aT1 aT2 aT3 aT4 aT5 kT) ++ (wM cI aM0 aM1 aM2 mm) ++ (wC cJ aC0 aC1 ch) ++ (wR cI cJ cZ aR0 aR1 aR2 aR3 aR4 aR5 aR6 aR7 aR8 aR9 aR10 aR11 aR12 aR13 aR14 aR15 aR16 aR17 aR18 aR19 aR20 aR21 lv sg pd ac dd hd le bd my lf pa kp)) := hD
  refine lv_icmp_eq (tgt := 1038) hx hb dL_law_726 (by decide) (fun c_726 => ?_) (fun c_726 => ?_)
  · skip
    have hap := api_often hrel hw_694 hw_723
    have hrel := hap.2
    refine lv_iinc (v := nI (i + 6)) (lv' := [(3, .int (nI (i + 6))), (0, .ref b), (1, .ref aG0), (2, .ref aR0)]) hx hb dL_law_1038 hl (k := 3) rfl (nI_add i 6) (by decide) rfl (fun ls hl => ?_)
    refine lv_goto (tgt := 18) hx hb dL_law_1041 (by decide) ?_
    exact ih gg k kE kF pp dy kT mm ch lv sg pd ac dd hd le bd my lf pa kp _ _ hrel hP hD hS ls (lv_sub hl [1, 2, 3, 0] rfl)
  · skip
    have hap := api_often hrel hw_694 hw_723
    exact absurd hap.1 c_726
set_option maxHeartbeats 40000000 in
set_option maxRecDepth 100000 in
theorem law_c19 {p : Program} {l : Launch} {e : Env} {s : State} {m : MethodId} {below : List Frame} {meth : Method} {c : Code} {δ : va_G} {cI cJ cZ : ClassId} {b L : Nat} {xs : Nat → Int32} (hL : L ≤ 384) (C0 : lw_At p s m meth c b L xs) (hK : va_K δ vwCl (mTy cI cJ cZ) s) (hNW : mNW s) {aG0 aK0 aK1 aK2 aK3 aK4 aK5 aE0 aE1 aE2 aE3 aE4 aE5 aF0 aF1 aF2 aF3 aF4 aF5 aP0 aP1 aD0 aD1 aD2 aD3 aD4 aT0 aT1 aT2 aT3 aT4 aT5 aM0 aM1 aM2 aC0 aC1 aR0 aR1 aR2 aR3 aR4 aR5 aR6 aR7 aR8 aR9 aR10 aR11 aR12 aR13 aR14 aR15 aR16 aR17 aR18 aR19 aR20 aR21 : Nat} {i : Nat} (hi6 : i + 6 ≤ L) (ih : LInv p l e s m below meth c δ cI cJ cZ b aG0 aK0 aK1 aK2 aK3 aK4 aK5 aE0 aE1 aE2 aE3 aE4 aE5 aF0 aF1 aF2 aF3 aF4 aF5 aP0 aP1 aD0 aD1 aD2 aD3 aD4 aT0 aT1 aT2 aT3 aT4 aT5 aM0 aM1 aM2 aC0 aC1 aR0 aR1 aR2 aR3 aR4 aR5 aR6 aR7 aR8 aR9 aR10 aR11 aR12 aR13 aR14 aR15 aR16 aR17 aR18 aR19 aR20 aR21 (i + 6)) {gg : GS} {k : KS} {kE : KS} {kF : KS} {pp : PS} {dy : DS} {kT : KS} {mm : MS} {ch : CS} {lv : LV} {sg : SG} {pd : PD} {ac : AC} {dd : DD} {hd : HD} {le : LE} {bd : BD} {my : MY} {lf : LF} {pa : PA} {kp : KP} {H : Heap} {locs : List Loc} (hrel : REL gg k kE kF pp lv sg pd kp) (hP : va_P δ vwCl ((wG  aG0 aK0 aE0 aF0 aP0 aD0 aM0 aC0 gg) ++ (wK cI aK0 aK1 aK2 aK3 aK4 aK5 k) ++ (wK cI aE0 aE1 aE2 aE3 aE4 aE5 kE) ++ (wK cI aF0 aF1 aF2 aF3 aF4 aF5 kF) ++ (wP cI aP0 aP1 pp) ++ (wD cI aD0 aD1 aD2 aD3 aD4 aT0 dy) ++ (wK cI aT0 aT1 aT2 aT3 aT4 aT5 kT) ++ (wM cI aM0 aM1 aM2 mm) ++ (wC cJ aC0 aC1 ch) ++ (wR cI cJ cZ aR0 aR1 aR2 aR3 aR4 aR5 aR6 aR7 aR8 aR9 aR10 aR11 aR12 aR13 aR14 aR15 aR16 aR17 aR18 aR19 aR20 aR21 lv sg pd ac dd hd le bd my lf pa kp)) H) (hD : va_D (fun q : Nat => s.heap.size ≤ q) ((wG  aG0 aK0 aE0 aF0 aP0 aD0 aM0 aC0 gg) ++ (wK cI aK0 aK1 aK2 aK3 aK4 aK5 k) ++ (wK cI aE0 aE1 aE2 aE3 aE4 aE5 kE) ++ (wK cI aF0 aF1 aF2 aF3 aF4 aF5 kF) ++ (wP cI aP0 aP1 pp) ++ (wD cI aD0 aD1 aD2 aD3 aD4 aT0 dy) ++ (wK cI aT0 aT1 aT2 aT3 aT4 aT5 kT) ++ (wM cI aM0 aM1 aM2 mm) ++ (wC cJ aC0 aC1 ch) ++ (wR cI cJ cZ aR0 aR1 aR2 aR3 aR4 aR5 aR6 aR7 aR8 aR9 aR10 aR11 aR12 aR13 aR14 aR15 aR16 aR17 aR18 aR19 aR20 aR21 lv sg pd ac dd hd le bd my lf pa kp))) (hS : va_S (fun q : Nat => s.heap.size ≤ q) s.heap H locs) {ls : Array Slot} (hl : lv_has ls 4 [(0, .ref b), (1, .ref aG0), (2, .ref aR0), (3, .int (nI i))]) : W p l e room_1 s m #[Value.ref b] below meth c H locs 59 2755 (lw_Z below #[Value.ref b] s) (F0 m 731 ls []) := by
  obtain ⟨hx, hb, hr0, hml, hown, hts, hX, hbl, hlocks, hgv⟩ := C0
  have htsL : ∀ w ∈ wsL_law, w.before #[Value.ref b] s = true := fun w h => hts w (wsL_law_in w h)
  have hA : ∀ q : Nat, s.heap.size ≤ q → (fun q : Nat => s.heap.size ≤ q) q := fun _ h => h
  have hbA : ¬ (fun q : Nat => s.heap.size ≤ q) b := Nat.not_le.mpr hbl
  refine lv_aload_n hx hb dL_law_731 rfl (lv_at hl 1 rfl) ?_
  refine lv_aload_n hx hb dL_law_732 rfl (lv_at hl 0 rfl) ?_
  refine lv_iload_n hx hb dL_law_733 rfl (lv_at hl 3 rfl) ?_
  refine lv_iconst (v := (1 : Int32)) hx hb dL_law_734 (by decide) ?_
  refine lv_iadd hx hb dL_law_735 ?_
  refine lv_topi (fun y_735 e_735 => ?_)
  obtain rfl : y_735 = (nI (i + 1)) := e_735.trans (nI_add i 1)
  refine va_sld hx hb hX hbl hbA hS (vp_in_nI (by omega) (by omega)) dL_law_736 ?_
  refine lv_aload_n hx hb dL_law_737 rfl (lv_at hl 0 rfl) ?_
  refine lv_iload_n hx hb dL_law_738 rfl (lv_at hl 3 rfl) ?_
  refine lv_iconst (v := (2 : Int32)) hx hb dL_law_739 (by decide) ?_
  refine lv_iadd hx hb dL_law_740 ?_
  refine lv_topi (fun y_740 e_740 => ?_)
  obtain rfl : y_740 = (nI (i + 2)) := e_740.trans (nI_add i 2)
  refine va_sld hx hb hX hbl hbA hS (vp_in_nI (by omega) (by omega)) dL_law_741 ?_
  refine lv_if_eq (tgt := 749) hx hb dL_law_742 (by decide) (fun c_742 => ?_) (fun c_742 => ?_)
  · have c_742 : ((xs (nI (i + 2)).toNatClampNeg) = 0) := c_742
    refine lv_iconst (v := (0 : Int32)) hx hb dL_law_749 (by decide) ?_
    have hr := mrVx (p := p) (e := e) (R := room_1) (below := below) (meth := meth) (H := H) (locs := locs) (ls := ls) (cells := 59) (slots := 2755) (As := [.int (xs (nI (i + 1)).toNatClampNeg), .int (0 : Int32)]) (rest := []) (c_X5_seen l δ cI cJ cZ aG0 aK0 aK1 aK2 aK3 aK4 aK5 aE0 aF0 aP0 aD0 aM0 aC0 gg k (xs (nI (i + 1)).toNatClampNeg) (0 : Int32)) hx hb hml htsL hown hK hNW hP hD (pm_GK _ _ _ _ _ _ _ _ _ _) 5 0 rfl rfl (cwV 2 htsL gL_law_X5_seen rfl rfl rfl (by decide +kernel) ⟨(Nat.le_of_ble_eq_true rfl), (Nat.le_of_ble_eq_true rfl)⟩) rfl hl.1 rfl (Nat.le_of_ble_eq_true rfl) dL_law_750 ⟨(Nat.le_of_ble_eq_true rfl), (Nat.le_of_ble_eq_true rfl)⟩
    refine mcx_i (wr := ((wK cI aE0 aE1 aE2 aE3 aE4 aE5 kE) ++ (wK cI aF0 aF1 aF2 aF3 aF4 aF5 kF) ++ (wP cI aP0 aP1 pp) ++ (wD cI aD0 aD1 aD2 aD3 aD4 aT0 dy) ++ (wK cI aT0 aT1 aT2 aT3 aT4 aT5 kT) ++ (wM cI aM0 aM1 aM2 mm) ++ (wC cJ aC0 aC1 ch) ++ (wR cI cJ cZ aR0 aR1 aR2 aR3 aR4 aR5 aR6 aR7 aR8 aR9 aR10 aR11 aR12 aR13 aR14 aR15 aR16 aR17 aR18 aR19 aR20 aR21 lv sg pd ac dd hd le bd my lf pa kp))) hr hP hD hS hA (pm_GK _ _ _ _ _ _ _ _ _ _) (wn := fun u_750 => ((wG  aG0 aK0 aE0 aF0 aP0 aD0 aM0 aC0 gg) ++ (wK cI aK0 aK1 aK2 aK3 aK4 aK5 u_750) ++ (wK cI aE0 aE1 aE2 aE3 aE4 aE5 kE) ++ (wK cI aF0 aF1 aF2 aF3 aF4 aF5 kF) ++ (wP cI aP0 aP1 pp) ++ (wD cI aD0 aD1 aD2 aD3 aD4 aT0 dy) ++ (wK cI aT0 aT1 aT2 aT3 aT4 aT5 kT) ++ (wM cI aM0 aM1 aM2 mm) ++ (wC cJ aC0 aC1 ch) ++ (wR cI cJ cZ aR0 aR1 aR2 aR3 aR4 aR5 aR6 aR7 aR8 aR9 aR10 aR11 aR12 aR13 aR14 aR15 aR16 aR17 aR18 aR19 aR20 aR21 lv sg pd ac dd hd le bd my lf pa kp))) (fun _ => (pm_GK _ _ _ _ _ _ _ _ _ _)) (fun r_750 u_750 H locs hw_750 hP hD hS => ?_)
    have hP : va_P δ vwCl ((wG  aG0 aK0 aE0 aF0 aP0 aD0 aM0 aC0 gg) ++ (wK cI aK0 aK1 aK2 aK3 aK4 aK5 u_750) ++ (wK cI aE0 aE1 aE2 aE3 aE4 aE5 kE) ++ (wK cI aF0 aF1 aF2 aF3 aF4 aF5 kF) ++ (wP cI aP0 aP1 pp) ++ (wD cI aD0 aD1 aD2 aD3 aD4 aT0 dy) ++ (wK cI aT0 aT1 aT2 aT3 aT4 aT5 kT) ++ (wM cI aM0 aM1 aM2 mm) ++ (wC cJ aC0 aC1 ch) ++ (wR cI cJ cZ aR0 aR1 aR2 aR3 aR4 aR5 aR6 aR7 aR8 aR9 aR10 aR11 aR12 aR13 aR14 aR15 aR16 aR17 aR18 aR19 aR20 aR21 lv sg pd ac dd hd le bd my lf pa kp)) H := hP
    have hD : va_D (fun q : Nat => s.heap.size ≤ q) ((wG  aG0 aK0 aE0 aF0 aP0 aD0 aM0 aC0 gg) ++ (wK cI aK0 aK1 aK2 aK3 aK4 aK5 u_750) ++ (wK cI aE0 aE1 aE2 aE3 aE4 aE5 kE) ++ (wK cI aF0 aF1 aF2 aF3 aF4 aF5 kF) ++ (wP cI aP0 aP1 pp) ++ (wD cI aD0 aD1 aD2 aD3 aD4 aT0 dy) ++ (wK cI aT0 aT1 aT2 aT3 aT4 aT5 kT) ++ (wM cI aM0 aM1 aM2 mm) ++ (wC cJ aC0 aC1 ch) ++ (wR cI cJ cZ aR0 aR1 aR2 aR3 aR4 aR5 aR6 aR7 aR8 aR9 aR10 aR11 aR12 aR13 aR14 aR15 aR16 aR17 aR18 aR19 aR20 aR21 lv sg pd ac dd hd le bd my lf pa kp)) := hD
    refine lv_aload_n hx hb dL_law_753 rfl (lv_at hl 2 rfl) ?_
    refine lv_aload_n hx hb dL_law_754 rfl (lv_at hl 0 rfl) ?_
    refine lv_iload_n hx hb dL_law_755 rfl (lv_at hl 3 rfl) ?_
    refine lv_iconst (v := (1 : Int32)) hx hb dL_law_756 (by decide) ?_
    refine lv_iadd hx hb dL_law_757 ?_
    refine lv_topi (fun y_757 e_757 => ?_)
    obtain rfl : y_757 = (nI (i + 1)) := e_757.trans (nI_add i 1)
    refine va_sld hx hb hX hbl hbA hS (vp_in_nI (by omega) (by omega)) dL_law_758 ?_
    refine lv_aload_n hx hb dL_law_759 rfl (lv_at hl 0 rfl) ?_
    refine lv_iload_n hx hb dL_law_760 rfl (lv_at hl 3 rfl) ?_
    refine lv_iconst (v := (2 : Int32)) hx hb dL_law_761 (by decide) ?_
    refine lv_iadd hx hb dL_law_762 ?_
    refine lv_topi (fun y_762 e_762 => ?_)
    obtain rfl : y_762 = (nI (i + 2)) := e_762.trans (nI_add i 2)
    refine va_sld hx hb hX hbl hbA hS (vp_in_nI (by omega) (by omega)) dL_law_763 ?_
    refine lv_if_eq (tgt := 771) hx hb dL_law_764 (by decide) (fun c_764 => ?_) (fun c_764 => ?_)
    · have c_764 : ((xs (nI (i + 2)).toNatClampNeg) = 0) := c_764
      refine lv_iconst (v := (0 : Int32)) hx hb dL_law_771 (by decide) ?_
      have hr := mrVx (p := p) (e := e) (R := room_1) (below := below) (meth := meth) (H := H) (locs := locs) (ls := ls) (cells := 59) (slots := 2755) (As := [.int (xs (nI (i + 1)).toNatClampNeg), .int (0 : Int32)]) (rest := [.int r_750]) (c_X6_seen l δ cI cJ cZ aR0 aR1 aR2 aR3 aR4 aR5 aR6 aR7 aR8 aR9 aR10 aR11 aR12 aR13 aR14 aR15 aR16 aR17 aR18 aR19 aR20 aR21 lv sg pd ac dd hd le bd my lf pa kp (xs (nI (i + 1)).toNatClampNeg) (0 : Int32) (rel_hs hrel)) hx hb hml htsL hown hK hNW hP hD (pm_R _ _ _ _ _ _ _ _ _ _) 6 0 rfl rfl (cwV 2 htsL gL_law_X6_seen rfl rfl rfl (by decide +kernel) ⟨(Nat.le_of_ble_eq_true rfl), (Nat.le_of_ble_eq_true rfl)⟩) rfl hl.1 rfl (Nat.le_of_ble_eq_true rfl) dL_law_772 ⟨(Nat.le_of_ble_eq_true rfl), (Nat.le_of_ble_eq_true rfl)⟩
      refine mcx_i (wr := ((wG  aG0 aK0 aE0 aF0 aP0 aD0 aM0 aC0 gg) ++ (wK cI aK0 aK1 aK2 aK3 aK4 aK5 u_750) ++ (wK cI aE0 aE1 aE2 aE3 aE4 aE5 kE) ++ (wK cI aF0 aF1 aF2 aF3 aF4 aF5 kF) ++ (wP cI aP0 aP1 pp) ++ (wD cI aD0 aD1 aD2 aD3 aD4 aT0 dy) ++ (wK cI aT0 aT1 aT2 aT3 aT4 aT5 kT) ++ (wM cI aM0 aM1 aM2 mm) ++ (wC cJ aC0 aC1 ch))) hr hP hD hS hA (pm_R _ _ _ _ _ _ _ _ _ _) (wn := fun u_772 => ((wG  aG0 aK0 aE0 aF0 aP0 aD0 aM0 aC0 gg) ++ (wK cI aK0 aK1 aK2 aK3 aK4 aK5 u_750) ++ (wK cI aE0 aE1 aE2 aE3 aE4 aE5 kE) ++ (wK cI aF0 aF1 aF2 aF3 aF4 aF5 kF) ++ (wP cI aP0 aP1 pp) ++ (wD cI aD0 aD1 aD2 aD3 aD4 aT0 dy) ++ (wK cI aT0 aT1 aT2 aT3 aT4 aT5 kT) ++ (wM cI aM0 aM1 aM2 mm) ++ (wC cJ aC0 aC1 ch) ++ (wR cI cJ cZ aR0 aR1 aR2 aR3 aR4 aR5 aR6 aR7 aR8 aR9 aR10 aR11 aR12 aR13 aR14 aR15 aR16 aR17 aR18 aR19 aR20 aR21 lv u_772 pd ac dd hd le bd my lf pa kp))) (fun _ => (pm_R _ _ _ _ _ _ _ _ _ _)) (fun r_772 u_772 H locs hw_772 hP hD hS => ?_)
      have hP : va_P δ vwCl ((wG  aG0 aK0 aE0 aF0 aP0 aD0 aM0 aC0 gg) ++ (wK cI aK0 aK1 aK2 aK3 aK4 aK5 u_750) ++ (wK cI aE0 aE1 aE2 aE3 aE4 aE5 kE) ++ (wK cI aF0 aF1 aF2 aF3 aF4 aF5 kF) ++ (wP cI aP0 aP1 pp) ++ (wD cI aD0 aD1 aD2 aD3 aD4 aT0 dy) ++ (wK cI aT0 aT1 aT2 aT3 aT4 aT5 kT) ++ (wM cI aM0 aM1 aM2 mm) ++ (wC cJ aC0 aC1 ch) ++ (wR cI cJ cZ aR0 aR1 aR2 aR3 aR4 aR5 aR6 aR7 aR8 aR9 aR10 aR11 aR12 aR13 aR14 aR15 aR16 aR17 aR18 aR19 aR20 aR21 lv u_772 pd ac dd hd le bd my lf pa kp)) H := hP
      have hD : va_D (fun q : Nat => s.heap.size ≤ q) ((wG  aG0 aK0 aE0 aF0 aP0 aD0 aM0 aC0 gg) ++ (wK cI aK0 aK1 aK2 aK3 aK4 aK5 u_750) ++ (wK cI aE0 aE1 aE2 aE3 aE4 aE5 kE) ++ (wK cI aF0 aF1 aF2 aF3 aF4 aF5 kF) ++ (wP cI aP0 aP1 pp) ++ (wD cI aD0 aD1 aD2 aD3 aD4 aT0 dy) ++ (wK cI aT0 aT1 aT2 aT3 aT4 aT5 kT) ++ (wM cI aM0 aM1 aM2 mm) ++ (wC cJ aC0 aC1 ch) ++ (wR cI cJ cZ aR0 aR1 aR2 aR3 aR4 aR5 aR6 aR7 aR8 aR9 aR10 aR11 aR12 aR13 aR14 aR15 aR16 aR17 aR18 aR19 aR20 aR21 lv u_772 pd ac dd hd le bd my lf pa kp)) := hD
      refine lv_icmp_eq (tgt := 1038) hx hb dL_law_775 (by decide) (fun c_775 => ?_) (fun c_775 => ?_)
      · skip
        have hap := api_seen hrel hw_750 hw_772
        have hrel := hap.2
        refine lv_iinc (v := nI (i + 6)) (lv' := [(3, .int (nI (i + 6))), (0, .ref b), (1, .ref aG0), (2, .ref aR0)]) hx hb dL_law_1038 hl (k := 3) rfl (nI_add i 6) (by decide) rfl (fun ls hl => ?_)
        refine lv_goto (tgt := 18) hx hb dL_law_1041 (by decide) ?_
        exact ih gg u_750 kE kF pp dy kT mm ch lv u_772 pd ac dd hd le bd my lf pa kp _ _ hrel hP hD hS ls (lv_sub hl [1, 2, 3, 0] rfl)
      · skip
        have hap := api_seen hrel hw_750 hw_772
        exact absurd hap.1 c_775
    · have c_764 : ¬ ((xs (nI (i + 2)).toNatClampNeg) = 0) := c_764
      exact absurd c_742 c_764
  · have c_742 : ¬ ((xs (nI (i + 2)).toNatClampNeg) = 0) := c_742
    refine lv_iconst (v := (1 : Int32)) hx hb dL_law_745 (by decide) ?_
    refine lv_goto (tgt := 750) hx hb dL_law_746 (by decide) ?_
    have hr := mrVx (p := p) (e := e) (R := room_1) (below := below) (meth := meth) (H := H) (locs := locs) (ls := ls) (cells := 59) (slots := 2755) (As := [.int (xs (nI (i + 1)).toNatClampNeg), .int (1 : Int32)]) (rest := []) (c_X5_seen l δ cI cJ cZ aG0 aK0 aK1 aK2 aK3 aK4 aK5 aE0 aF0 aP0 aD0 aM0 aC0 gg k (xs (nI (i + 1)).toNatClampNeg) (1 : Int32)) hx hb hml htsL hown hK hNW hP hD (pm_GK _ _ _ _ _ _ _ _ _ _) 5 0 rfl rfl (cwV 2 htsL gL_law_X5_seen rfl rfl rfl (by decide +kernel) ⟨(Nat.le_of_ble_eq_true rfl), (Nat.le_of_ble_eq_true rfl)⟩) rfl hl.1 rfl (Nat.le_of_ble_eq_true rfl) dL_law_750 ⟨(Nat.le_of_ble_eq_true rfl), (Nat.le_of_ble_eq_true rfl)⟩
    refine mcx_i (wr := ((wK cI aE0 aE1 aE2 aE3 aE4 aE5 kE) ++ (wK cI aF0 aF1 aF2 aF3 aF4 aF5 kF) ++ (wP cI aP0 aP1 pp) ++ (wD cI aD0 aD1 aD2 aD3 aD4 aT0 dy) ++ (wK cI aT0 aT1 aT2 aT3 aT4 aT5 kT) ++ (wM cI aM0 aM1 aM2 mm) ++ (wC cJ aC0 aC1 ch) ++ (wR cI cJ cZ aR0 aR1 aR2 aR3 aR4 aR5 aR6 aR7 aR8 aR9 aR10 aR11 aR12 aR13 aR14 aR15 aR16 aR17 aR18 aR19 aR20 aR21 lv sg pd ac dd hd le bd my lf pa kp))) hr hP hD hS hA (pm_GK _ _ _ _ _ _ _ _ _ _) (wn := fun u_750 => ((wG  aG0 aK0 aE0 aF0 aP0 aD0 aM0 aC0 gg) ++ (wK cI aK0 aK1 aK2 aK3 aK4 aK5 u_750) ++ (wK cI aE0 aE1 aE2 aE3 aE4 aE5 kE) ++ (wK cI aF0 aF1 aF2 aF3 aF4 aF5 kF) ++ (wP cI aP0 aP1 pp) ++ (wD cI aD0 aD1 aD2 aD3 aD4 aT0 dy) ++ (wK cI aT0 aT1 aT2 aT3 aT4 aT5 kT) ++ (wM cI aM0 aM1 aM2 mm) ++ (wC cJ aC0 aC1 ch) ++ (wR cI cJ cZ aR0 aR1 aR2 aR3 aR4 aR5 aR6 aR7 aR8 aR9 aR10 aR11 aR12 aR13 aR14 aR15 aR16 aR17 aR18 aR19 aR20 aR21 lv sg pd ac dd hd le bd my lf pa kp))) (fun _ => (pm_GK _ _ _ _ _ _ _ _ _ _)) (fun r_750 u_750 H locs hw_750 hP hD hS => ?_)
    have hP : va_P δ vwCl ((wG  aG0 aK0 aE0 aF0 aP0 aD0 aM0 aC0 gg) ++ (wK cI aK0 aK1 aK2 aK3 aK4 aK5 u_750) ++ (wK cI aE0 aE1 aE2 aE3 aE4 aE5 kE) ++ (wK cI aF0 aF1 aF2 aF3 aF4 aF5 kF) ++ (wP cI aP0 aP1 pp) ++ (wD cI aD0 aD1 aD2 aD3 aD4 aT0 dy) ++ (wK cI aT0 aT1 aT2 aT3 aT4 aT5 kT) ++ (wM cI aM0 aM1 aM2 mm) ++ (wC cJ aC0 aC1 ch) ++ (wR cI cJ cZ aR0 aR1 aR2 aR3 aR4 aR5 aR6 aR7 aR8 aR9 aR10 aR11 aR12 aR13 aR14 aR15 aR16 aR17 aR18 aR19 aR20 aR21 lv sg pd ac dd hd le bd my lf pa kp)) H := hP
    have hD : va_D (fun q : Nat => s.heap.size ≤ q) ((wG  aG0 aK0 aE0 aF0 aP0 aD0 aM0 aC0 gg) ++ (wK cI aK0 aK1 aK2 aK3 aK4 aK5 u_750) ++ (wK cI aE0 aE1 aE2 aE3 aE4 aE5 kE) ++ (wK cI aF0 aF1 aF2 aF3 aF4 aF5 kF) ++ (wP cI aP0 aP1 pp) ++ (wD cI aD0 aD1 aD2 aD3 aD4 aT0 dy) ++ (wK cI aT0 aT1 aT2 aT3 aT4 aT5 kT) ++ (wM cI aM0 aM1 aM2 mm) ++ (wC cJ aC0 aC1 ch) ++ (wR cI cJ cZ aR0 aR1 aR2 aR3 aR4 aR5 aR6 aR7 aR8 aR9 aR10 aR11 aR12 aR13 aR14 aR15 aR16 aR17 aR18 aR19 aR20 aR21 lv sg pd ac dd hd le bd my lf pa kp)) := hD
    refine lv_aload_n hx hb dL_law_753 rfl (lv_at hl 2 rfl) ?_
    refine lv_aload_n hx hb dL_law_754 rfl (lv_at hl 0 rfl) ?_
    refine lv_iload_n hx hb dL_law_755 rfl (lv_at hl 3 rfl) ?_
    refine lv_iconst (v := (1 : Int32)) hx hb dL_law_756 (by decide) ?_
    refine lv_iadd hx hb dL_law_757 ?_
    refine lv_topi (fun y_757 e_757 => ?_)
    obtain rfl : y_757 = (nI (i + 1)) := e_757.trans (nI_add i 1)
    refine va_sld hx hb hX hbl hbA hS (vp_in_nI (by omega) (by omega)) dL_law_758 ?_
    refine lv_aload_n hx hb dL_law_759 rfl (lv_at hl 0 rfl) ?_
    refine lv_iload_n hx hb dL_law_760 rfl (lv_at hl 3 rfl) ?_
    refine lv_iconst (v := (2 : Int32)) hx hb dL_law_761 (by decide) ?_
    refine lv_iadd hx hb dL_law_762 ?_
    refine lv_topi (fun y_762 e_762 => ?_)
    obtain rfl : y_762 = (nI (i + 2)) := e_762.trans (nI_add i 2)
    refine va_sld hx hb hX hbl hbA hS (vp_in_nI (by omega) (by omega)) dL_law_763 ?_
    refine lv_if_eq (tgt := 771) hx hb dL_law_764 (by decide) (fun c_764 => ?_) (fun c_764 => ?_)
    · have c_764 : ((xs (nI (i + 2)).toNatClampNeg) = 0) := c_764
      exact absurd c_764 c_742
    · have c_764 : ¬ ((xs (nI (i + 2)).toNatClampNeg) = 0) := c_764
      refine lv_iconst (v := (1 : Int32)) hx hb dL_law_767 (by decide) ?_
      refine lv_goto (tgt := 772) hx hb dL_law_768 (by decide) ?_
      have hr := mrVx (p := p) (e := e) (R := room_1) (below := below) (meth := meth) (H := H) (locs := locs) (ls := ls) (cells := 59) (slots := 2755) (As := [.int (xs (nI (i + 1)).toNatClampNeg), .int (1 : Int32)]) (rest := [.int r_750]) (c_X6_seen l δ cI cJ cZ aR0 aR1 aR2 aR3 aR4 aR5 aR6 aR7 aR8 aR9 aR10 aR11 aR12 aR13 aR14 aR15 aR16 aR17 aR18 aR19 aR20 aR21 lv sg pd ac dd hd le bd my lf pa kp (xs (nI (i + 1)).toNatClampNeg) (1 : Int32) (rel_hs hrel)) hx hb hml htsL hown hK hNW hP hD (pm_R _ _ _ _ _ _ _ _ _ _) 6 0 rfl rfl (cwV 2 htsL gL_law_X6_seen rfl rfl rfl (by decide +kernel) ⟨(Nat.le_of_ble_eq_true rfl), (Nat.le_of_ble_eq_true rfl)⟩) rfl hl.1 rfl (Nat.le_of_ble_eq_true rfl) dL_law_772 ⟨(Nat.le_of_ble_eq_true rfl), (Nat.le_of_ble_eq_true rfl)⟩
      refine mcx_i (wr := ((wG  aG0 aK0 aE0 aF0 aP0 aD0 aM0 aC0 gg) ++ (wK cI aK0 aK1 aK2 aK3 aK4 aK5 u_750) ++ (wK cI aE0 aE1 aE2 aE3 aE4 aE5 kE) ++ (wK cI aF0 aF1 aF2 aF3 aF4 aF5 kF) ++ (wP cI aP0 aP1 pp) ++ (wD cI aD0 aD1 aD2 aD3 aD4 aT0 dy) ++ (wK cI aT0 aT1 aT2 aT3 aT4 aT5 kT) ++ (wM cI aM0 aM1 aM2 mm) ++ (wC cJ aC0 aC1 ch))) hr hP hD hS hA (pm_R _ _ _ _ _ _ _ _ _ _) (wn := fun u_772 => ((wG  aG0 aK0 aE0 aF0 aP0 aD0 aM0 aC0 gg) ++ (wK cI aK0 aK1 aK2 aK3 aK4 aK5 u_750) ++ (wK cI aE0 aE1 aE2 aE3 aE4 aE5 kE) ++ (wK cI aF0 aF1 aF2 aF3 aF4 aF5 kF) ++ (wP cI aP0 aP1 pp) ++ (wD cI aD0 aD1 aD2 aD3 aD4 aT0 dy) ++ (wK cI aT0 aT1 aT2 aT3 aT4 aT5 kT) ++ (wM cI aM0 aM1 aM2 mm) ++ (wC cJ aC0 aC1 ch) ++ (wR cI cJ cZ aR0 aR1 aR2 aR3 aR4 aR5 aR6 aR7 aR8 aR9 aR10 aR11 aR12 aR13 aR14 aR15 aR16 aR17 aR18 aR19 aR20 aR21 lv u_772 pd ac dd hd le bd my lf pa kp))) (fun _ => (pm_R _ _ _ _ _ _ _ _ _ _)) (fun r_772 u_772 H locs hw_772 hP hD hS => ?_)
      have hP : va_P δ vwCl ((wG  aG0 aK0 aE0 aF0 aP0 aD0 aM0 aC0 gg) ++ (wK cI aK0 aK1 aK2 aK3 aK4 aK5 u_750) ++ (wK cI aE0 aE1 aE2 aE3 aE4 aE5 kE) ++ (wK cI aF0 aF1 aF2 aF3 aF4 aF5 kF) ++ (wP cI aP0 aP1 pp) ++ (wD cI aD0 aD1 aD2 aD3 aD4 aT0 dy) ++ (wK cI aT0 aT1 aT2 aT3 aT4 aT5 kT) ++ (wM cI aM0 aM1 aM2 mm) ++ (wC cJ aC0 aC1 ch) ++ (wR cI cJ cZ aR0 aR1 aR2 aR3 aR4 aR5 aR6 aR7 aR8 aR9 aR10 aR11 aR12 aR13 aR14 aR15 aR16 aR17 aR18 aR19 aR20 aR21 lv u_772 pd ac dd hd le bd my lf pa kp)) H := hP
      have hD : va_D (fun q : Nat => s.heap.size ≤ q) ((wG  aG0 aK0 aE0 aF0 aP0 aD0 aM0 aC0 gg) ++ (wK cI aK0 aK1 aK2 aK3 aK4 aK5 u_750) ++ (wK cI aE0 aE1 aE2 aE3 aE4 aE5 kE) ++ (wK cI aF0 aF1 aF2 aF3 aF4 aF5 kF) ++ (wP cI aP0 aP1 pp) ++ (wD cI aD0 aD1 aD2 aD3 aD4 aT0 dy) ++ (wK cI aT0 aT1 aT2 aT3 aT4 aT5 kT) ++ (wM cI aM0 aM1 aM2 mm) ++ (wC cJ aC0 aC1 ch) ++ (wR cI cJ cZ aR0 aR1 aR2 aR3 aR4 aR5 aR6 aR7 aR8 aR9 aR10 aR11 aR12 aR13 aR14 aR15 aR16 aR17 aR18 aR19 aR20 aR21 lv u_772 pd ac dd hd le bd my lf pa kp)) := hD
      refine lv_icmp_eq (tgt := 1038) hx hb dL_law_775 (by decide) (fun c_775 => ?_) (fun c_775 => ?_)
      · skip
        have hap := api_seen hrel hw_750 hw_772
        have hrel := hap.2
        refine lv_iinc (v := nI (i + 6)) (lv' := [(3, .int (nI (i + 6))), (0, .ref b), (1, .ref aG0), (2, .ref aR0)]) hx hb dL_law_1038 hl (k := 3) rfl (nI_add i 6) (by decide) rfl (fun ls hl => ?_)
        refine lv_goto (tgt := 18) hx hb dL_law_1041 (by decide) ?_
        exact ih gg u_750 kE kF pp dy kT mm ch lv u_772 pd ac dd hd le bd my lf pa kp _ _ hrel hP hD hS ls (lv_sub hl [1, 2, 3, 0] rfl)
      · skip
        have hap := api_seen hrel hw_750 hw_772
        exact absurd hap.1 c_775
