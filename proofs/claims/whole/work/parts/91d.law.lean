/-! the law, calls 12 on -/
set_option maxHeartbeats 40000000 in
set_option maxRecDepth 100000 in
theorem law_c12 {p : Program} {l : Launch} {e : Env} {s : State} {m : MethodId} {below : List Frame} {meth : Method} {c : Code} {δ : va_G} {cI cJ cZ : ClassId} {b L : Nat} {xs : Nat → Int32} (hL : L ≤ 384) (C0 : lw_At p s m meth c b L xs) (hK : va_K δ vwCl (mTy cI cJ cZ) s) (hNW : mNW s) {aG0 aK0 aK1 aK2 aK3 aK4 aK5 aE0 aE1 aE2 aE3 aE4 aE5 aF0 aF1 aF2 aF3 aF4 aF5 aP0 aP1 aD0 aD1 aD2 aD3 aD4 aT0 aT1 aT2 aT3 aT4 aT5 aM0 aM1 aM2 aC0 aC1 aR0 aR1 aR2 aR3 aR4 aR5 aR6 aR7 aR8 aR9 aR10 aR11 aR12 aR13 aR14 aR15 aR16 aR17 aR18 aR19 aR20 aR21 : Nat} {i : Nat} (hi6 : i + 6 ≤ L) (ih : LInv p l e s m below meth c δ cI cJ cZ b aG0 aK0 aK1 aK2 aK3 aK4 aK5 aE0 aE1 aE2 aE3 aE4 aE5 aF0 aF1 aF2 aF3 aF4 aF5 aP0 aP1 aD0 aD1 aD2 aD3 aD4 aT0 aT1 aT2 aT3 aT4 aT5 aM0 aM1 aM2 aC0 aC1 aR0 aR1 aR2 aR3 aR4 aR5 aR6 aR7 aR8 aR9 aR10 aR11 aR12 aR13 aR14 aR15 aR16 aR17 aR18 aR19 aR20 aR21 (i + 6)) {gg : GS} {k : KS} {kE : KS} {kF : KS} {pp : PS} {dy : DS} {kT : KS} {mm : MS} {ch : CS} {lv : LV} {sg : SG} {pd : PD} {ac : AC} {dd : DD} {hd : HD} {le : LE} {bd : BD} {my : MY} {lf : LF} {pa : PA} {kp : KP} {H : Heap} {locs : List Loc} (hrel : REL gg k kE kF pp lv sg pd kp) (hP : va_P δ vwCl ((wG  aG0 aK0 aE0 aF0 aP0 aD0 aM0 aC0 gg) ++ (wK cI aK0 aK1 aK2 aK3 aK4 aK5 k) ++ (wK cI aE0 aE1 aE2 aE3 aE4 aE5 kE) ++ (wK cI aF0 aF1 aF2 aF3 aF4 aF5 kF) ++ (wP cI aP0 aP1 pp) ++ (wD cI aD0 aD1 aD2 aD3 aD4 aT0 dy) ++ (wK cI aT0 aT1 aT2 aT3 aT4 aT5 kT) ++ (wM cI aM0 aM1 aM2 mm) ++ (wC cJ aC0 aC1 ch) ++ (wR cI cJ cZ aR0 aR1 aR2 aR3 aR4 aR5 aR6 aR7 aR8 aR9 aR10 aR11 aR12 aR13 aR14 aR15 aR16 aR17 aR18 aR19 aR20 aR21 lv sg pd ac dd hd le bd my lf pa kp)) H) (hD : va_D (fun q : Nat => s.heap.size ≤ q) ((wG  aG0 aK0 aE0 aF0 aP0 aD0 aM0 aC0 gg) ++ (wK cI aK0 aK1 aK2 aK3 aK4 aK5 k) ++ (wK cI aE0 aE1 aE2 aE3 aE4 aE5 kE) ++ (wK cI aF0 aF1 aF2 aF3 aF4 aF5 kF) ++ (wP cI aP0 aP1 pp) ++ (wD cI aD0 aD1 aD2 aD3 aD4 aT0 dy) ++ (wK cI aT0 aT1 aT2 aT3 aT4 aT5 kT) ++ (wM cI aM0 aM1 aM2 mm) ++ (wC cJ aC0 aC1 ch) ++ (wR cI cJ cZ aR0 aR1 aR2 aR3 aR4 aR5 aR6 aR7 aR8 aR9 aR10 aR11 aR12 aR13 aR14 aR15 aR16 aR17 aR18 aR19 aR20 aR21 lv sg pd ac dd hd le bd my lf pa kp))) (hS : va_S (fun q : Nat => s.heap.size ≤ q) s.heap H locs) {ls : Array Slot} (hl : lv_has ls 4 [(0, .ref b), (1, .ref aG0), (2, .ref aR0), (3, .int (nI i))]) : W p l e room_1 s m #[Value.ref b] below meth c H locs 59 2755 (lw_Z below #[Value.ref b] s) (F0 m 460 ls []) := by
  obtain ⟨hx, hb, hr0, hml, hown, hts, hX, hbl, hlocks, hgv⟩ := C0
  have htsL : ∀ w ∈ wsL_law, w.before #[Value.ref b] s = true := fun w h => hts w (wsL_law_in w h)
  have hA : ∀ q : Nat, s.heap.size ≤ q → (fun q : Nat => s.heap.size ≤ q) q := fun _ h => h
  have hbA : ¬ (fun q : Nat => s.heap.size ≤ q) b := Nat.not_le.mpr hbl
  refine lv_aload_n hx hb dL_law_460 rfl (lv_at hl 1 rfl) ?_
  have hr := mrVx (p := p) (e := e) (R := room_1) (below := below) (meth := meth) (H := H) (locs := locs) (ls := ls) (cells := 59) (slots := 2755) (As := []) (rest := []) (c_X5_proper l δ cI cJ cZ aG0 aK0 aK1 aK2 aK3 aK4 aK5 aE0 aF0 aP0 aD0 aM0 aC0 gg k) hx hb hml htsL hown hK hNW hP hD (pm_GK _ _ _ _ _ _ _ _ _ _) 5 0 rfl rfl (cwV 0 htsL gL_law_X5_proper rfl rfl rfl (by decide +kernel) ⟨(Nat.le_of_ble_eq_true rfl), (Nat.le_of_ble_eq_true rfl)⟩) rfl hl.1 rfl (Nat.le_of_ble_eq_true rfl) dL_law_461 ⟨(Nat.le_of_ble_eq_true rfl), (Nat.le_of_ble_eq_true rfl)⟩
  refine mcx_i (wr := ((wK cI aE0 aE1 aE2 aE3 aE4 aE5 kE) ++ (wK cI aF0 aF1 aF2 aF3 aF4 aF5 kF) ++ (wP cI aP0 aP1 pp) ++ (wD cI aD0 aD1 aD2 aD3 aD4 aT0 dy) ++ (wK cI aT0 aT1 aT2 aT3 aT4 aT5 kT) ++ (wM cI aM0 aM1 aM2 mm) ++ (wC cJ aC0 aC1 ch) ++ (wR cI cJ cZ aR0 aR1 aR2 aR3 aR4 aR5 aR6 aR7 aR8 aR9 aR10 aR11 aR12 aR13 aR14 aR15 aR16 aR17 aR18 aR19 aR20 aR21 lv sg pd ac dd hd le bd my lf pa kp))) hr hP hD hS hA (pm_GK _ _ _ _ _ _ _ _ _ _) (wn := fun _ => ((wG  aG0 aK0 aE0 aF0 aP0 aD0 aM0 aC0 gg) ++ (wK cI aK0 aK1 aK2 aK3 aK4 aK5 k) ++ (wK cI aE0 aE1 aE2 aE3 aE4 aE5 kE) ++ (wK cI aF0 aF1 aF2 aF3 aF4 aF5 kF) ++ (wP cI aP0 aP1 pp) ++ (wD cI aD0 aD1 aD2 aD3 aD4 aT0 dy) ++ (wK cI aT0 aT1 aT2 aT3 aT4 aT5 kT) ++ (wM cI aM0 aM1 aM2 mm) ++ (wC cJ aC0 aC1 ch) ++ (wR cI cJ cZ aR0 aR1 aR2 aR3 aR4 aR5 aR6 aR7 aR8 aR9 aR10 aR11 aR12 aR13 aR14 aR15 aR16 aR17 aR18 aR19 aR20 aR21 lv sg pd ac dd hd le bd my lf pa kp))) (fun _ => (pm_GK _ _ _ _ _ _ _ _ _ _)) (fun r_461 _ H locs hw_461 hP hD hS => ?_)
  have hP : va_P δ vwCl ((wG  aG0 aK0 aE0 aF0 aP0 aD0 aM0 aC0 gg) ++ (wK cI aK0 aK1 aK2 aK3 aK4 aK5 k) ++ (wK cI aE0 aE1 aE2 aE3 aE4 aE5 kE) ++ (wK cI aF0 aF1 aF2 aF3 aF4 aF5 kF) ++ (wP cI aP0 aP1 pp) ++ (wD cI aD0 aD1 aD2 aD3 aD4 aT0 dy) ++ (wK cI aT0 aT1 aT2 aT3 aT4 aT5 kT) ++ (wM cI aM0 aM1 aM2 mm) ++ (wC cJ aC0 aC1 ch) ++ (wR cI cJ cZ aR0 aR1 aR2 aR3 aR4 aR5 aR6 aR7 aR8 aR9 aR10 aR11 aR12 aR13 aR14 aR15 aR16 aR17 aR18 aR19 aR20 aR21 lv sg pd ac dd hd le bd my lf pa kp)) H := hP
  have hD : va_D (fun q : Nat => s.heap.size ≤ q) ((wG  aG0 aK0 aE0 aF0 aP0 aD0 aM0 aC0 gg) ++ (wK cI aK0 aK1 aK2 aK3 aK4 aK5 k) ++ (wK cI aE0 aE1 aE2 aE3 aE4 aE5 kE) ++ (wK cI aF0 aF1 aF2 aF3 aF4 aF5 kF) ++ (wP cI aP0 aP1 pp) ++ (wD cI aD0 aD1 aD2 aD3 aD4 aT0 dy) ++ (wK cI aT0 aT1 aT2 aT3 aT4 aT5 kT) ++ (wM cI aM0 aM1 aM2 mm) ++ (wC cJ aC0 aC1 ch) ++ (wR cI cJ cZ aR0 aR1 aR2 aR3 aR4 aR5 aR6 aR7 aR8 aR9 aR10 aR11 aR12 aR13 aR14 aR15 aR16 aR17 aR18 aR19 aR20 aR21 lv sg pd ac dd hd le bd my lf pa kp)) := hD
  refine lv_aload_n hx hb dL_law_464 rfl (lv_at hl 2 rfl) ?_
  have hr := mrVx (p := p) (e := e) (R := room_1) (below := below) (meth := meth) (H := H) (locs := locs) (ls := ls) (cells := 59) (slots := 2755) (As := []) (rest := [.int r_461]) (c_X6_proper l δ cI cJ cZ aR0 aR1 aR2 aR3 aR4 aR5 aR6 aR7 aR8 aR9 aR10 aR11 aR12 aR13 aR14 aR15 aR16 aR17 aR18 aR19 aR20 aR21 lv sg pd ac dd hd le bd my lf pa kp) hx hb hml htsL hown hK hNW hP hD (pm_R _ _ _ _ _ _ _ _ _ _) 6 0 rfl rfl (cwV 0 htsL gL_law_X6_proper rfl rfl rfl (by decide +kernel) ⟨(Nat.le_of_ble_eq_true rfl), (Nat.le_of_ble_eq_true rfl)⟩) rfl hl.1 rfl (Nat.le_of_ble_eq_true rfl) dL_law_465 ⟨(Nat.le_of_ble_eq_true rfl), (Nat.le_of_ble_eq_true rfl)⟩
  refine mcx_i (wr := ((wG  aG0 aK0 aE0 aF0 aP0 aD0 aM0 aC0 gg) ++ (wK cI aK0 aK1 aK2 aK3 aK4 aK5 k) ++ (wK cI aE0 aE1 aE2 aE3 aE4 aE5 kE) ++ (wK cI aF0 aF1 aF2 aF3 aF4 aF5 kF) ++ (wP cI aP0 aP1 pp) ++ (wD cI aD0 aD1 aD2 aD3 aD4 aT0 dy) ++ (wK cI aT0 aT1 aT2 aT3 aT4 aT5 kT) ++ (wM cI aM0 aM1 aM2 mm) ++ (wC cJ aC0 aC1 ch))) hr hP hD hS hA (pm_R _ _ _ _ _ _ _ _ _ _) (wn := fun _ => ((wG  aG0 aK0 aE0 aF0 aP0 aD0 aM0 aC0 gg) ++ (wK cI aK0 aK1 aK2 aK3 aK4 aK5 k) ++ (wK cI aE0 aE1 aE2 aE3 aE4 aE5 kE) ++ (wK cI aF0 aF1 aF2 aF3 aF4 aF5 kF) ++ (wP cI aP0 aP1 pp) ++ (wD cI aD0 aD1 aD2 aD3 aD4 aT0 dy) ++ (wK cI aT0 aT1 aT2 aT3 aT4 aT5 kT) ++ (wM cI aM0 aM1 aM2 mm) ++ (wC cJ aC0 aC1 ch) ++ (wR cI cJ cZ aR0 aR1 aR2 aR3 aR4 aR5 aR6 aR7 aR8 aR9 aR10 aR11 aR12 aR13 aR14 aR15 aR16 aR17 aR18 aR19 aR20 aR21 lv sg pd ac dd hd le bd my lf pa kp))) (fun _ => (pm_R _ _ _ _ _ _ _ _ _ _)) (fun r_465 _ H locs hw_465 hP hD hS => ?_)
  have hP : va_P δ vwCl ((wG  aG0 aK0 aE0 aF0 aP0 aD0 aM0 aC0 gg) ++ (wK cI aK0 aK1 aK2 aK3 aK4 aK5 k) ++ (wK cI aE0 aE1 aE2 aE3 aE4 aE5 kE) ++ (wK cI aF0 aF1 aF2 aF3 aF4 aF5 kF) ++ (wP cI aP0 aP1 pp) ++ (wD cI aD0 aD1 aD2 aD3 aD4 aT0 dy) ++ (wK cI aT0 aT1 aT2 aT3 aT4 aT5 kT) ++ (wM cI aM0 aM1 aM2 mm) ++ (wC cJ aC0 aC1 ch) ++ (wR cI cJ cZ aR0 aR1 aR2 aR3 aR4 aR5 aR6 aR7 aR8 aR9 aR10 aR11 aR12 aR13 aR14 aR15 aR16 aR17 aR18 aR19 aR20 aR21 lv sg pd ac dd hd le bd my lf pa kp)) H := hP
  have hD : va_D (fun q : Nat => s.heap.size ≤ q) ((wG  aG0 aK0 aE0 aF0 aP0 aD0 aM0 aC0 gg) ++ (wK cI aK0 aK1 aK2 aK3 aK4 aK5 k) ++ (wK cI aE0 aE1 aE2 aE3 aE4 aE5 kE) ++ (wK cI aF0 aF1 aF2 aF3 aF4 aF5 kF) ++ (wP cI aP0 aP1 pp) ++ (wD cI aD0 aD1 aD2 aD3 aD4 aT0 dy) ++ (wK cI aT0 aT1 aT2 aT3 aT4 aT5 kT) ++ (wM cI aM0 aM1 aM2 mm) ++ (wC cJ aC0 aC1 ch) ++ (wR cI cJ cZ aR0 aR1 aR2 aR3 aR4 aR5 aR6 aR7 aR8 aR9 aR10 aR11 aR12 aR13 aR14 aR15 aR16 aR17 aR18 aR19 aR20 aR21 lv sg pd ac dd hd le bd my lf pa kp)) := hD
  refine lv_icmp_eq (tgt := 1038) hx hb dL_law_468 (by decide) (fun c_468 => ?_) (fun c_468 => ?_)
  · skip
    have hap := api_proper hrel hw_461 hw_465
    have hrel := hap.2
    refine lv_iinc (v := nI (i + 6)) (lv' := [(3, .int (nI (i + 6))), (0, .ref b), (1, .ref aG0), (2, .ref aR0)]) hx hb dL_law_1038 hl (k := 3) rfl (nI_add i 6) (by decide) rfl (fun ls hl => ?_)
    refine lv_goto (tgt := 18) hx hb dL_law_1041 (by decide) ?_
    exact ih gg k kE kF pp dy kT mm ch lv sg pd ac dd hd le bd my lf pa kp _ _ hrel hP hD hS ls (lv_sub hl [1, 2, 3, 0] rfl)
  · skip
    have hap := api_proper hrel hw_461 hw_465
    exact absurd hap.1 c_468
set_option maxHeartbeats 40000000 in
set_option maxRecDepth 100000 in
theorem law_c13 {p : Program} {l : Launch} {e : Env} {s : State} {m : MethodId} {below : List Frame} {meth : Method} {c : Code} {δ : va_G} {cI cJ cZ : ClassId} {b L : Nat} {xs : Nat → Int32} (hL : L ≤ 384) (C0 : lw_At p s m meth c b L xs) (hK : va_K δ vwCl (mTy cI cJ cZ) s) (hNW : mNW s) {aG0 aK0 aK1 aK2 aK3 aK4 aK5 aE0 aE1 aE2 aE3 aE4 aE5 aF0 aF1 aF2 aF3 aF4 aF5 aP0 aP1 aD0 aD1 aD2 aD3 aD4 aT0 aT1 aT2 aT3 aT4 aT5 aM0 aM1 aM2 aC0 aC1 aR0 aR1 aR2 aR3 aR4 aR5 aR6 aR7 aR8 aR9 aR10 aR11 aR12 aR13 aR14 aR15 aR16 aR17 aR18 aR19 aR20 aR21 : Nat} {i : Nat} (hi6 : i + 6 ≤ L) (ih : LInv p l e s m below meth c δ cI cJ cZ b aG0 aK0 aK1 aK2 aK3 aK4 aK5 aE0 aE1 aE2 aE3 aE4 aE5 aF0 aF1 aF2 aF3 aF4 aF5 aP0 aP1 aD0 aD1 aD2 aD3 aD4 aT0 aT1 aT2 aT3 aT4 aT5 aM0 aM1 aM2 aC0 aC1 aR0 aR1 aR2 aR3 aR4 aR5 aR6 aR7 aR8 aR9 aR10 aR11 aR12 aR13 aR14 aR15 aR16 aR17 aR18 aR19 aR20 aR21 (i + 6)) {gg : GS} {k : KS} {kE : KS} {kF : KS} {pp : PS} {dy : DS} {kT : KS} {mm : MS} {ch : CS} {lv : LV} {sg : SG} {pd : PD} {ac : AC} {dd : DD} {hd : HD} {le : LE} {bd : BD} {my : MY} {lf : LF} {pa : PA} {kp : KP} {H : Heap} {locs : List Loc} (hrel : REL gg k kE kF pp lv sg pd kp) (hP : va_P δ vwCl ((wG  aG0 aK0 aE0 aF0 aP0 aD0 aM0 aC0 gg) ++ (wK cI aK0 aK1 aK2 aK3 aK4 aK5 k) ++ (wK cI aE0 aE1 aE2 aE3 aE4 aE5 kE) ++ (wK cI aF0 aF1 aF2 aF3 aF4 aF5 kF) ++ (wP cI aP0 aP1 pp) ++ (wD cI aD0 aD1 aD2 aD3 aD4 aT0 dy) ++ (wK cI aT0 aT1 aT2 aT3 aT4 aT5 kT) ++ (wM cI aM0 aM1 aM2 mm) ++ (wC cJ aC0 aC1 ch) ++ (wR cI cJ cZ aR0 aR1 aR2 aR3 aR4 aR5 aR6 aR7 aR8 aR9 aR10 aR11 aR12 aR13 aR14 aR15 aR16 aR17 aR18 aR19 aR20 aR21 lv sg pd ac dd hd le bd my lf pa kp)) H) (hD : va_D (fun q : Nat => s.heap.size ≤ q) ((wG  aG0 aK0 aE0 aF0 aP0 aD0 aM0 aC0 gg) ++ (wK cI aK0 aK1 aK2 aK3 aK4 aK5 k) ++ (wK cI aE0 aE1 aE2 aE3 aE4 aE5 kE) ++ (wK cI aF0 aF1 aF2 aF3 aF4 aF5 kF) ++ (wP cI aP0 aP1 pp) ++ (wD cI aD0 aD1 aD2 aD3 aD4 aT0 dy) ++ (wK cI aT0 aT1 aT2 aT3 aT4 aT5 kT) ++ (wM cI aM0 aM1 aM2 mm) ++ (wC cJ aC0 aC1 ch) ++ (wR cI cJ cZ aR0 aR1 aR2 aR3 aR4 aR5 aR6 aR7 aR8 aR9 aR10 aR11 aR12 aR13 aR14 aR15 aR16 aR17 aR18 aR19 aR20 aR21 lv sg pd ac dd hd le bd my lf pa kp))) (hS : va_S (fun q : Nat => s.heap.size ≤ q) s.heap H locs) {ls : Array Slot} (hl : lv_has ls 4 [(0, .ref b), (1, .ref aG0), (2, .ref aR0), (3, .int (nI i))]) : W p l e room_1 s m #[Value.ref b] below meth c H locs 59 2755 (lw_Z below #[Value.ref b] s) (F0 m 473 ls []) := by
  obtain ⟨hx, hb, hr0, hml, hown, hts, hX, hbl, hlocks, hgv⟩ := C0
  have htsL : ∀ w ∈ wsL_law, w.before #[Value.ref b] s = true := fun w h => hts w (wsL_law_in w h)
  have hA : ∀ q : Nat, s.heap.size ≤ q → (fun q : Nat => s.heap.size ≤ q) q := fun _ h => h
  have hbA : ¬ (fun q : Nat => s.heap.size ≤ q) b := Nat.not_le.mpr hbl
  refine lv_aload_n hx hb dL_law_473 rfl (lv_at hl 1 rfl) ?_
  refine lv_aload_n hx hb dL_law_474 rfl (lv_at hl 0 rfl) ?_
  refine lv_iload_n hx hb dL_law_475 rfl (lv_at hl 3 rfl) ?_
  refine lv_iconst (v := (1 : Int32)) hx hb dL_law_476 (by decide) ?_
  refine lv_iadd hx hb dL_law_477 ?_
  refine lv_topi (fun y_477 e_477 => ?_)
  obtain rfl : y_477 = (nI (i + 1)) := e_477.trans (nI_add i 1)
  refine va_sld hx hb hX hbl hbA hS (vp_in_nI (by omega) (by omega)) dL_law_478 ?_
  refine lv_aload_n hx hb dL_law_479 rfl (lv_at hl 0 rfl) ?_
  refine lv_iload_n hx hb dL_law_480 rfl (lv_at hl 3 rfl) ?_
  refine lv_iconst (v := (2 : Int32)) hx hb dL_law_481 (by decide) ?_
  refine lv_iadd hx hb dL_law_482 ?_
  refine lv_topi (fun y_482 e_482 => ?_)
  obtain rfl : y_482 = (nI (i + 2)) := e_482.trans (nI_add i 2)
  refine va_sld hx hb hX hbl hbA hS (vp_in_nI (by omega) (by omega)) dL_law_483 ?_
  refine lv_aload_n hx hb dL_law_484 rfl (lv_at hl 0 rfl) ?_
  refine lv_iload_n hx hb dL_law_485 rfl (lv_at hl 3 rfl) ?_
  refine lv_iconst (v := (3 : Int32)) hx hb dL_law_486 (by decide) ?_
  refine lv_iadd hx hb dL_law_487 ?_
  refine lv_topi (fun y_487 e_487 => ?_)
  obtain rfl : y_487 = (nI (i + 3)) := e_487.trans (nI_add i 3)
  refine va_sld hx hb hX hbl hbA hS (vp_in_nI (by omega) (by omega)) dL_law_488 ?_
  have hr := mrVx (p := p) (e := e) (R := room_1) (below := below) (meth := meth) (H := H) (locs := locs) (ls := ls) (cells := 59) (slots := 2755) (As := [.int (xs (nI (i + 1)).toNatClampNeg), .int (xs (nI (i + 2)).toNatClampNeg), .int (xs (nI (i + 3)).toNatClampNeg)]) (rest := []) (c_X5_can l δ cI cJ cZ aG0 aK0 aK1 aK2 aK3 aK4 aK5 aE0 aF0 aP0 aD0 aM0 aC0 gg k (xs (nI (i + 1)).toNatClampNeg) (xs (nI (i + 2)).toNatClampNeg) (xs (nI (i + 3)).toNatClampNeg)) hx hb hml htsL hown hK hNW hP hD (pm_GK _ _ _ _ _ _ _ _ _ _) 5 0 rfl rfl (cwV 3 htsL gL_law_X5_can rfl rfl rfl (by decide +kernel) ⟨(Nat.le_of_ble_eq_true rfl), (Nat.le_of_ble_eq_true rfl)⟩) rfl hl.1 rfl (Nat.le_of_ble_eq_true rfl) dL_law_489 ⟨(Nat.le_of_ble_eq_true rfl), (Nat.le_of_ble_eq_true rfl)⟩
  refine mcx_i (wr := ((wK cI aE0 aE1 aE2 aE3 aE4 aE5 kE) ++ (wK cI aF0 aF1 aF2 aF3 aF4 aF5 kF) ++ (wP cI aP0 aP1 pp) ++ (wD cI aD0 aD1 aD2 aD3 aD4 aT0 dy) ++ (wK cI aT0 aT1 aT2 aT3 aT4 aT5 kT) ++ (wM cI aM0 aM1 aM2 mm) ++ (wC cJ aC0 aC1 ch) ++ (wR cI cJ cZ aR0 aR1 aR2 aR3 aR4 aR5 aR6 aR7 aR8 aR9 aR10 aR11 aR12 aR13 aR14 aR15 aR16 aR17 aR18 aR19 aR20 aR21 lv sg pd ac dd hd le bd my lf pa kp))) hr hP hD hS hA (pm_GK _ _ _ _ _ _ _ _ _ _) (wn := fun _ => ((wG  aG0 aK0 aE0 aF0 aP0 aD0 aM0 aC0 gg) ++ (wK cI aK0 aK1 aK2 aK3 aK4 aK5 k) ++ (wK cI aE0 aE1 aE2 aE3 aE4 aE5 kE) ++ (wK cI aF0 aF1 aF2 aF3 aF4 aF5 kF) ++ (wP cI aP0 aP1 pp) ++ (wD cI aD0 aD1 aD2 aD3 aD4 aT0 dy) ++ (wK cI aT0 aT1 aT2 aT3 aT4 aT5 kT) ++ (wM cI aM0 aM1 aM2 mm) ++ (wC cJ aC0 aC1 ch) ++ (wR cI cJ cZ aR0 aR1 aR2 aR3 aR4 aR5 aR6 aR7 aR8 aR9 aR10 aR11 aR12 aR13 aR14 aR15 aR16 aR17 aR18 aR19 aR20 aR21 lv sg pd ac dd hd le bd my lf pa kp))) (fun _ => (pm_GK _ _ _ _ _ _ _ _ _ _)) (fun r_489 _ H locs hw_489 hP hD hS => ?_)
  have hP : va_P δ vwCl ((wG  aG0 aK0 aE0 aF0 aP0 aD0 aM0 aC0 gg) ++ (wK cI aK0 aK1 aK2 aK3 aK4 aK5 k) ++ (wK cI aE0 aE1 aE2 aE3 aE4 aE5 kE) ++ (wK cI aF0 aF1 aF2 aF3 aF4 aF5 kF) ++ (wP cI aP0 aP1 pp) ++ (wD cI aD0 aD1 aD2 aD3 aD4 aT0 dy) ++ (wK cI aT0 aT1 aT2 aT3 aT4 aT5 kT) ++ (wM cI aM0 aM1 aM2 mm) ++ (wC cJ aC0 aC1 ch) ++ (wR cI cJ cZ aR0 aR1 aR2 aR3 aR4 aR5 aR6 aR7 aR8 aR9 aR10 aR11 aR12 aR13 aR14 aR15 aR16 aR17 aR18 aR19 aR20 aR21 lv sg pd ac dd hd le bd my lf pa kp)) H := hP
  have hD : va_D (fun q : Nat => s.heap.size ≤ q) ((wG  aG0 aK0 aE0 aF0 aP0 aD0 aM0 aC0 gg) ++ (wK cI aK0 aK1 aK2 aK3 aK4 aK5 k) ++ (wK cI aE0 aE1 aE2 aE3 aE4 aE5 kE) ++ (wK cI aF0 aF1 aF2 aF3 aF4 aF5 kF) ++ (wP cI aP0 aP1 pp) ++ (wD cI aD0 aD1 aD2 aD3 aD4 aT0 dy) ++ (wK cI aT0 aT1 aT2 aT3 aT4 aT5 kT) ++ (wM cI aM0 aM1 aM2 mm) ++ (wC cJ aC0 aC1 ch) ++ (wR cI cJ cZ aR0 aR1 aR2 aR3 aR4 aR5 aR6 aR7 aR8 aR9 aR10 aR11 aR12 aR13 aR14 aR15 aR16 aR17 aR18 aR19 aR20 aR21 lv sg pd ac dd hd le bd my lf pa kp)) := hD
  refine lv_aload_n hx hb dL_law_492 rfl (lv_at hl 2 rfl) ?_
  refine lv_aload_n hx hb dL_law_493 rfl (lv_at hl 0 rfl) ?_
  refine lv_iload_n hx hb dL_law_494 rfl (lv_at hl 3 rfl) ?_
  refine lv_iconst (v := (1 : Int32)) hx hb dL_law_495 (by decide) ?_
  refine lv_iadd hx hb dL_law_496 ?_
  refine lv_topi (fun y_496 e_496 => ?_)
  obtain rfl : y_496 = (nI (i + 1)) := e_496.trans (nI_add i 1)
  refine va_sld hx hb hX hbl hbA hS (vp_in_nI (by omega) (by omega)) dL_law_497 ?_
  refine lv_aload_n hx hb dL_law_498 rfl (lv_at hl 0 rfl) ?_
  refine lv_iload_n hx hb dL_law_499 rfl (lv_at hl 3 rfl) ?_
  refine lv_iconst (v := (2 : Int32)) hx hb dL_law_500 (by decide) ?_
  refine lv_iadd hx hb dL_law_501 ?_
  refine lv_topi (fun y_501 e_501 => ?_)
  obtain rfl : y_501 = (nI (i + 2)) := e_501.trans (nI_add i 2)
  refine va_sld hx hb hX hbl hbA hS (vp_in_nI (by omega) (by omega)) dL_law_502 ?_
  refine lv_aload_n hx hb dL_law_503 rfl (lv_at hl 0 rfl) ?_
  refine lv_iload_n hx hb dL_law_504 rfl (lv_at hl 3 rfl) ?_
  refine lv_iconst (v := (3 : Int32)) hx hb dL_law_505 (by decide) ?_
  refine lv_iadd hx hb dL_law_506 ?_
  refine lv_topi (fun y_506 e_506 => ?_)
  obtain rfl : y_506 = (nI (i + 3)) := e_506.trans (nI_add i 3)
  refine va_sld hx hb hX hbl hbA hS (vp_in_nI (by omega) (by omega)) dL_law_507 ?_
  have hr := mrVx (p := p) (e := e) (R := room_1) (below := below) (meth := meth) (H := H) (locs := locs) (ls := ls) (cells := 59) (slots := 2755) (As := [.int (xs (nI (i + 1)).toNatClampNeg), .int (xs (nI (i + 2)).toNatClampNeg), .int (xs (nI (i + 3)).toNatClampNeg)]) (rest := [.int r_489]) (c_X6_can l δ cI cJ cZ aR0 aR1 aR2 aR3 aR4 aR5 aR6 aR7 aR8 aR9 aR10 aR11 aR12 aR13 aR14 aR15 aR16 aR17 aR18 aR19 aR20 aR21 lv sg pd ac dd hd le bd my lf pa kp (xs (nI (i + 1)).toNatClampNeg) (xs (nI (i + 2)).toNatClampNeg) (xs (nI (i + 3)).toNatClampNeg)) hx hb hml htsL hown hK hNW hP hD (pm_R _ _ _ _ _ _ _ _ _ _) 6 0 rfl rfl (cwV 3 htsL gL_law_X6_can rfl rfl rfl (by decide +kernel) ⟨(Nat.le_of_ble_eq_true rfl), (Nat.le_of_ble_eq_true rfl)⟩) rfl hl.1 rfl (Nat.le_of_ble_eq_true rfl) dL_law_508 ⟨(Nat.le_of_ble_eq_true rfl), (Nat.le_of_ble_eq_true rfl)⟩
  refine mcx_i (wr := ((wG  aG0 aK0 aE0 aF0 aP0 aD0 aM0 aC0 gg) ++ (wK cI aK0 aK1 aK2 aK3 aK4 aK5 k) ++ (wK cI aE0 aE1 aE2 aE3 aE4 aE5 kE) ++ (wK cI aF0 aF1 aF2 aF3 aF4 aF5 kF) ++ (wP cI aP0 aP1 pp) ++ (wD cI aD0 aD1 aD2 aD3 aD4 aT0 dy) ++ (wK cI aT0 aT1 aT2 aT3 aT4 aT5 kT) ++ (wM cI aM0 aM1 aM2 mm) ++ (wC cJ aC0 aC1 ch))) hr hP hD hS hA (pm_R _ _ _ _ _ _ _ _ _ _) (wn := fun _ => ((wG  aG0 aK0 aE0 aF0 aP0 aD0 aM0 aC0 gg) ++ (wK cI aK0 aK1 aK2 aK3 aK4 aK5 k) ++ (wK cI aE0 aE1 aE2 aE3 aE4 aE5 kE) ++ (wK cI aF0 aF1 aF2 aF3 aF4 aF5 kF) ++ (wP cI aP0 aP1 pp) ++ (wD cI aD0 aD1 aD2 aD3 aD4 aT0 dy) ++ (wK cI aT0 aT1 aT2 aT3 aT4 aT5 kT) ++ (wM cI aM0 aM1 aM2 mm) ++ (wC cJ aC0 aC1 ch) ++ (wR cI cJ cZ aR0 aR1 aR2 aR3 aR4 aR5 aR6 aR7 aR8 aR9 aR10 aR11 aR12 aR13 aR14 aR15 aR16 aR17 aR18 aR19 aR20 aR21 lv sg pd ac dd hd le bd my lf pa kp))) (fun _ => (pm_R _ _ _ _ _ _ _ _ _ _)) (fun r_508 _ H locs hw_508 hP hD hS => ?_)
  have hP : va_P δ vwCl ((wG  aG0 aK0 aE0 aF0 aP0 aD0 aM0 aC0 gg) ++ (wK cI aK0 aK1 aK2 aK3 aK4 aK5 k) ++ (wK cI aE0 aE1 aE2 aE3 aE4 aE5 kE) ++ (wK cI aF0 aF1 aF2 aF3 aF4 aF5 kF) ++ (wP cI aP0 aP1 pp) ++ (wD cI aD0 aD1 aD2 aD3 aD4 aT0 dy) ++ (wK cI aT0 aT1 aT2 aT3 aT4 aT5 kT) ++ (wM cI aM0 aM1 aM2 mm) ++ (wC cJ aC0 aC1 ch) ++ (wR cI cJ cZ aR0 aR1 aR2 aR3 aR4 aR5 aR6 aR7 aR8 aR9 aR10 aR11 aR12 aR13 aR14 aR15 aR16 aR17 aR18 aR19 aR20 aR21 lv sg pd ac dd hd le bd my lf pa kp)) H := hP
  have hD : va_D (fun q : Nat => s.heap.size ≤ q) ((wG  aG0 aK0 aE0 aF0 aP0 aD0 aM0 aC0 gg) ++ (wK cI aK0 aK1 aK2 aK3 aK4 aK5 k) ++ (wK cI aE0 aE1 aE2 aE3 aE4 aE5 kE) ++ (wK cI aF0 aF1 aF2 aF3 aF4 aF5 kF) ++ (wP cI aP0 aP1 pp) ++ (wD cI aD0 aD1 aD2 aD3 aD4 aT0 dy) ++ (wK cI aT0 aT1 aT2 aT3 aT4 aT5 kT) ++ (wM cI aM0 aM1 aM2 mm) ++ (wC cJ aC0 aC1 ch) ++ (wR cI cJ cZ aR0 aR1 aR2 aR3 aR4 aR5 aR6 aR7 aR8 aR9 aR10 aR11 aR12 aR13 aR14 aR15 aR16 aR17 aR18 aR19 aR20 aR21 lv sg pd ac dd hd le bd my lf pa kp)) := hD
  refine lv_icmp_eq (tgt := 1038) hx hb dL_law_511 (by decide) (fun c_511 => ?_) (fun c_511 => ?_)
  · skip
    have hap := api_can hrel hw_489 hw_508
    have hrel := hap.2
    refine lv_iinc (v := nI (i + 6)) (lv' := [(3, .int (nI (i + 6))), (0, .ref b), (1, .ref aG0), (2, .ref aR0)]) hx hb dL_law_1038 hl (k := 3) rfl (nI_add i 6) (by decide) rfl (fun ls hl => ?_)
    refine lv_goto (tgt := 18) hx hb dL_law_1041 (by decide) ?_
    exact ih gg k kE kF pp dy kT mm ch lv sg pd ac dd hd le bd my lf pa kp _ _ hrel hP hD hS ls (lv_sub hl [1, 2, 3, 0] rfl)
  · skip
    have hap := api_can hrel hw_489 hw_508
    exact absurd hap.1 c_511
set_option maxHeartbeats 40000000 in
set_option maxRecDepth 100000 in
theorem law_c14 {p : Program} {l : Launch} {e : Env} {s : State} {m : MethodId} {below : List Frame} {meth : Method} {c : Code} {δ : va_G} {cI cJ cZ : ClassId} {b L : Nat} {xs : Nat → Int32} (hL : L ≤ 384) (C0 : lw_At p s m meth c b L xs) (hK : va_K δ vwCl (mTy cI cJ cZ) s) (hNW : mNW s) {aG0 aK0 aK1 aK2 aK3 aK4 aK5 aE0 aE1 aE2 aE3 aE4 aE5 aF0 aF1 aF2 aF3 aF4 aF5 aP0 aP1 aD0 aD1 aD2 aD3 aD4 aT0 aT1 aT2 aT3 aT4 aT5 aM0 aM1 aM2 aC0 aC1 aR0 aR1 aR2 aR3 aR4 aR5 aR6 aR7 aR8 aR9 aR10 aR11 aR12 aR13 aR14 aR15 aR16 aR17 aR18 aR19 aR20 aR21 : Nat} {i : Nat} (hi6 : i + 6 ≤ L) (ih : LInv p l e s m below meth c δ cI cJ cZ b aG0 aK0 aK1 aK2 aK3 aK4 aK5 aE0 aE1 aE2 aE3 aE4 aE5 aF0 aF1 aF2 aF3 aF4 aF5 aP0 aP1 aD0 aD1 aD2 aD3 aD4 aT0 aT1 aT2 aT3 aT4 aT5 aM0 aM1 aM2 aC0 aC1 aR0 aR1 aR2 aR3 aR4 aR5 aR6 aR7 aR8 aR9 aR10 aR11 aR12 aR13 aR14 aR15 aR16 aR17 aR18 aR19 aR20 aR21 (i + 6)) {gg : GS} {k : KS} {kE : KS} {kF : KS} {pp : PS} {dy : DS} {kT : KS} {mm : MS} {ch : CS} {lv : LV} {sg : SG} {pd : PD} {ac : AC} {dd : DD} {hd : HD} {le : LE} {bd : BD} {my : MY} {lf : LF} {pa : PA} {kp : KP} {H : Heap} {locs : List Loc} (hrel : REL gg k kE kF pp lv sg pd kp) (hP : va_P δ vwCl ((wG  aG0 aK0 aE0 aF0 aP0 aD0 aM0 aC0 gg) ++ (wK cI aK0 aK1 aK2 aK3 aK4 aK5 k) ++ (wK cI aE0 aE1 aE2 aE3 aE4 aE5 kE) ++ (wK cI aF0 aF1 aF2 aF3 aF4 aF5 kF) ++ (wP cI aP0 aP1 pp) ++ (wD cI aD0 aD1 aD2 aD3 aD4 aT0 dy) ++ (wK cI aT0 aT1 aT2 aT3 aT4 aT5 kT) ++ (wM cI aM0 aM1 aM2 mm) ++ (wC cJ aC0 aC1 ch) ++ (wR cI cJ cZ aR0 aR1 aR2 aR3 aR4 aR5 aR6 aR7 aR8 aR9 aR10 aR11 aR12 aR13 aR14 aR15 aR16 aR17 aR18 aR19 aR20 aR21 lv sg pd ac dd hd le bd my lf pa kp)) H) (hD : va_D (fun q : Nat => s.heap.size ≤ q) ((wG  aG0 aK0 aE0 aF0 aP0 aD0 aM0 aC0 gg) ++ (wK cI aK0 aK1 aK2 aK3 aK4 aK5 k) ++ (wK cI aE0 aE1 aE2 aE3 aE4 aE5 kE) ++ (wK cI aF0 aF1 aF2 aF3 aF4 aF5 kF) ++ (wP cI aP0 aP1 pp) ++ (wD cI aD0 aD1 aD2 aD3 aD4 aT0 dy) ++ (wK cI aT0 aT1 aT2 aT3 aT4 aT5 kT) ++ (wM cI aM0 aM1 aM2 mm) ++ (wC cJ aC0 aC1 ch) ++ (wR cI cJ cZ aR0 aR1 aR2 aR3 aR4 aR5 aR6 aR7 aR8 aR9 aR10 aR11 aR12 aR13 aR14 aR15 aR16 aR17 aR18 aR19 aR20 aR21 lv sg pd ac dd hd le bd my lf pa kp))) (hS : va_S (fun q : Nat => s.heap.size ≤ q) s.heap H locs) {ls : Array Slot} (hl : lv_has ls 4 [(0, .ref b), (1, .ref aG0), (2, .ref aR0), (3, .int (nI i))]) : W p l e room_1 s m #[Value.ref b] below meth c H locs 59 2755 (lw_Z below #[Value.ref b] s) (F0 m 516 ls []) := by
  obtain ⟨hx, hb, hr0, hml, hown, hts, hX, hbl, hlocks, hgv⟩ := C0
  have htsL : ∀ w ∈ wsL_law, w.before #[Value.ref b] s = true := fun w h => hts w (wsL_law_in w h)
  have hA : ∀ q : Nat, s.heap.size ≤ q → (fun q : Nat => s.heap.size ≤ q) q := fun _ h => h
  have hbA : ¬ (fun q : Nat => s.heap.size ≤ q) b := Nat.not_le.mpr hbl
  refine lv_aload_n hx hb dL_law_516 rfl (lv_at hl 1 rfl) ?_
  refine lv_aload_n hx hb dL_law_517 rfl (lv_at hl 0 rfl) ?_
  refine lv_iload_n hx hb dL_law_518 rfl (lv_at hl 3 rfl) ?_
  refine lv_iconst (v := (1 : Int32)) hx hb dL_law_519 (by decide) ?_
  refine lv_iadd hx hb dL_law_520 ?_
  refine lv_topi (fun y_520 e_520 => ?_)
  obtain rfl : y_520 = (nI (i + 1)) := e_520.trans (nI_add i 1)
  refine va_sld hx hb hX hbl hbA hS (vp_in_nI (by omega) (by omega)) dL_law_521 ?_
  refine lv_aload_n hx hb dL_law_522 rfl (lv_at hl 0 rfl) ?_
  refine lv_iload_n hx hb dL_law_523 rfl (lv_at hl 3 rfl) ?_
  refine lv_iconst (v := (2 : Int32)) hx hb dL_law_524 (by decide) ?_
  refine lv_iadd hx hb dL_law_525 ?_
  refine lv_topi (fun y_525 e_525 => ?_)
  obtain rfl : y_525 = (nI (i + 2)) := e_525.trans (nI_add i 2)
  refine va_sld hx hb hX hbl hbA hS (vp_in_nI (by omega) (by omega)) dL_law_526 ?_
  refine lv_aload_n hx hb dL_law_527 rfl (lv_at hl 0 rfl) ?_
  refine lv_iload_n hx hb dL_law_528 rfl (lv_at hl 3 rfl) ?_
  refine lv_iconst (v := (3 : Int32)) hx hb dL_law_529 (by decide) ?_
  refine lv_iadd hx hb dL_law_530 ?_
  refine lv_topi (fun y_530 e_530 => ?_)
  obtain rfl : y_530 = (nI (i + 3)) := e_530.trans (nI_add i 3)
  refine va_sld hx hb hX hbl hbA hS (vp_in_nI (by omega) (by omega)) dL_law_531 ?_
  have hr := mrVx (p := p) (e := e) (R := room_1) (below := below) (meth := meth) (H := H) (locs := locs) (ls := ls) (cells := 59) (slots := 2755) (As := [.int (xs (nI (i + 1)).toNatClampNeg), .int (xs (nI (i + 2)).toNatClampNeg), .int (xs (nI (i + 3)).toNatClampNeg)]) (rest := []) (c_X5_match l δ cI cJ cZ aG0 aK0 aK1 aK2 aK3 aK4 aK5 aM0 aM1 aM2 aE0 aF0 aP0 aD0 aC0 gg k mm (xs (nI (i + 1)).toNatClampNeg) (xs (nI (i + 2)).toNatClampNeg) (xs (nI (i + 3)).toNatClampNeg)) hx hb hml htsL hown hK hNW hP hD (pm_GKM _ _ _ _ _ _ _ _ _ _) 5 0 rfl rfl (cwV 3 htsL gL_law_X5_match rfl rfl rfl (by decide +kernel) ⟨(Nat.le_of_ble_eq_true rfl), (Nat.le_of_ble_eq_true rfl)⟩) rfl hl.1 rfl (Nat.le_of_ble_eq_true rfl) dL_law_532 ⟨(Nat.le_of_ble_eq_true rfl), (Nat.le_of_ble_eq_true rfl)⟩
  refine mcx_i (wr := ((wK cI aE0 aE1 aE2 aE3 aE4 aE5 kE) ++ (wK cI aF0 aF1 aF2 aF3 aF4 aF5 kF) ++ (wP cI aP0 aP1 pp) ++ (wD cI aD0 aD1 aD2 aD3 aD4 aT0 dy) ++ (wK cI aT0 aT1 aT2 aT3 aT4 aT5 kT) ++ (wC cJ aC0 aC1 ch) ++ (wR cI cJ cZ aR0 aR1 aR2 aR3 aR4 aR5 aR6 aR7 aR8 aR9 aR10 aR11 aR12 aR13 aR14 aR15 aR16 aR17 aR18 aR19 aR20 aR21 lv sg pd ac dd hd le bd my lf pa kp))) hr hP hD hS hA (pm_GKM _ _ _ _ _ _ _ _ _ _) (wn := fun u_532 => ((wG  aG0 aK0 aE0 aF0 aP0 aD0 aM0 aC0 gg) ++ (wK cI aK0 aK1 aK2 aK3 aK4 aK5 k) ++ (wK cI aE0 aE1 aE2 aE3 aE4 aE5 kE) ++ (wK cI aF0 aF1 aF2 aF3 aF4 aF5 kF) ++ (wP cI aP0 aP1 pp) ++ (wD cI aD0 aD1 aD2 aD3 aD4 aT0 dy) ++ (wK cI aT0 aT1 aT2 aT3 aT4 aT5 kT) ++ (wM cI aM0 aM1 aM2 u_532) ++ (wC cJ aC0 aC1 ch) ++ (wR cI cJ cZ aR0 aR1 aR2 aR3 aR4 aR5 aR6 aR7 aR8 aR9 aR10 aR11 aR12 aR13 aR14 aR15 aR16 aR17 aR18 aR19 aR20 aR21 lv sg pd ac dd hd le bd my lf pa kp))) (fun _ => (pm_GKM _ _ _ _ _ _ _ _ _ _)) (fun r_532 u_532 H locs hw_532 hP hD hS => ?_)
  have hP : va_P δ vwCl ((wG  aG0 aK0 aE0 aF0 aP0 aD0 aM0 aC0 gg) ++ (wK cI aK0 aK1 aK2 aK3 aK4 aK5 k) ++ (wK cI aE0 aE1 aE2 aE3 aE4 aE5 kE) ++ (wK cI aF0 aF1 aF2 aF3 aF4 aF5 kF) ++ (wP cI aP0 aP1 pp) ++ (wD cI aD0 aD1 aD2 aD3 aD4 aT0 dy) ++ (wK cI aT0 aT1 aT2 aT3 aT4 aT5 kT) ++ (wM cI aM0 aM1 aM2 u_532) ++ (wC cJ aC0 aC1 ch) ++ (wR cI cJ cZ aR0 aR1 aR2 aR3 aR4 aR5 aR6 aR7 aR8 aR9 aR10 aR11 aR12 aR13 aR14 aR15 aR16 aR17 aR18 aR19 aR20 aR21 lv sg pd ac dd hd le bd my lf pa kp)) H := hP
  have hD : va_D (fun q : Nat => s.heap.size ≤ q) ((wG  aG0 aK0 aE0 aF0 aP0 aD0 aM0 aC0 gg) ++ (wK cI aK0 aK1 aK2 aK3 aK4 aK5 k) ++ (wK cI aE0 aE1 aE2 aE3 aE4 aE5 kE) ++ (wK cI aF0 aF1 aF2 aF3 aF4 aF5 kF) ++ (wP cI aP0 aP1 pp) ++ (wD cI aD0 aD1 aD2 aD3 aD4 aT0 dy) ++ (wK cI aT0 aT1 aT2 aT3 aT4 aT5 kT) ++ (wM cI aM0 aM1 aM2 u_532) ++ (wC cJ aC0 aC1 ch) ++ (wR cI cJ cZ aR0 aR1 aR2 aR3 aR4 aR5 aR6 aR7 aR8 aR9 aR10 aR11 aR12 aR13 aR14 aR15 aR16 aR17 aR18 aR19 aR20 aR21 lv sg pd ac dd hd le bd my lf pa kp)) := hD
  refine lv_aload_n hx hb dL_law_535 rfl (lv_at hl 2 rfl) ?_
  refine lv_aload_n hx hb dL_law_536 rfl (lv_at hl 0 rfl) ?_
  refine lv_iload_n hx hb dL_law_537 rfl (lv_at hl 3 rfl) ?_
  refine lv_iconst (v := (1 : Int32)) hx hb dL_law_538 (by decide) ?_
  refine lv_iadd hx hb dL_law_539 ?_
  refine lv_topi (fun y_539 e_539 => ?_)
  obtain rfl : y_539 = (nI (i + 1)) := e_539.trans (nI_add i 1)
  refine va_sld hx hb hX hbl hbA hS (vp_in_nI (by omega) (by omega)) dL_law_540 ?_
  refine lv_aload_n hx hb dL_law_541 rfl (lv_at hl 0 rfl) ?_
  refine lv_iload_n hx hb dL_law_542 rfl (lv_at hl 3 rfl) ?_
  refine lv_iconst (v := (2 : Int32)) hx hb dL_law_543 (by decide) ?_
  refine lv_iadd hx hb dL_law_544 ?_
  refine lv_topi (fun y_544 e_544 => ?_)
  obtain rfl : y_544 = (nI (i + 2)) := e_544.trans (nI_add i 2)
  refine va_sld hx hb hX hbl hbA hS (vp_in_nI (by omega) (by omega)) dL_law_545 ?_
  refine lv_aload_n hx hb dL_law_546 rfl (lv_at hl 0 rfl) ?_
  refine lv_iload_n hx hb dL_law_547 rfl (lv_at hl 3 rfl) ?_
  refine lv_iconst (v := (3 : Int32)) hx hb dL_law_548 (by decide) ?_
  refine lv_iadd hx hb dL_law_549 ?_
  refine lv_topi (fun y_549 e_549 => ?_)
  obtain rfl : y_549 = (nI (i + 3)) := e_549.trans (nI_add i 3)
  refine va_sld hx hb hX hbl hbA hS (vp_in_nI (by omega) (by omega)) dL_law_550 ?_
  have hr := mrVx (p := p) (e := e) (R := room_1) (below := below) (meth := meth) (H := H) (locs := locs) (ls := ls) (cells := 59) (slots := 2755) (As := [.int (xs (nI (i + 1)).toNatClampNeg), .int (xs (nI (i + 2)).toNatClampNeg), .int (xs (nI (i + 3)).toNatClampNeg)]) (rest := [.int r_532]) (c_X6_match l δ cI cJ cZ aR0 aR1 aR2 aR3 aR4 aR5 aR6 aR7 aR8 aR9 aR10 aR11 aR12 aR13 aR14 aR15 aR16 aR17 aR18 aR19 aR20 aR21 lv sg pd ac dd hd le bd my lf pa kp (xs (nI (i + 1)).toNatClampNeg) (xs (nI (i + 2)).toNatClampNeg) (xs (nI (i + 3)).toNatClampNeg)) hx hb hml htsL hown hK hNW hP hD (pm_R _ _ _ _ _ _ _ _ _ _) 6 0 rfl rfl (cwV 3 htsL gL_law_X6_match rfl rfl rfl (by decide +kernel) ⟨(Nat.le_of_ble_eq_true rfl), (Nat.le_of_ble_eq_true rfl)⟩) rfl hl.1 rfl (Nat.le_of_ble_eq_true rfl) dL_law_551 ⟨(Nat.le_of_ble_eq_true rfl), (Nat.le_of_ble_eq_true rfl)⟩
  refine mcx_i (wr := ((wG  aG0 aK0 aE0 aF0 aP0 aD0 aM0 aC0 gg) ++ (wK cI aK0 aK1 aK2 aK3 aK4 aK5 k) ++ (wK cI aE0 aE1 aE2 aE3 aE4 aE5 kE) ++ (wK cI aF0 aF1 aF2 aF3 aF4 aF5 kF) ++ (wP cI aP0 aP1 pp) ++ (wD cI aD0 aD1 aD2 aD3 aD4 aT0 dy) ++ (wK cI aT0 aT1 aT2 aT3 aT4 aT5 kT) ++ (wM cI aM0 aM1 aM2 u_532) ++ (wC cJ aC0 aC1 ch))) hr hP hD hS hA (pm_R _ _ _ _ _ _ _ _ _ _) (wn := fun u_551 => ((wG  aG0 aK0 aE0 aF0 aP0 aD0 aM0 aC0 gg) ++ (wK cI aK0 aK1 aK2 aK3 aK4 aK5 k) ++ (wK cI aE0 aE1 aE2 aE3 aE4 aE5 kE) ++ (wK cI aF0 aF1 aF2 aF3 aF4 aF5 kF) ++ (wP cI aP0 aP1 pp) ++ (wD cI aD0 aD1 aD2 aD3 aD4 aT0 dy) ++ (wK cI aT0 aT1 aT2 aT3 aT4 aT5 kT) ++ (wM cI aM0 aM1 aM2 u_532) ++ (wC cJ aC0 aC1 ch) ++ (wR cI cJ cZ aR0 aR1 aR2 aR3 aR4 aR5 aR6 aR7 aR8 aR9 aR10 aR11 aR12 aR13 aR14 aR15 aR16 aR17 aR18 aR19 aR20 aR21 lv sg pd ac dd hd le bd u_551 lf pa kp))) (fun _ => (pm_R _ _ _ _ _ _ _ _ _ _)) (fun r_551 u_551 H locs hw_551 hP hD hS => ?_)
  have hP : va_P δ vwCl ((wG  aG0 aK0 aE0 aF0 aP0 aD0 aM0 aC0 gg) ++ (wK cI aK0 aK1 aK2 aK3 aK4 aK5 k) ++ (wK cI aE0 aE1 aE2 aE3 aE4 aE5 kE) ++ (wK cI aF0 aF1 aF2 aF3 aF4 aF5 kF) ++ (wP cI aP0 aP1 pp) ++ (wD cI aD0 aD1 aD2 aD3 aD4 aT0 dy) ++ (wK cI aT0 aT1 aT2 aT3 aT4 aT5 kT) ++ (wM cI aM0 aM1 aM2 u_532) ++ (wC cJ aC0 aC1 ch) ++ (wR cI cJ cZ aR0 aR1 aR2 aR3 aR4 aR5 aR6 aR7 aR8 aR9 aR10 aR11 aR12 aR13 aR14 aR15 aR16 aR17 aR18 aR19 aR20 aR21 lv sg pd ac dd hd le bd u_551 lf pa kp)) H := hP
  have hD : va_D (fun q : Nat => s.heap.size ≤ q) ((wG  aG0 aK0 aE0 aF0 aP0 aD0 aM0 aC0 gg) ++ (wK cI aK0 aK1 aK2 aK3 aK4 aK5 k) ++ (wK cI aE0 aE1 aE2 aE3 aE4 aE5 kE) ++ (wK cI aF0 aF1 aF2 aF3 aF4 aF5 kF) ++ (wP cI aP0 aP1 pp) ++ (wD cI aD0 aD1 aD2 aD3 aD4 aT0 dy) ++ (wK cI aT0 aT1 aT2 aT3 aT4 aT5 kT) ++ (wM cI aM0 aM1 aM2 u_532) ++ (wC cJ aC0 aC1 ch) ++ (wR cI cJ cZ aR0 aR1 aR2 aR3 aR4 aR5 aR6 aR7 aR8 aR9 aR10 aR11 aR12 aR13 aR14 aR15 aR16 aR17 aR18 aR19 aR20 aR21 lv sg pd ac dd hd le bd u_551 lf pa kp)) := hD
  refine lv_icmp_eq (tgt := 1038) hx hb dL_law_554 (by decide) (fun c_554 => ?_) (fun c_554 => ?_)
  · skip
    have hap := api_match hrel hw_532 hw_551
    have hrel := hap.2
    refine lv_iinc (v := nI (i + 6)) (lv' := [(3, .int (nI (i + 6))), (0, .ref b), (1, .ref aG0), (2, .ref aR0)]) hx hb dL_law_1038 hl (k := 3) rfl (nI_add i 6) (by decide) rfl (fun ls hl => ?_)
    refine lv_goto (tgt := 18) hx hb dL_law_1041 (by decide) ?_
    exact ih gg k kE kF pp dy kT u_532 ch lv sg pd ac dd hd le bd u_551 lf pa kp _ _ hrel hP hD hS ls (lv_sub hl [1, 2, 3, 0] rfl)
  · skip
    have hap := api_match hrel hw_532 hw_551
    exact absurd hap.1 c_554
set_option maxHeartbeats 40000000 in
set_option maxRecDepth 100000 in
theorem law_c15 {p : Program} {l : Launch} {e : Env} {s : State} {m : MethodId} {below : List Frame} {meth : Method} {c : Code} {δ : va_G} {cI cJ cZ : ClassId} {b L : Nat} {xs : Nat → Int32} (hL : L ≤ 384) (C0 : lw_At p s m meth c b L xs) (hK : va_K δ vwCl (mTy cI cJ cZ) s) (hNW : mNW s) {aG0 aK0 aK1 aK2 aK3 aK4 aK5 aE0 aE1 aE2 aE3 aE4 aE5 aF0 aF1 aF2 aF3 aF4 aF5 aP0 aP1 aD0 aD1 aD2 aD3 aD4 aT0 aT1 aT2 aT3 aT4 aT5 aM0 aM1 aM2 aC0 aC1 aR0 aR1 aR2 aR3 aR4 aR5 aR6 aR7 aR8 aR9 aR10 aR11 aR12 aR13 aR14 aR15 aR16 aR17 aR18 aR19 aR20 aR21 : Nat} {i : Nat} (hi6 : i + 6 ≤ L) (ih : LInv p l e s m below meth c δ cI cJ cZ b aG0 aK0 aK1 aK2 aK3 aK4 aK5 aE0 aE1 aE2 aE3 aE4 aE5 aF0 aF1 aF2 aF3 aF4 aF5 aP0 aP1 aD0 aD1 aD2 aD3 aD4 aT0 aT1 aT2 aT3 aT4 aT5 aM0 aM1 aM2 aC0 aC1 aR0 aR1 aR2 aR3 aR4 aR5 aR6 aR7 aR8 aR9 aR10 aR11 aR12 aR13 aR14 aR15 aR16 aR17 aR18 aR19 aR20 aR21 (i + 6)) {gg : GS} {k : KS} {kE : KS} {kF : KS} {pp : PS} {dy : DS} {kT : KS} {mm : MS} {ch : CS} {lv : LV} {sg : SG} {pd : PD} {ac : AC} {dd : DD} {hd : HD} {le : LE} {bd : BD} {my : MY} {lf : LF} {pa : PA} {kp : KP} {H : Heap} {locs : List Loc} (hrel : REL gg k kE kF pp lv sg pd kp) (hP : va_P δ vwCl ((wG  aG0 aK0 aE0 aF0 aP0 aD0 aM0 aC0 gg) ++ (wK cI aK0 aK1 aK2 aK3 aK4 aK5 k) ++ (wK cI aE0 aE1 aE2 aE3 aE4 aE5 kE) ++ (wK cI aF0 aF1 aF2 aF3 aF4 aF5 kF) ++ (wP cI aP0 aP1 pp) ++ (wD cI aD0 aD1 aD2 aD3 aD4 aT0 dy) ++ (wK cI aT0 aT1 aT2 aT3 aT4 aT5 kT) ++ (wM cI aM0 aM1 aM2 mm) ++ (wC cJ aC0 aC1 ch) ++ (wR cI cJ cZ aR0 aR1 aR2 aR3 aR4 aR5 aR6 aR7 aR8 aR9 aR10 aR11 aR12 aR13 aR14 aR15 aR16 aR17 aR18 aR19 aR20 aR21 lv sg pd ac dd hd le bd my lf pa kp)) H) (hD : va_D (fun q : Nat => s.heap.size ≤ q) ((wG  aG0 aK0 aE0 aF0 aP0 aD0 aM0 aC0 gg) ++ (wK cI aK0 aK1 aK2 aK3 aK4 aK5 k) ++ (wK cI aE0 aE1 aE2 aE3 aE4 aE5 kE) ++ (wK cI aF0 aF1 aF2 aF3 aF4 aF5 kF) ++ (wP cI aP0 aP1 pp) ++ (wD cI aD0 aD1 aD2 aD3 aD4 aT0 dy) ++ (wK cI aT0 aT1 aT2 aT3 aT4 aT5 kT) ++ (wM cI aM0 aM1 aM2 mm) ++ (wC cJ aC0 aC1 ch) ++ (wR cI cJ cZ aR0 aR1 aR2 aR3 aR4 aR5 aR6 aR7 aR8 aR9 aR10 aR11 aR12 aR13 aR14 aR15 aR16 aR17 aR18 aR19 aR20 aR21 lv sg pd ac dd hd le bd my lf pa kp))) (hS : va_S (fun q : Nat => s.heap.size ≤ q) s.heap H locs) {ls : Array Slot} (hl : lv_has ls 4 [(0, .ref b), (1, .ref aG0), (2, .ref aR0), (3, .int (nI i))]) : W p l e room_1 s m #[Value.ref b] below meth c H locs 59 2755 (lw_Z below #[Value.ref b] s) (F0 m 559 ls []) := by
  obtain ⟨hx, hb, hr0, hml, hown, hts, hX, hbl, hlocks, hgv⟩ := C0
  have htsL : ∀ w ∈ wsL_law, w.before #[Value.ref b] s = true := fun w h => hts w (wsL_law_in w h)
  have hA : ∀ q : Nat, s.heap.size ≤ q → (fun q : Nat => s.heap.size ≤ q) q := fun _ h => h
  have hbA : ¬ (fun q : Nat => s.heap.size ≤ q) b := Nat.not_le.mpr hbl
  refine lv_aload_n hx hb dL_law_559 rfl (lv_at hl 1 rfl) ?_
  refine lv_aload_n hx hb dL_law_560 rfl (lv_at hl 0 rfl) ?_
  refine lv_iload_n hx hb dL_law_561 rfl (lv_at hl 3 rfl) ?_
  refine lv_iconst (v := (1 : Int32)) hx hb dL_law_562 (by decide) ?_
  refine lv_iadd hx hb dL_law_563 ?_
  refine lv_topi (fun y_563 e_563 => ?_)
  obtain rfl : y_563 = (nI (i + 1)) := e_563.trans (nI_add i 1)
  refine va_sld hx hb hX hbl hbA hS (vp_in_nI (by omega) (by omega)) dL_law_564 ?_
  refine lv_aload_n hx hb dL_law_565 rfl (lv_at hl 0 rfl) ?_
  refine lv_iload_n hx hb dL_law_566 rfl (lv_at hl 3 rfl) ?_
  refine lv_iconst (v := (2 : Int32)) hx hb dL_law_567 (by decide) ?_
  refine lv_iadd hx hb dL_law_568 ?_
  refine lv_topi (fun y_568 e_568 => ?_)
  obtain rfl : y_568 = (nI (i + 2)) := e_568.trans (nI_add i 2)
  refine va_sld hx hb hX hbl hbA hS (vp_in_nI (by omega) (by omega)) dL_law_569 ?_
  have hr := mrVx (p := p) (e := e) (R := room_1) (below := below) (meth := meth) (H := H) (locs := locs) (ls := ls) (cells := 59) (slots := 2755) (As := [.int (xs (nI (i + 1)).toNatClampNeg), .int (xs (nI (i + 2)).toNatClampNeg)]) (rest := []) (c_X5_all l δ cI cJ cZ aG0 aK0 aK1 aK2 aK3 aK4 aK5 aE0 aF0 aP0 aD0 aM0 aC0 gg k (xs (nI (i + 1)).toNatClampNeg) (xs (nI (i + 2)).toNatClampNeg)) hx hb hml htsL hown hK hNW hP hD (pm_GK _ _ _ _ _ _ _ _ _ _) 5 0 rfl rfl (cwV 2 htsL gL_law_X5_all rfl rfl rfl (by decide +kernel) ⟨(Nat.le_of_ble_eq_true rfl), (Nat.le_of_ble_eq_true rfl)⟩) rfl hl.1 rfl (Nat.le_of_ble_eq_true rfl) dL_law_570 ⟨(Nat.le_of_ble_eq_true rfl), (Nat.le_of_ble_eq_true rfl)⟩
  refine mcx_i (wr := ((wK cI aE0 aE1 aE2 aE3 aE4 aE5 kE) ++ (wK cI aF0 aF1 aF2 aF3 aF4 aF5 kF) ++ (wP cI aP0 aP1 pp) ++ (wD cI aD0 aD1 aD2 aD3 aD4 aT0 dy) ++ (wK cI aT0 aT1 aT2 aT3 aT4 aT5 kT) ++ (wM cI aM0 aM1 aM2 mm) ++ (wC cJ aC0 aC1 ch) ++ (wR cI cJ cZ aR0 aR1 aR2 aR3 aR4 aR5 aR6 aR7 aR8 aR9 aR10 aR11 aR12 aR13 aR14 aR15 aR16 aR17 aR18 aR19 aR20 aR21 lv sg pd ac dd hd le bd my lf pa kp))) hr hP hD hS hA (pm_GK _ _ _ _ _ _ _ _ _ _) (wn := fun _ => ((wG  aG0 aK0 aE0 aF0 aP0 aD0 aM0 aC0 gg) ++ (wK cI aK0 aK1 aK2 aK3 aK4 aK5 k) ++ (wK cI aE0 aE1 aE2 aE3 aE4 aE5 kE) ++ (wK cI aF0 aF1 aF2 aF3 aF4 aF5 kF) ++ (wP cI aP0 aP1 pp) ++ (wD cI aD0 aD1 aD2 aD3 aD4 aT0 dy) ++ (wK cI aT0 aT1 aT2 aT3 aT4 aT5 kT) ++ (wM cI aM0 aM1 aM2 mm) ++ (wC cJ aC0 aC1 ch) ++ (wR cI cJ cZ aR0 aR1 aR2 aR3 aR4 aR5 aR6 aR7 aR8 aR9 aR10 aR11 aR12 aR13 aR14 aR15 aR16 aR17 aR18 aR19 aR20 aR21 lv sg pd ac dd hd le bd my lf pa kp))) (fun _ => (pm_GK _ _ _ _ _ _ _ _ _ _)) (fun r_570 _ H locs hw_570 hP hD hS => ?_)
  have hP : va_P δ vwCl ((wG  aG0 aK0 aE0 aF0 aP0 aD0 aM0 aC0 gg) ++ (wK cI aK0 aK1 aK2 aK3 aK4 aK5 k) ++ (wK cI aE0 aE1 aE2 aE3 aE4 aE5 kE) ++ (wK cI aF0 aF1 aF2 aF3 aF4 aF5 kF) ++ (wP cI aP0 aP1 pp) ++ (wD cI aD0 aD1 aD2 aD3 aD4 aT0 dy) ++ (wK cI aT0 aT1 aT2 aT3 aT4 aT5 kT) ++ (wM cI aM0 aM1 aM2 mm) ++ (wC cJ aC0 aC1 ch) ++ (wR cI cJ cZ aR0 aR1 aR2 aR3 aR4 aR5 aR6 aR7 aR8 aR9 aR10 aR11 aR12 aR13 aR14 aR15 aR16 aR17 aR18 aR19 aR20 aR21 lv sg pd ac dd hd le bd my lf pa kp)) H := hP
  have hD : va_D (fun q : Nat => s.heap.size ≤ q) ((wG  aG0 aK0 aE0 aF0 aP0 aD0 aM0 aC0 gg) ++ (wK cI aK0 aK1 aK2 aK3 aK4 aK5 k) ++ (wK cI aE0 aE1 aE2 aE3 aE4 aE5 kE) ++ (wK cI aF0 aF1 aF2 aF3 aF4 aF5 kF) ++ (wP cI aP0 aP1 pp) ++ (wD cI aD0 aD1 aD2 aD3 aD4 aT0 dy) ++ (wK cI aT0 aT1 aT2 aT3 aT4 aT5 kT) ++ (wM cI aM0 aM1 aM2 mm) ++ (wC cJ aC0 aC1 ch) ++ (wR cI cJ cZ aR0 aR1 aR2 aR3 aR4 aR5 aR6 aR7 aR8 aR9 aR10 aR11 aR12 aR13 aR14 aR15 aR16 aR17 aR18 aR19 aR20 aR21 lv sg pd ac dd hd le bd my lf pa kp)) := hD
  refine lv_aload_n hx hb dL_law_573 rfl (lv_at hl 2 rfl) ?_
  refine lv_aload_n hx hb dL_law_574 rfl (lv_at hl 0 rfl) ?_
  refine lv_iload_n hx hb dL_law_575 rfl (lv_at hl 3 rfl) ?_
  refine lv_iconst (v := (1 : Int32)) hx hb dL_law_576 (by decide) ?_
  refine lv_iadd hx hb dL_law_577 ?_
  refine lv_topi (fun y_577 e_577 => ?_)
  obtain rfl : y_577 = (nI (i + 1)) := e_577.trans (nI_add i 1)
  refine va_sld hx hb hX hbl hbA hS (vp_in_nI (by omega) (by omega)) dL_law_578 ?_
  refine lv_aload_n hx hb dL_law_579 rfl (lv_at hl 0 rfl) ?_
  refine lv_iload_n hx hb dL_law_580 rfl (lv_at hl 3 rfl) ?_
  refine lv_iconst (v := (2 : Int32)) hx hb dL_law_581 (by decide) ?_
  refine lv_iadd hx hb dL_law_582 ?_
  refine lv_topi (fun y_582 e_582 => ?_)
  obtain rfl : y_582 = (nI (i + 2)) := e_582.trans (nI_add i 2)
  refine va_sld hx hb hX hbl hbA hS (vp_in_nI (by omega) (by omega)) dL_law_583 ?_
  have hr := mrVx (p := p) (e := e) (R := room_1) (below := below) (meth := meth) (H := H) (locs := locs) (ls := ls) (cells := 59) (slots := 2755) (As := [.int (xs (nI (i + 1)).toNatClampNeg), .int (xs (nI (i + 2)).toNatClampNeg)]) (rest := [.int r_570]) (c_X6_all l δ cI cJ cZ aR0 aR1 aR2 aR3 aR4 aR5 aR6 aR7 aR8 aR9 aR10 aR11 aR12 aR13 aR14 aR15 aR16 aR17 aR18 aR19 aR20 aR21 lv sg pd ac dd hd le bd my lf pa kp (xs (nI (i + 1)).toNatClampNeg) (xs (nI (i + 2)).toNatClampNeg)) hx hb hml htsL hown hK hNW hP hD (pm_R _ _ _ _ _ _ _ _ _ _) 6 0 rfl rfl (cwV 2 htsL gL_law_X6_all rfl rfl rfl (by decide +kernel) ⟨(Nat.le_of_ble_eq_true rfl), (Nat.le_of_ble_eq_true rfl)⟩) rfl hl.1 rfl (Nat.le_of_ble_eq_true rfl) dL_law_584 ⟨(Nat.le_of_ble_eq_true rfl), (Nat.le_of_ble_eq_true rfl)⟩
  refine mcx_i (wr := ((wG  aG0 aK0 aE0 aF0 aP0 aD0 aM0 aC0 gg) ++ (wK cI aK0 aK1 aK2 aK3 aK4 aK5 k) ++ (wK cI aE0 aE1 aE2 aE3 aE4 aE5 kE) ++ (wK cI aF0 aF1 aF2 aF3 aF4 aF5 kF) ++ (wP cI aP0 aP1 pp) ++ (wD cI aD0 aD1 aD2 aD3 aD4 aT0 dy) ++ (wK cI aT0 aT1 aT2 aT3 aT4 aT5 kT) ++ (wM cI aM0 aM1 aM2 mm) ++ (wC cJ aC0 aC1 ch))) hr hP hD hS hA (pm_R _ _ _ _ _ _ _ _ _ _) (wn := fun _ => ((wG  aG0 aK0 aE0 aF0 aP0 aD0 aM0 aC0 gg) ++ (wK cI aK0 aK1 aK2 aK3 aK4 aK5 k) ++ (wK cI aE0 aE1 aE2 aE3 aE4 aE5 kE) ++ (wK cI aF0 aF1 aF2 aF3 aF4 aF5 kF) ++ (wP cI aP0 aP1 pp) ++ (wD cI aD0 aD1 aD2 aD3 aD4 aT0 dy) ++ (wK cI aT0 aT1 aT2 aT3 aT4 aT5 kT) ++ (wM cI aM0 aM1 aM2 mm) ++ (wC cJ aC0 aC1 ch) ++ (wR cI cJ cZ aR0 aR1 aR2 aR3 aR4 aR5 aR6 aR7 aR8 aR9 aR10 aR11 aR12 aR13 aR14 aR15 aR16 aR17 aR18 aR19 aR20 aR21 lv sg pd ac dd hd le bd my lf pa kp))) (fun _ => (pm_R _ _ _ _ _ _ _ _ _ _)) (fun r_584 _ H locs hw_584 hP hD hS => ?_)
  have hP : va_P δ vwCl ((wG  aG0 aK0 aE0 aF0 aP0 aD0 aM0 aC0 gg) ++ (wK cI aK0 aK1 aK2 aK3 aK4 aK5 k) ++ (wK cI aE0 aE1 aE2 aE3 aE4 aE5 kE) ++ (wK cI aF0 aF1 aF2 aF3 aF4 aF5 kF) ++ (wP cI aP0 aP1 pp) ++ (wD cI aD0 aD1 aD2 aD3 aD4 aT0 dy) ++ (wK cI aT0 aT1 aT2 aT3 aT4 aT5 kT) ++ (wM cI aM0 aM1 aM2 mm) ++ (wC cJ aC0 aC1 ch) ++ (wR cI cJ cZ aR0 aR1 aR2 aR3 aR4 aR5 aR6 aR7 aR8 aR9 aR10 aR11 aR12 aR13 aR14 aR15 aR16 aR17 aR18 aR19 aR20 aR21 lv sg pd ac dd hd le bd my lf pa kp)) H := hP
  have hD : va_D (fun q : Nat => s.heap.size ≤ q) ((wG  aG0 aK0 aE0 aF0 aP0 aD0 aM0 aC0 gg) ++ (wK cI aK0 aK1 aK2 aK3 aK4 aK5 k) ++ (wK cI aE0 aE1 aE2 aE3 aE4 aE5 kE) ++ (wK cI aF0 aF1 aF2 aF3 aF4 aF5 kF) ++ (wP cI aP0 aP1 pp) ++ (wD cI aD0 aD1 aD2 aD3 aD4 aT0 dy) ++ (wK cI aT0 aT1 aT2 aT3 aT4 aT5 kT) ++ (wM cI aM0 aM1 aM2 mm) ++ (wC cJ aC0 aC1 ch) ++ (wR cI cJ cZ aR0 aR1 aR2 aR3 aR4 aR5 aR6 aR7 aR8 aR9 aR10 aR11 aR12 aR13 aR14 aR15 aR16 aR17 aR18 aR19 aR20 aR21 lv sg pd ac dd hd le bd my lf pa kp)) := hD
  refine lv_icmp_eq (tgt := 1038) hx hb dL_law_587 (by decide) (fun c_587 => ?_) (fun c_587 => ?_)
  · skip
    have hap := api_all hrel hw_570 hw_584
    have hrel := hap.2
    refine lv_iinc (v := nI (i + 6)) (lv' := [(3, .int (nI (i + 6))), (0, .ref b), (1, .ref aG0), (2, .ref aR0)]) hx hb dL_law_1038 hl (k := 3) rfl (nI_add i 6) (by decide) rfl (fun ls hl => ?_)
    refine lv_goto (tgt := 18) hx hb dL_law_1041 (by decide) ?_
    exact ih gg k kE kF pp dy kT mm ch lv sg pd ac dd hd le bd my lf pa kp _ _ hrel hP hD hS ls (lv_sub hl [1, 2, 3, 0] rfl)
  · skip
    have hap := api_all hrel hw_570 hw_584
    exact absurd hap.1 c_587
