abbrev rm_X6_forget : Room := { frames := 0, cells := 0, slots := 0, locals := 0 }
set_option maxHeartbeats 4000000 in
set_option maxRecDepth 100000 in
theorem c_X6_forget (l : Launch) (δ : va_G) (cI cJ cZ : ClassId) (aR0 aR1 aR2 aR3 aR4 aR5 aR6 aR7 aR8 aR9 aR10 aR11 aR12 aR13 aR14 aR15 aR16 aR17 aR18 aR19 aR20 aR21 : Nat) (lv : LV) (sg : SG) (pd : PD) (ac : AC) (dd : DD) (hd : HD) (le : LE) (bd : BD) (my : MY) (lf : LF) (pa : PA) (kp : KP) : mMi l δ (mTy cI cJ cZ) yX6_forget wsX6_forget rm_X6_forget [.ref aR0] (wR cI cJ cZ aR0 aR1 aR2 aR3 aR4 aR5 aR6 aR7 aR8 aR9 aR10 aR11 aR12 aR13 aR14 aR15 aR16 aR17 aR18 aR19 aR20 aR21 lv sg pd ac dd hd le bd my lf pa kp) (S := SG) (fun r u => F_X6_forget sg = (r, u)) (fun u => (wR cI cJ cZ aR0 aR1 aR2 aR3 aR4 aR5 aR6 aR7 aR8 aR9 aR10 aR11 aR12 aR13 aR14 aR15 aR16 aR17 aR18 aR19 aR20 aR21 lv u pd ac dd hd le bd my lf pa kp)) := by
  refine mk_i (cc := cX6_forget) (maxL := 2) (by decide) rfl (Nat.le_of_ble_eq_true rfl) ?_
  intro p e s m args below meth c A Q ls H locs hx hb hml hts hown hK hNW hA hP hD hS hl hret
  have hown : s.vm.findClass RX6 = some m.cls := hown
  have hl : lv_has ls 2 [(0, .ref aR0)] := hl
  have hinX6 : ∀ w ∈ u_ws RX6 TX6 34, w ∈ wsX6_forget := (fun _ h => List.mem_cons_of_mem _ (List.mem_append_right _ (h)))
  have hR := F_X6_forget.eq_1 sg
  refine lv_aload_n hx hb dX6_forget_0 rfl (lv_at hl 0 rfl) ?_
  refine va_get (D := δ) (ci := 6) (v := .int (sSights sg)) (C := RX6) (T := TX6) (N := 34) hx hb hts hinX6 hown hK hP 0 rfl rfl 9 (by decide) (hts (.fieldLink RX6 252 "GloveHoursModel" "sights" "I") (List.mem_of_getElem? (i := 1) rfl)) (fun _ h9 => h9) rfl dX6_forget_1 ?_
  refine lv_istore_n (lv' := [(1, .int (sSights sg)), (0, .ref aR0)]) hx hb dX6_forget_4 rfl hl (by decide) rfl (fun ls hl => ?_)
  refine lv_aload_n hx hb dX6_forget_5 rfl (lv_at hl 1 rfl) ?_
  refine lv_iconst (v := (0 : Int32)) hx hb dX6_forget_6 (by decide) ?_
  refine va_put (D := δ) (ci := 6) (v := .int (0 : Int32)) (ty := .int) (C := RX6) (T := TX6) (N := 34) hx hb hts hinX6 tyX6 tyX6_ok nmX6 hown hK hP hD hS 0 rfl rfl 9 (by decide) (hts (.fieldLink RX6 252 "GloveHoursModel" "sights" "I") (List.mem_of_getElem? (i := 1) rfl)) (fun _ h9 => h9) rfl (by decide +kernel) rfl rfl (Nat.le_of_ble_eq_true rfl) dX6_forget_7 (fun H locs hP hD hS => ?_)
  have hP : va_P δ vwCl (wR cI cJ cZ aR0 aR1 aR2 aR3 aR4 aR5 aR6 aR7 aR8 aR9 aR10 aR11 aR12 aR13 aR14 aR15 aR16 aR17 aR18 aR19 aR20 aR21 lv ((0 : Int32), sSightHour sg, sSightOwned sg) pd ac dd hd le bd my lf pa kp) H := hP
  have hD : va_D A (wR cI cJ cZ aR0 aR1 aR2 aR3 aR4 aR5 aR6 aR7 aR8 aR9 aR10 aR11 aR12 aR13 aR14 aR15 aR16 aR17 aR18 aR19 aR20 aR21 lv ((0 : Int32), sSightHour sg, sSightOwned sg) pd ac dd hd le bd my lf pa kp) := hD
  refine lv_iload_n hx hb dX6_forget_10 rfl (lv_at hl 0 rfl) ?_
  exact hret _ _ (sSights sg) ((0 : Int32), sSightHour sg, sSightOwned sg) _ _ hR hP hD hS dX6_forget_11

abbrev rm_X6_wore : Room := { frames := 4, cells := 0, slots := 0, locals := 91 }
set_option maxHeartbeats 4000000 in
set_option maxRecDepth 100000 in
theorem c_X6_wore (l : Launch) (δ : va_G) (cI cJ cZ : ClassId) (aR0 aR1 aR2 aR3 aR4 aR5 aR6 aR7 aR8 aR9 aR10 aR11 aR12 aR13 aR14 aR15 aR16 aR17 aR18 aR19 aR20 aR21 : Nat) (lv : LV) (sg : SG) (pd : PD) (ac : AC) (dd : DD) (hd : HD) (le : LE) (bd : BD) (my : MY) (lf : LF) (pa : PA) (kp : KP) (hs : vp_in (sSights sg) 9) (hso : ∀ j, j < (sSights sg).toNatClampNeg → vp_in (sSightHour sg j) 24) : mMi l δ (mTy cI cJ cZ) yX6_wore wsX6_wore rm_X6_wore [.ref aR0] (wR cI cJ cZ aR0 aR1 aR2 aR3 aR4 aR5 aR6 aR7 aR8 aR9 aR10 aR11 aR12 aR13 aR14 aR15 aR16 aR17 aR18 aR19 aR20 aR21 lv sg pd ac dd hd le bd my lf pa kp) (S := Unit) (fun r _ => F_X6_wore lv sg = r) (fun _ => (wR cI cJ cZ aR0 aR1 aR2 aR3 aR4 aR5 aR6 aR7 aR8 aR9 aR10 aR11 aR12 aR13 aR14 aR15 aR16 aR17 aR18 aR19 aR20 aR21 lv sg pd ac dd hd le bd my lf pa kp)) := by
  refine mk_i (cc := cX6_wore) (maxL := 4) (by decide) rfl (Nat.le_of_ble_eq_true rfl) ?_
  intro p e s m args below meth c A Q ls H locs hx hb hml hts hown hK hNW hA hP hD hS hl hret
  have hown : s.vm.findClass RX6 = some m.cls := hown
  have hl : lv_has ls 4 [(0, .ref aR0)] := hl
  have hinX6 : ∀ w ∈ u_ws RX6 TX6 34, w ∈ wsX6_wore := (fun _ h => List.mem_cons_of_mem _ (List.mem_append_right _ (h)))
  have hR := F_X6_wore.eq_1 lv sg
  have hs2 := in_9 hs
  refine lv_aload_n hx hb dX6_wore_0 rfl (lv_at hl 0 rfl) ?_
  refine va_get (D := δ) (ci := 6) (v := .int (vCourtiers lv)) (C := RX6) (T := TX6) (N := 34) hx hb hts hinX6 hown hK hP 0 rfl rfl 0 (by decide) (hts (.fieldLink RX6 87 "GloveHoursModel" "courtiers" "I") (List.mem_of_getElem? (i := 1) rfl)) (fun _ h9 => h9) rfl dX6_wore_1 ?_
  refine lv_istore_n (lv' := [(1, .int (vCourtiers lv)), (0, .ref aR0)]) hx hb dX6_wore_4 rfl hl (by decide) rfl (fun ls hl => ?_)
  refine lv_iconst (v := (0 : Int32)) hx hb dX6_wore_5 (by decide) ?_
  refine lv_istore_n (lv' := [(2, .int (0 : Int32)), (1, .int (vCourtiers lv)), (0, .ref aR0)]) hx hb dX6_wore_6 rfl hl (by decide) rfl (fun ls hl => ?_)
  have hloop_7 : ∀ (n_7 : Nat) (i_7 : Nat) (v1_7 : Int32) (H : Heap) (locs : List Loc) (ls : Array Slot), (hi_7 : i_7 ≤ (sSights sg).toNatClampNeg) → (hn_7 : (sSights sg).toNatClampNeg < i_7 + n_7) → (hP : va_P δ vwCl (wR cI cJ cZ aR0 aR1 aR2 aR3 aR4 aR5 aR6 aR7 aR8 aR9 aR10 aR11 aR12 aR13 aR14 aR15 aR16 aR17 aR18 aR19 aR20 aR21 lv sg pd ac dd hd le bd my lf pa kp) H) → (hD : va_D A (wR cI cJ cZ aR0 aR1 aR2 aR3 aR4 aR5 aR6 aR7 aR8 aR9 aR10 aR11 aR12 aR13 aR14 aR15 aR16 aR17 aR18 aR19 aR20 aR21 lv sg pd ac dd hd le bd my lf pa kp)) → (hS : va_S A s.heap H locs) → (hl : lv_has ls 4 [(2, .int (nI i_7)), (1, .int v1_7), (0, .ref aR0)]) → (kk : ∀ (w_7 : Int32) (H : Heap) (locs : List Loc) (ls : Array Slot), L_X6_wore_7 lv sg n_7 i_7 v1_7 = w_7 → va_P δ vwCl (wR cI cJ cZ aR0 aR1 aR2 aR3 aR4 aR5 aR6 aR7 aR8 aR9 aR10 aR11 aR12 aR13 aR14 aR15 aR16 aR17 aR18 aR19 aR20 aR21 lv sg pd ac dd hd le bd my lf pa kp) H → va_D A (wR cI cJ cZ aR0 aR1 aR2 aR3 aR4 aR5 aR6 aR7 aR8 aR9 aR10 aR11 aR12 aR13 aR14 aR15 aR16 aR17 aR18 aR19 aR20 aR21 lv sg pd ac dd hd le bd my lf pa kp) → va_S A s.heap H locs → lv_has ls 4 [(1, .int w_7), (0, .ref aR0)] → W p l e rm_X6_wore s m args below meth c H locs 0 0 Q (F0 m 52 ls [])) → W p l e rm_X6_wore s m args below meth c H locs 0 0 Q (F0 m 7 ls []) := by
    intro n_7
    induction n_7 with
    | zero => intro i_7 v1_7 H locs ls hi_7 hn_7 hP hD hS hl kk; exact absurd hn_7 (by omega)
    | succ n_7 ih_7 =>
      intro i_7 v1_7 H locs ls hi_7 hn_7 hP hD hS hl kk
      have hR := L_X6_wore_7_s lv sg n_7 i_7 v1_7
      refine lv_iload_n hx hb dX6_wore_7 rfl (lv_at hl 0 rfl) ?_
      refine lv_aload_n hx hb dX6_wore_8 rfl (lv_at hl 2 rfl) ?_
      refine va_get (D := δ) (ci := 6) (v := .int (sSights sg)) (C := RX6) (T := TX6) (N := 34) hx hb hts hinX6 hown hK hP 0 rfl rfl 9 (by decide) (hts (.fieldLink RX6 252 "GloveHoursModel" "sights" "I") (List.mem_of_getElem? (i := 2) rfl)) (fun _ h9 => h9) rfl dX6_wore_9 ?_
      refine lv_icmp_ge (tgt := 52) hx hb dX6_wore_12 (by decide) (fun c_12 => ?_) (fun c_12 => ?_)
      · have c_12 : ((sSights sg) ≤ (nI i_7)) := c_12
        have hR := hR.trans (if_pos c_12)
        exact kk v1_7 H locs ls hR hP hD hS (lv_sub hl [1, 2] rfl)
      · have c_12 : ¬ ((sSights sg) ≤ (nI i_7)) := c_12
        have hR := hR.trans (if_neg c_12)
        have hlt_7 : i_7 < (sSights sg).toNatClampNeg := lt_c c_12 hi_7
        refine lv_aload_n hx hb dX6_wore_15 rfl (lv_at hl 2 rfl) ?_
        refine lv_aload_n hx hb dX6_wore_16 rfl (lv_at hl 2 rfl) ?_
        refine va_get (D := δ) (ci := 6) (v := .ref aR5) (C := RX6) (T := TX6) (N := 34) hx hb hts hinX6 hown hK hP 0 rfl rfl 7 (by decide) (hts (.fieldLink RX6 22 "GloveHoursModel" "sightHour" "[I") (List.mem_of_getElem? (i := 3) rfl)) (fun _ h9 => h9) rfl dX6_wore_17 ?_
        refine lv_iload_n hx hb dX6_wore_20 rfl (lv_at hl 0 rfl) ?_
        refine va_iald hx hb hK hP 5 0 rfl rfl (vp_in_nI (by omega) (by decide)) dX6_wore_21 ?_
        have hr := mrV (p := p) (e := e) (R := rm_X6_wore) (below := below) (meth := meth) (H := H) (locs := locs) (ls := ls) (As := [.int ((sSightHour sg) (nI i_7).toNatClampNeg)]) (rest := []) (c_X6_ownersOf l δ cI cJ cZ aR0 aR1 aR2 aR3 aR4 aR5 aR6 aR7 aR8 aR9 aR10 aR11 aR12 aR13 aR14 aR15 aR16 aR17 aR18 aR19 aR20 aR21 lv sg pd ac dd hd le bd my lf pa kp ((sSightHour sg) (nI i_7).toNatClampNeg) (by rw [nI_clamp (by omega)]; exact hso _ hlt_7)) hx hb hml hts hown hK hNW hP hD [0, 1, 2, 3, 4, 5, 6, 7, 8, 9, 10, 11, 12, 13, 14, 15, 16, 17, 18, 19, 20, 21] rfl rfl 6 0 rfl rfl (cwV 1 hts gX6_wore_X6_ownersOf rfl rfl rfl (by decide +kernel) ⟨(Nat.le_of_ble_eq_true rfl), (Nat.le_of_ble_eq_true rfl)⟩) rfl hl.1 rfl (Nat.le_of_ble_eq_true rfl) dX6_wore_22
        refine mc_i (wr := ([] : va_W)) hr hP hD hS hA [0, 1, 2, 3, 4, 5, 6, 7, 8, 9, 10, 11, 12, 13, 14, 15, 16, 17, 18, 19, 20, 21] [] [0, 1, 2, 3, 4, 5, 6, 7, 8, 9, 10, 11, 12, 13, 14, 15, 16, 17, 18, 19, 20, 21] rfl rfl rfl rfl rfl (wn := fun _ => (wR cI cJ cZ aR0 aR1 aR2 aR3 aR4 aR5 aR6 aR7 aR8 aR9 aR10 aR11 aR12 aR13 aR14 aR15 aR16 aR17 aR18 aR19 aR20 aR21 lv sg pd ac dd hd le bd my lf pa kp)) (fun _ => rfl) (fun r_22 _ H locs hw_22 hP hD hS => ?_)
        have hP : va_P δ vwCl (wR cI cJ cZ aR0 aR1 aR2 aR3 aR4 aR5 aR6 aR7 aR8 aR9 aR10 aR11 aR12 aR13 aR14 aR15 aR16 aR17 aR18 aR19 aR20 aR21 lv sg pd ac dd hd le bd my lf pa kp) H := hP
        have hD : va_D A (wR cI cJ cZ aR0 aR1 aR2 aR3 aR4 aR5 aR6 aR7 aR8 aR9 aR10 aR11 aR12 aR13 aR14 aR15 aR16 aR17 aR18 aR19 aR20 aR21 lv sg pd ac dd hd le bd my lf pa kp) := hD
        have hR := bnd_eq hR hw_22.symm
        refine lv_istore_n (lv' := [(3, .int r_22), (2, .int (nI i_7)), (1, .int v1_7), (0, .ref aR0)]) hx hb dX6_wore_25 rfl hl (by decide) rfl (fun ls hl => ?_)
        refine lv_iload_n hx hb dX6_wore_26 rfl (lv_at hl 2 rfl) ?_
        refine lv_aload_n hx hb dX6_wore_27 rfl (lv_at hl 3 rfl) ?_
        refine va_get (D := δ) (ci := 6) (v := .ref aR6) (C := RX6) (T := TX6) (N := 34) hx hb hts hinX6 hown hK hP 0 rfl rfl 8 (by decide) (hts (.fieldLink RX6 25 "GloveHoursModel" "sightOwned" "[I") (List.mem_of_getElem? (i := 4) rfl)) (fun _ h9 => h9) rfl dX6_wore_28 ?_
        refine lv_iload_n hx hb dX6_wore_31 rfl (lv_at hl 1 rfl) ?_
        refine va_iald hx hb hK hP 6 0 rfl rfl (vp_in_nI (by omega) (by decide)) dX6_wore_32 ?_
        refine lv_iconst (v := (1 : Int32)) hx hb dX6_wore_33 (by decide) ?_
        refine lv_icmp_ne (tgt := 41) hx hb dX6_wore_34 (by decide) (fun c_34 => ?_) (fun c_34 => ?_)
        · have c_34 : ¬ (((sSightOwned sg) (nI i_7).toNatClampNeg) = (1 : Int32)) := c_34
          have hR := hR.trans (if_neg c_34)
          refine lv_iload_n hx hb dX6_wore_41 rfl (lv_at hl 0 rfl) ?_
          refine lv_iconst (v := (-1 : Int32)) hx hb dX6_wore_42 (by decide) ?_
          refine lv_ixor hx hb dX6_wore_43 ?_
          refine lv_iand hx hb dX6_wore_44 ?_
          refine lv_istore_n (lv' := [(1, .int (v1_7 &&& (r_22 ^^^ (-1 : Int32)))), (3, .int r_22), (2, .int (nI i_7)), (0, .ref aR0)]) hx hb dX6_wore_45 rfl hl (by decide) rfl (fun ls hl => ?_)
          refine lv_iinc (v := (nI (i_7 + 1))) (lv' := [(2, .int (nI (i_7 + 1))), (1, .int (v1_7 &&& (r_22 ^^^ (-1 : Int32)))), (3, .int r_22), (0, .ref aR0)]) hx hb dX6_wore_46 hl (k := 2) rfl (nI_1 i_7) (by decide) rfl (fun ls hl => ?_)
          refine lv_goto (tgt := 7) hx hb dX6_wore_49 (by decide) ?_
          exact ih_7 (i_7 + 1) (v1_7 &&& (r_22 ^^^ (-1 : Int32))) _ _ _ (by omega) (by omega) hP hD hS (lv_sub hl [0, 1, 3] rfl) (fun w_7 H locs ls he hP hD hS hl => kk w_7 H locs ls (hR.trans he) hP hD hS hl)
        · have c_34 : (((sSightOwned sg) (nI i_7).toNatClampNeg) = (1 : Int32)) := c_34
          have hR := hR.trans (if_pos c_34)
          refine lv_iload_n hx hb dX6_wore_37 rfl (lv_at hl 0 rfl) ?_
          refine lv_goto (tgt := 44) hx hb dX6_wore_38 (by decide) ?_
          refine lv_iand hx hb dX6_wore_44 ?_
          refine lv_istore_n (lv' := [(1, .int (v1_7 &&& r_22)), (3, .int r_22), (2, .int (nI i_7)), (0, .ref aR0)]) hx hb dX6_wore_45 rfl hl (by decide) rfl (fun ls hl => ?_)
          refine lv_iinc (v := (nI (i_7 + 1))) (lv' := [(2, .int (nI (i_7 + 1))), (1, .int (v1_7 &&& r_22)), (3, .int r_22), (0, .ref aR0)]) hx hb dX6_wore_46 hl (k := 2) rfl (nI_1 i_7) (by decide) rfl (fun ls hl => ?_)
          refine lv_goto (tgt := 7) hx hb dX6_wore_49 (by decide) ?_
          exact ih_7 (i_7 + 1) (v1_7 &&& r_22) _ _ _ (by omega) (by omega) hP hD hS (lv_sub hl [0, 1, 3] rfl) (fun w_7 H locs ls he hP hD hS hl => kk w_7 H locs ls (hR.trans he) hP hD hS hl)
  refine hloop_7 ((sSights sg).toNatClampNeg + 1) 0 (vCourtiers lv) _ _ _ (by omega) (by omega) hP hD hS (lv_sub hl [0, 1, 2] rfl) (fun w_7 H locs ls hw_7 hP hD hS hl => ?_)
  have hP : va_P δ vwCl (wR cI cJ cZ aR0 aR1 aR2 aR3 aR4 aR5 aR6 aR7 aR8 aR9 aR10 aR11 aR12 aR13 aR14 aR15 aR16 aR17 aR18 aR19 aR20 aR21 lv sg pd ac dd hd le bd my lf pa kp) H := hP
  have hD : va_D A (wR cI cJ cZ aR0 aR1 aR2 aR3 aR4 aR5 aR6 aR7 aR8 aR9 aR10 aR11 aR12 aR13 aR14 aR15 aR16 aR17 aR18 aR19 aR20 aR21 lv sg pd ac dd hd le bd my lf pa kp) := hD
  have hR := bnd_eq hR hw_7.symm
  refine lv_iload_n hx hb dX6_wore_52 rfl (lv_at hl 0 rfl) ?_
  exact hret _ _ w_7 () _ _ hR hP hD hS dX6_wore_53

abbrev rm_X6_ask : Room := { frames := 5, cells := 0, slots := 0, locals := 114 }
set_option maxHeartbeats 4000000 in
set_option maxRecDepth 100000 in
theorem c_X6_ask (l : Launch) (δ : va_G) (cI cJ cZ : ClassId) (aR0 aR1 aR2 aR3 aR4 aR5 aR6 aR7 aR8 aR9 aR10 aR11 aR12 aR13 aR14 aR15 aR16 aR17 aR18 aR19 aR20 aR21 : Nat) (lv : LV) (sg : SG) (pd : PD) (ac : AC) (dd : DD) (hd : HD) (le : LE) (bd : BD) (my : MY) (lf : LF) (pa : PA) (kp : KP) (xw : Int32) (hs : vp_in (sSights sg) 9) (hso : ∀ j, j < (sSights sg).toNatClampNeg → vp_in (sSightHour sg j) 24) : mMi l δ (mTy cI cJ cZ) yX6_ask wsX6_ask rm_X6_ask [.ref aR0, .int xw] (wR cI cJ cZ aR0 aR1 aR2 aR3 aR4 aR5 aR6 aR7 aR8 aR9 aR10 aR11 aR12 aR13 aR14 aR15 aR16 aR17 aR18 aR19 aR20 aR21 lv sg pd ac dd hd le bd my lf pa kp) (S := Unit) (fun r _ => F_X6_ask lv sg xw = r) (fun _ => (wR cI cJ cZ aR0 aR1 aR2 aR3 aR4 aR5 aR6 aR7 aR8 aR9 aR10 aR11 aR12 aR13 aR14 aR15 aR16 aR17 aR18 aR19 aR20 aR21 lv sg pd ac dd hd le bd my lf pa kp)) := by
  refine mk_i (cc := cX6_ask) (maxL := 9) (by decide) rfl (Nat.le_of_ble_eq_true rfl) ?_
  intro p e s m args below meth c A Q ls H locs hx hb hml hts hown hK hNW hA hP hD hS hl hret
  have hown : s.vm.findClass RX6 = some m.cls := hown
  have hl : lv_has ls 9 [(0, .ref aR0), (1, .int xw)] := hl
  have hR := F_X6_ask.eq_1 lv sg xw
  refine lv_iload_n hx hb dX6_ask_0 rfl (lv_at hl 1 rfl) ?_
  refine lv_i2l (v := (xw.toInt64)) hx hb dX6_ask_1 rfl ?_
  refine lv_lconst (v := (0 : Int64)) hx hb dX6_ask_2 (by decide) ?_
  refine lv_lconst (v := (1 : Int64)) hx hb dX6_ask_3 (by decide) ?_
  have hr := mrS (p := p) (e := e) (R := rm_X6_ask) (below := below) (meth := meth) (H := H) (locs := locs) (ls := ls) (As := [.long (xw.toInt64), .long (0 : Int64), .long (1 : Int64)]) (rest := []) (c_X6_in l δ cI cJ cZ (xw.toInt64) (0 : Int64) (1 : Int64)) hx hb hml hts hown hK hNW hP hD [] rfl rfl (va_cwS 3 hts gX6_ask_X6_in rfl rfl rfl (by decide +kernel) ⟨(Nat.le_of_ble_eq_true rfl), (Nat.le_of_ble_eq_true rfl)⟩) rfl hl.1 rfl (Nat.le_of_ble_eq_true rfl) dX6_ask_4
  refine mc_i (wr := (wR cI cJ cZ aR0 aR1 aR2 aR3 aR4 aR5 aR6 aR7 aR8 aR9 aR10 aR11 aR12 aR13 aR14 aR15 aR16 aR17 aR18 aR19 aR20 aR21 lv sg pd ac dd hd le bd my lf pa kp)) hr hP hD hS hA [] [0, 1, 2, 3, 4, 5, 6, 7, 8, 9, 10, 11, 12, 13, 14, 15, 16, 17, 18, 19, 20, 21] [0, 1, 2, 3, 4, 5, 6, 7, 8, 9, 10, 11, 12, 13, 14, 15, 16, 17, 18, 19, 20, 21] rfl rfl rfl rfl rfl (wn := fun _ => (wR cI cJ cZ aR0 aR1 aR2 aR3 aR4 aR5 aR6 aR7 aR8 aR9 aR10 aR11 aR12 aR13 aR14 aR15 aR16 aR17 aR18 aR19 aR20 aR21 lv sg pd ac dd hd le bd my lf pa kp)) (fun _ => rfl) (fun r_4 _ H locs hw_4 hP hD hS => ?_)
  obtain ⟨hw_4, z_4⟩ := hw_4
  have hP : va_P δ vwCl (wR cI cJ cZ aR0 aR1 aR2 aR3 aR4 aR5 aR6 aR7 aR8 aR9 aR10 aR11 aR12 aR13 aR14 aR15 aR16 aR17 aR18 aR19 aR20 aR21 lv sg pd ac dd hd le bd my lf pa kp) H := hP
  have hD : va_D A (wR cI cJ cZ aR0 aR1 aR2 aR3 aR4 aR5 aR6 aR7 aR8 aR9 aR10 aR11 aR12 aR13 aR14 aR15 aR16 aR17 aR18 aR19 aR20 aR21 lv sg pd ac dd hd le bd my lf pa kp) := hD
  have hR := bnd_eq hR hw_4.symm
  refine lv_if_ne (tgt := 13) hx hb dX6_ask_7 (by decide) (fun c_7 => ?_) (fun c_7 => ?_)
  · have c_7 : ¬ (r_4 = 0) := c_7
    have hR := hR.trans (if_neg c_7)
    refine lv_aload_n hx hb dX6_ask_13 rfl (lv_at hl 0 rfl) ?_
    have hr := mrV (p := p) (e := e) (R := rm_X6_ask) (below := below) (meth := meth) (H := H) (locs := locs) (ls := ls) (As := []) (rest := []) (c_X6_wore l δ cI cJ cZ aR0 aR1 aR2 aR3 aR4 aR5 aR6 aR7 aR8 aR9 aR10 aR11 aR12 aR13 aR14 aR15 aR16 aR17 aR18 aR19 aR20 aR21 lv sg pd ac dd hd le bd my lf pa kp hs hso) hx hb hml hts hown hK hNW hP hD [0, 1, 2, 3, 4, 5, 6, 7, 8, 9, 10, 11, 12, 13, 14, 15, 16, 17, 18, 19, 20, 21] rfl rfl 6 0 rfl rfl (cwV 0 hts gX6_ask_X6_wore rfl rfl rfl (by decide +kernel) ⟨(Nat.le_of_ble_eq_true rfl), (Nat.le_of_ble_eq_true rfl)⟩) rfl hl.1 rfl (Nat.le_of_ble_eq_true rfl) dX6_ask_14
    refine mc_i (wr := ([] : va_W)) hr hP hD hS hA [0, 1, 2, 3, 4, 5, 6, 7, 8, 9, 10, 11, 12, 13, 14, 15, 16, 17, 18, 19, 20, 21] [] [0, 1, 2, 3, 4, 5, 6, 7, 8, 9, 10, 11, 12, 13, 14, 15, 16, 17, 18, 19, 20, 21] rfl rfl rfl rfl rfl (wn := fun _ => (wR cI cJ cZ aR0 aR1 aR2 aR3 aR4 aR5 aR6 aR7 aR8 aR9 aR10 aR11 aR12 aR13 aR14 aR15 aR16 aR17 aR18 aR19 aR20 aR21 lv sg pd ac dd hd le bd my lf pa kp)) (fun _ => rfl) (fun r_14 _ H locs hw_14 hP hD hS => ?_)
    have hP : va_P δ vwCl (wR cI cJ cZ aR0 aR1 aR2 aR3 aR4 aR5 aR6 aR7 aR8 aR9 aR10 aR11 aR12 aR13 aR14 aR15 aR16 aR17 aR18 aR19 aR20 aR21 lv sg pd ac dd hd le bd my lf pa kp) H := hP
    have hD : va_D A (wR cI cJ cZ aR0 aR1 aR2 aR3 aR4 aR5 aR6 aR7 aR8 aR9 aR10 aR11 aR12 aR13 aR14 aR15 aR16 aR17 aR18 aR19 aR20 aR21 lv sg pd ac dd hd le bd my lf pa kp) := hD
    have hR := bnd_eq hR hw_14.symm
    refine lv_istore_n (lv' := [(2, .int r_14), (0, .ref aR0), (1, .int xw)]) hx hb dX6_ask_17 rfl hl (by decide) rfl (fun ls hl => ?_)
    refine lv_bipush (v := (-6 : Int32)) hx hb dX6_ask_18 (by decide) ?_
    refine lv_istore_n (lv' := [(3, .int (-6 : Int32)), (2, .int r_14), (0, .ref aR0), (1, .int xw)]) hx hb dX6_ask_20 rfl hl (by decide) rfl (fun ls hl => ?_)
    refine lv_iconst (v := (0 : Int32)) hx hb dX6_ask_21 (by decide) ?_
    refine lv_istore (lv' := [(4, .int (0 : Int32)), (3, .int (-6 : Int32)), (2, .int r_14), (0, .ref aR0), (1, .int xw)]) hx hb dX6_ask_22 hl (by decide) rfl (fun ls hl => ?_)
    refine lv_iconst (v := (0 : Int32)) hx hb dX6_ask_24 (by decide) ?_
    refine lv_istore (lv' := [(5, .int (0 : Int32)), (4, .int (0 : Int32)), (3, .int (-6 : Int32)), (2, .int r_14), (0, .ref aR0), (1, .int xw)]) hx hb dX6_ask_25 hl (by decide) rfl (fun ls hl => ?_)
    have hloop_27 : ∀ (n_27 : Nat) (i_27 : Nat) (v4_27 : Int32) (v3_27 : Int32) (H : Heap) (locs : List Loc) (ls : Array Slot), (hi_27 : i_27 ≤ 24) → (hn_27 : 24 < i_27 + n_27) → (hP : va_P δ vwCl (wR cI cJ cZ aR0 aR1 aR2 aR3 aR4 aR5 aR6 aR7 aR8 aR9 aR10 aR11 aR12 aR13 aR14 aR15 aR16 aR17 aR18 aR19 aR20 aR21 lv sg pd ac dd hd le bd my lf pa kp) H) → (hD : va_D A (wR cI cJ cZ aR0 aR1 aR2 aR3 aR4 aR5 aR6 aR7 aR8 aR9 aR10 aR11 aR12 aR13 aR14 aR15 aR16 aR17 aR18 aR19 aR20 aR21 lv sg pd ac dd hd le bd my lf pa kp)) → (hS : va_S A s.heap H locs) → (hl : lv_has ls 9 [(5, .int (nI i_27)), (4, .int v4_27), (3, .int v3_27), (2, .int r_14), (0, .ref aR0), (1, .int xw)]) → (kk : ∀ (w_27 : Int32 × Int32) (H : Heap) (locs : List Loc) (ls : Array Slot), L_X6_ask_27 lv r_14 n_27 i_27 v4_27 v3_27 = w_27 → va_P δ vwCl (wR cI cJ cZ aR0 aR1 aR2 aR3 aR4 aR5 aR6 aR7 aR8 aR9 aR10 aR11 aR12 aR13 aR14 aR15 aR16 aR17 aR18 aR19 aR20 aR21 lv sg pd ac dd hd le bd my lf pa kp) H → va_D A (wR cI cJ cZ aR0 aR1 aR2 aR3 aR4 aR5 aR6 aR7 aR8 aR9 aR10 aR11 aR12 aR13 aR14 aR15 aR16 aR17 aR18 aR19 aR20 aR21 lv sg pd ac dd hd le bd my lf pa kp) → va_S A s.heap H locs → lv_has ls 9 [(4, .int w_27.1), (3, .int w_27.2), (2, .int r_14), (0, .ref aR0), (1, .int xw)] → W p l e rm_X6_ask s m args below meth c H locs 0 0 Q (F0 m 100 ls [])) → W p l e rm_X6_ask s m args below meth c H locs 0 0 Q (F0 m 27 ls []) := by
      intro n_27
      induction n_27 with
      | zero => intro i_27 v4_27 v3_27 H locs ls hi_27 hn_27 hP hD hS hl kk; exact absurd hn_27 (by omega)
      | succ n_27 ih_27 =>
        intro i_27 v4_27 v3_27 H locs ls hi_27 hn_27 hP hD hS hl kk
        have hR := L_X6_ask_27_s lv r_14 n_27 i_27 v4_27 v3_27
        refine lv_iload hx hb dX6_ask_27 (lv_at hl 0 rfl) ?_
        refine lv_bipush (v := (24 : Int32)) hx hb dX6_ask_29 (by decide) ?_
        refine lv_icmp_ge (tgt := 100) hx hb dX6_ask_31 (by decide) (fun c_31 => ?_) (fun c_31 => ?_)
        · have c_31 : ((24 : Int32) ≤ (nI i_27)) := c_31
          have hR := hR.trans (if_pos c_31)
          exact kk (v4_27, v3_27) H locs ls hR hP hD hS (lv_sub hl [1, 2, 3, 4, 5] rfl)
        · have c_31 : ¬ ((24 : Int32) ≤ (nI i_27)) := c_31
          have hR := hR.trans (if_neg c_31)
          have hlt_27 : i_27 < 24 := lt_g c_31 hi_27 (by decide)
          refine lv_iload_n hx hb dX6_ask_34 rfl (lv_at hl 3 rfl) ?_
          refine lv_if_eq (tgt := 100) hx hb dX6_ask_35 (by decide) (fun c_35 => ?_) (fun c_35 => ?_)
          · have c_35 : (r_14 = 0) := c_35
            have hR := hR.trans (if_pos c_35)
            exact kk (v4_27, v3_27) H locs ls hR hP hD hS (lv_sub hl [1, 2, 3, 4, 5] rfl)
          · have c_35 : ¬ (r_14 = 0) := c_35
            have hR := hR.trans (if_neg c_35)
            refine lv_iload_n hx hb dX6_ask_38 rfl (lv_at hl 3 rfl) ?_
            refine lv_aload_n hx hb dX6_ask_39 rfl (lv_at hl 4 rfl) ?_
            refine lv_iload hx hb dX6_ask_40 (lv_at hl 0 rfl) ?_
            have hr := mrV (p := p) (e := e) (R := rm_X6_ask) (below := below) (meth := meth) (H := H) (locs := locs) (ls := ls) (As := [.int (nI i_27)]) (rest := [.int r_14]) (c_X6_ownersOf l δ cI cJ cZ aR0 aR1 aR2 aR3 aR4 aR5 aR6 aR7 aR8 aR9 aR10 aR11 aR12 aR13 aR14 aR15 aR16 aR17 aR18 aR19 aR20 aR21 lv sg pd ac dd hd le bd my lf pa kp (nI i_27) (vp_in_nI hlt_27 (by decide))) hx hb hml hts hown hK hNW hP hD [0, 1, 2, 3, 4, 5, 6, 7, 8, 9, 10, 11, 12, 13, 14, 15, 16, 17, 18, 19, 20, 21] rfl rfl 6 0 rfl rfl (cwV 1 hts gX6_ask_X6_ownersOf rfl rfl rfl (by decide +kernel) ⟨(Nat.le_of_ble_eq_true rfl), (Nat.le_of_ble_eq_true rfl)⟩) rfl hl.1 rfl (Nat.le_of_ble_eq_true rfl) dX6_ask_42
            refine mc_i (wr := ([] : va_W)) hr hP hD hS hA [0, 1, 2, 3, 4, 5, 6, 7, 8, 9, 10, 11, 12, 13, 14, 15, 16, 17, 18, 19, 20, 21] [] [0, 1, 2, 3, 4, 5, 6, 7, 8, 9, 10, 11, 12, 13, 14, 15, 16, 17, 18, 19, 20, 21] rfl rfl rfl rfl rfl (wn := fun _ => (wR cI cJ cZ aR0 aR1 aR2 aR3 aR4 aR5 aR6 aR7 aR8 aR9 aR10 aR11 aR12 aR13 aR14 aR15 aR16 aR17 aR18 aR19 aR20 aR21 lv sg pd ac dd hd le bd my lf pa kp)) (fun _ => rfl) (fun r_42 _ H locs hw_42 hP hD hS => ?_)
            have hP : va_P δ vwCl (wR cI cJ cZ aR0 aR1 aR2 aR3 aR4 aR5 aR6 aR7 aR8 aR9 aR10 aR11 aR12 aR13 aR14 aR15 aR16 aR17 aR18 aR19 aR20 aR21 lv sg pd ac dd hd le bd my lf pa kp) H := hP
            have hD : va_D A (wR cI cJ cZ aR0 aR1 aR2 aR3 aR4 aR5 aR6 aR7 aR8 aR9 aR10 aR11 aR12 aR13 aR14 aR15 aR16 aR17 aR18 aR19 aR20 aR21 lv sg pd ac dd hd le bd my lf pa kp) := hD
            have hR := bnd_eq hR hw_42.symm
            refine lv_iand hx hb dX6_ask_45 ?_
            have hr := mrS (p := p) (e := e) (R := rm_X6_ask) (below := below) (meth := meth) (H := H) (locs := locs) (ls := ls) (As := [.int (r_14 &&& r_42)]) (rest := []) (c_X6_ones l δ cI cJ cZ (r_14 &&& r_42)) hx hb hml hts hown hK hNW hP hD [] rfl rfl (va_cwS 1 hts gX6_ask_X6_ones rfl rfl rfl (by decide +kernel) ⟨(Nat.le_of_ble_eq_true rfl), (Nat.le_of_ble_eq_true rfl)⟩) rfl hl.1 rfl (Nat.le_of_ble_eq_true rfl) dX6_ask_46
            refine mc_i (wr := (wR cI cJ cZ aR0 aR1 aR2 aR3 aR4 aR5 aR6 aR7 aR8 aR9 aR10 aR11 aR12 aR13 aR14 aR15 aR16 aR17 aR18 aR19 aR20 aR21 lv sg pd ac dd hd le bd my lf pa kp)) hr hP hD hS hA [] [0, 1, 2, 3, 4, 5, 6, 7, 8, 9, 10, 11, 12, 13, 14, 15, 16, 17, 18, 19, 20, 21] [0, 1, 2, 3, 4, 5, 6, 7, 8, 9, 10, 11, 12, 13, 14, 15, 16, 17, 18, 19, 20, 21] rfl rfl rfl rfl rfl (wn := fun _ => (wR cI cJ cZ aR0 aR1 aR2 aR3 aR4 aR5 aR6 aR7 aR8 aR9 aR10 aR11 aR12 aR13 aR14 aR15 aR16 aR17 aR18 aR19 aR20 aR21 lv sg pd ac dd hd le bd my lf pa kp)) (fun _ => rfl) (fun r_46 _ H locs hw_46 hP hD hS => ?_)
            have hP : va_P δ vwCl (wR cI cJ cZ aR0 aR1 aR2 aR3 aR4 aR5 aR6 aR7 aR8 aR9 aR10 aR11 aR12 aR13 aR14 aR15 aR16 aR17 aR18 aR19 aR20 aR21 lv sg pd ac dd hd le bd my lf pa kp) H := hP
            have hD : va_D A (wR cI cJ cZ aR0 aR1 aR2 aR3 aR4 aR5 aR6 aR7 aR8 aR9 aR10 aR11 aR12 aR13 aR14 aR15 aR16 aR17 aR18 aR19 aR20 aR21 lv sg pd ac dd hd le bd my lf pa kp) := hD
            have hR := bnd_eq hR hw_46.symm
            refine lv_istore (lv' := [(6, .int r_46), (5, .int (nI i_27)), (4, .int v4_27), (3, .int v3_27), (2, .int r_14), (0, .ref aR0), (1, .int xw)]) hx hb dX6_ask_49 hl (by decide) rfl (fun ls hl => ?_)
            refine lv_iload_n hx hb dX6_ask_51 rfl (lv_at hl 4 rfl) ?_
            have hr := mrS (p := p) (e := e) (R := rm_X6_ask) (below := below) (meth := meth) (H := H) (locs := locs) (ls := ls) (As := [.int r_14]) (rest := []) (c_X6_ones l δ cI cJ cZ r_14) hx hb hml hts hown hK hNW hP hD [] rfl rfl (va_cwS 1 hts gX6_ask_X6_ones rfl rfl rfl (by decide +kernel) ⟨(Nat.le_of_ble_eq_true rfl), (Nat.le_of_ble_eq_true rfl)⟩) rfl hl.1 rfl (Nat.le_of_ble_eq_true rfl) dX6_ask_52
            refine mc_i (wr := (wR cI cJ cZ aR0 aR1 aR2 aR3 aR4 aR5 aR6 aR7 aR8 aR9 aR10 aR11 aR12 aR13 aR14 aR15 aR16 aR17 aR18 aR19 aR20 aR21 lv sg pd ac dd hd le bd my lf pa kp)) hr hP hD hS hA [] [0, 1, 2, 3, 4, 5, 6, 7, 8, 9, 10, 11, 12, 13, 14, 15, 16, 17, 18, 19, 20, 21] [0, 1, 2, 3, 4, 5, 6, 7, 8, 9, 10, 11, 12, 13, 14, 15, 16, 17, 18, 19, 20, 21] rfl rfl rfl rfl rfl (wn := fun _ => (wR cI cJ cZ aR0 aR1 aR2 aR3 aR4 aR5 aR6 aR7 aR8 aR9 aR10 aR11 aR12 aR13 aR14 aR15 aR16 aR17 aR18 aR19 aR20 aR21 lv sg pd ac dd hd le bd my lf pa kp)) (fun _ => rfl) (fun r_52 _ H locs hw_52 hP hD hS => ?_)
            have hP : va_P δ vwCl (wR cI cJ cZ aR0 aR1 aR2 aR3 aR4 aR5 aR6 aR7 aR8 aR9 aR10 aR11 aR12 aR13 aR14 aR15 aR16 aR17 aR18 aR19 aR20 aR21 lv sg pd ac dd hd le bd my lf pa kp) H := hP
            have hD : va_D A (wR cI cJ cZ aR0 aR1 aR2 aR3 aR4 aR5 aR6 aR7 aR8 aR9 aR10 aR11 aR12 aR13 aR14 aR15 aR16 aR17 aR18 aR19 aR20 aR21 lv sg pd ac dd hd le bd my lf pa kp) := hD
            have hR := bnd_eq hR hw_52.symm
            refine lv_iload hx hb dX6_ask_55 (lv_at hl 0 rfl) ?_
            refine lv_isub hx hb dX6_ask_57 ?_
            refine lv_istore (lv' := [(7, .int (r_52 - r_46)), (6, .int r_46), (5, .int (nI i_27)), (4, .int v4_27), (3, .int v3_27), (2, .int r_14), (0, .ref aR0), (1, .int xw)]) hx hb dX6_ask_58 hl (by decide) rfl (fun ls hl => ?_)
            refine lv_iload hx hb dX6_ask_60 (lv_at hl 1 rfl) ?_
            refine lv_iload hx hb dX6_ask_62 (lv_at hl 0 rfl) ?_
            refine lv_icmp_le (tgt := 72) hx hb dX6_ask_64 (by decide) (fun c_64 => ?_) (fun c_64 => ?_)
            · have c_64 : (r_46 ≤ (r_52 - r_46)) := c_64
              have hR := hR.trans (if_pos c_64)
              refine lv_iload hx hb dX6_ask_72 (lv_at hl 0 rfl) ?_
              refine lv_istore (lv' := [(8, .int (r_52 - r_46)), (7, .int (r_52 - r_46)), (6, .int r_46), (5, .int (nI i_27)), (4, .int v4_27), (3, .int v3_27), (2, .int r_14), (0, .ref aR0), (1, .int xw)]) hx hb dX6_ask_74 hl (by decide) rfl (fun ls hl => ?_)
              refine lv_iload_n hx hb dX6_ask_76 rfl (lv_at hl 5 rfl) ?_
              refine lv_if_lt (tgt := 87) hx hb dX6_ask_77 (by decide) (fun c_77 => ?_) (fun c_77 => ?_)
              · have c_77 : (v3_27 < 0) := c_77
                have hR := hR.trans (if_pos c_77)
                refine lv_iload hx hb dX6_ask_87 (lv_at hl 3 rfl) ?_
                refine lv_istore_n (lv' := [(3, .int (nI i_27)), (8, .int (r_52 - r_46)), (7, .int (r_52 - r_46)), (6, .int r_46), (5, .int (nI i_27)), (4, .int v4_27), (2, .int r_14), (0, .ref aR0), (1, .int xw)]) hx hb dX6_ask_89 rfl hl (by decide) rfl (fun ls hl => ?_)
                refine lv_iload hx hb dX6_ask_90 (lv_at hl 1 rfl) ?_
                refine lv_istore (lv' := [(4, .int (r_52 - r_46)), (3, .int (nI i_27)), (8, .int (r_52 - r_46)), (7, .int (r_52 - r_46)), (6, .int r_46), (5, .int (nI i_27)), (2, .int r_14), (0, .ref aR0), (1, .int xw)]) hx hb dX6_ask_92 hl (by decide) rfl (fun ls hl => ?_)
                refine lv_iinc (v := (nI (i_27 + 1))) (lv' := [(5, .int (nI (i_27 + 1))), (4, .int (r_52 - r_46)), (3, .int (nI i_27)), (8, .int (r_52 - r_46)), (7, .int (r_52 - r_46)), (6, .int r_46), (2, .int r_14), (0, .ref aR0), (1, .int xw)]) hx hb dX6_ask_94 hl (k := 5) rfl (nI_1 i_27) (by decide) rfl (fun ls hl => ?_)
                refine lv_goto (tgt := 27) hx hb dX6_ask_97 (by decide) ?_
                exact ih_27 (i_27 + 1) (r_52 - r_46) (nI i_27) _ _ _ (by omega) (by omega) hP hD hS (lv_sub hl [0, 1, 2, 6, 7, 8] rfl) (fun w_27 H locs ls he hP hD hS hl => kk w_27 H locs ls (hR.trans he) hP hD hS hl)
              · have c_77 : ¬ (v3_27 < 0) := c_77
                have hR := hR.trans (if_neg c_77)
                refine lv_iload hx hb dX6_ask_80 (lv_at hl 0 rfl) ?_
                refine lv_iload hx hb dX6_ask_82 (lv_at hl 4 rfl) ?_
                refine lv_icmp_ge (tgt := 94) hx hb dX6_ask_84 (by decide) (fun c_84 => ?_) (fun c_84 => ?_)
                · have c_84 : (v4_27 ≤ (r_52 - r_46)) := c_84
                  have hR := hR.trans (if_pos c_84)
                  refine lv_iinc (v := (nI (i_27 + 1))) (lv' := [(5, .int (nI (i_27 + 1))), (8, .int (r_52 - r_46)), (7, .int (r_52 - r_46)), (6, .int r_46), (4, .int v4_27), (3, .int v3_27), (2, .int r_14), (0, .ref aR0), (1, .int xw)]) hx hb dX6_ask_94 hl (k := 3) rfl (nI_1 i_27) (by decide) rfl (fun ls hl => ?_)
                  refine lv_goto (tgt := 27) hx hb dX6_ask_97 (by decide) ?_
                  exact ih_27 (i_27 + 1) v4_27 v3_27 _ _ _ (by omega) (by omega) hP hD hS (lv_sub hl [0, 4, 5, 6, 7, 8] rfl) (fun w_27 H locs ls he hP hD hS hl => kk w_27 H locs ls (hR.trans he) hP hD hS hl)
                · have c_84 : ¬ (v4_27 ≤ (r_52 - r_46)) := c_84
                  have hR := hR.trans (if_neg c_84)
                  refine lv_iload hx hb dX6_ask_87 (lv_at hl 3 rfl) ?_
                  refine lv_istore_n (lv' := [(3, .int (nI i_27)), (8, .int (r_52 - r_46)), (7, .int (r_52 - r_46)), (6, .int r_46), (5, .int (nI i_27)), (4, .int v4_27), (2, .int r_14), (0, .ref aR0), (1, .int xw)]) hx hb dX6_ask_89 rfl hl (by decide) rfl (fun ls hl => ?_)
                  refine lv_iload hx hb dX6_ask_90 (lv_at hl 1 rfl) ?_
                  refine lv_istore (lv' := [(4, .int (r_52 - r_46)), (3, .int (nI i_27)), (8, .int (r_52 - r_46)), (7, .int (r_52 - r_46)), (6, .int r_46), (5, .int (nI i_27)), (2, .int r_14), (0, .ref aR0), (1, .int xw)]) hx hb dX6_ask_92 hl (by decide) rfl (fun ls hl => ?_)
                  refine lv_iinc (v := (nI (i_27 + 1))) (lv' := [(5, .int (nI (i_27 + 1))), (4, .int (r_52 - r_46)), (3, .int (nI i_27)), (8, .int (r_52 - r_46)), (7, .int (r_52 - r_46)), (6, .int r_46), (2, .int r_14), (0, .ref aR0), (1, .int xw)]) hx hb dX6_ask_94 hl (k := 5) rfl (nI_1 i_27) (by decide) rfl (fun ls hl => ?_)
                  refine lv_goto (tgt := 27) hx hb dX6_ask_97 (by decide) ?_
                  exact ih_27 (i_27 + 1) (r_52 - r_46) (nI i_27) _ _ _ (by omega) (by omega) hP hD hS (lv_sub hl [0, 1, 2, 6, 7, 8] rfl) (fun w_27 H locs ls he hP hD hS hl => kk w_27 H locs ls (hR.trans he) hP hD hS hl)
            · have c_64 : ¬ (r_46 ≤ (r_52 - r_46)) := c_64
              have hR := hR.trans (if_neg c_64)
              refine lv_iload hx hb dX6_ask_67 (lv_at hl 1 rfl) ?_
              refine lv_goto (tgt := 74) hx hb dX6_ask_69 (by decide) ?_
              refine lv_istore (lv' := [(8, .int r_46), (7, .int (r_52 - r_46)), (6, .int r_46), (5, .int (nI i_27)), (4, .int v4_27), (3, .int v3_27), (2, .int r_14), (0, .ref aR0), (1, .int xw)]) hx hb dX6_ask_74 hl (by decide) rfl (fun ls hl => ?_)
              refine lv_iload_n hx hb dX6_ask_76 rfl (lv_at hl 5 rfl) ?_
              refine lv_if_lt (tgt := 87) hx hb dX6_ask_77 (by decide) (fun c_77 => ?_) (fun c_77 => ?_)
              · have c_77 : (v3_27 < 0) := c_77
                have hR := hR.trans (if_pos c_77)
                refine lv_iload hx hb dX6_ask_87 (lv_at hl 3 rfl) ?_
                refine lv_istore_n (lv' := [(3, .int (nI i_27)), (8, .int r_46), (7, .int (r_52 - r_46)), (6, .int r_46), (5, .int (nI i_27)), (4, .int v4_27), (2, .int r_14), (0, .ref aR0), (1, .int xw)]) hx hb dX6_ask_89 rfl hl (by decide) rfl (fun ls hl => ?_)
                refine lv_iload hx hb dX6_ask_90 (lv_at hl 1 rfl) ?_
                refine lv_istore (lv' := [(4, .int r_46), (3, .int (nI i_27)), (8, .int r_46), (7, .int (r_52 - r_46)), (6, .int r_46), (5, .int (nI i_27)), (2, .int r_14), (0, .ref aR0), (1, .int xw)]) hx hb dX6_ask_92 hl (by decide) rfl (fun ls hl => ?_)
                refine lv_iinc (v := (nI (i_27 + 1))) (lv' := [(5, .int (nI (i_27 + 1))), (4, .int r_46), (3, .int (nI i_27)), (8, .int r_46), (7, .int (r_52 - r_46)), (6, .int r_46), (2, .int r_14), (0, .ref aR0), (1, .int xw)]) hx hb dX6_ask_94 hl (k := 5) rfl (nI_1 i_27) (by decide) rfl (fun ls hl => ?_)
                refine lv_goto (tgt := 27) hx hb dX6_ask_97 (by decide) ?_
                exact ih_27 (i_27 + 1) r_46 (nI i_27) _ _ _ (by omega) (by omega) hP hD hS (lv_sub hl [0, 1, 2, 6, 7, 8] rfl) (fun w_27 H locs ls he hP hD hS hl => kk w_27 H locs ls (hR.trans he) hP hD hS hl)
              · have c_77 : ¬ (v3_27 < 0) := c_77
                have hR := hR.trans (if_neg c_77)
                refine lv_iload hx hb dX6_ask_80 (lv_at hl 0 rfl) ?_
                refine lv_iload hx hb dX6_ask_82 (lv_at hl 4 rfl) ?_
                refine lv_icmp_ge (tgt := 94) hx hb dX6_ask_84 (by decide) (fun c_84 => ?_) (fun c_84 => ?_)
                · have c_84 : (v4_27 ≤ r_46) := c_84
                  have hR := hR.trans (if_pos c_84)
                  refine lv_iinc (v := (nI (i_27 + 1))) (lv' := [(5, .int (nI (i_27 + 1))), (8, .int r_46), (7, .int (r_52 - r_46)), (6, .int r_46), (4, .int v4_27), (3, .int v3_27), (2, .int r_14), (0, .ref aR0), (1, .int xw)]) hx hb dX6_ask_94 hl (k := 3) rfl (nI_1 i_27) (by decide) rfl (fun ls hl => ?_)
                  refine lv_goto (tgt := 27) hx hb dX6_ask_97 (by decide) ?_
                  exact ih_27 (i_27 + 1) v4_27 v3_27 _ _ _ (by omega) (by omega) hP hD hS (lv_sub hl [0, 4, 5, 6, 7, 8] rfl) (fun w_27 H locs ls he hP hD hS hl => kk w_27 H locs ls (hR.trans he) hP hD hS hl)
                · have c_84 : ¬ (v4_27 ≤ r_46) := c_84
                  have hR := hR.trans (if_neg c_84)
                  refine lv_iload hx hb dX6_ask_87 (lv_at hl 3 rfl) ?_
                  refine lv_istore_n (lv' := [(3, .int (nI i_27)), (8, .int r_46), (7, .int (r_52 - r_46)), (6, .int r_46), (5, .int (nI i_27)), (4, .int v4_27), (2, .int r_14), (0, .ref aR0), (1, .int xw)]) hx hb dX6_ask_89 rfl hl (by decide) rfl (fun ls hl => ?_)
                  refine lv_iload hx hb dX6_ask_90 (lv_at hl 1 rfl) ?_
                  refine lv_istore (lv' := [(4, .int r_46), (3, .int (nI i_27)), (8, .int r_46), (7, .int (r_52 - r_46)), (6, .int r_46), (5, .int (nI i_27)), (2, .int r_14), (0, .ref aR0), (1, .int xw)]) hx hb dX6_ask_92 hl (by decide) rfl (fun ls hl => ?_)
                  refine lv_iinc (v := (nI (i_27 + 1))) (lv' := [(5, .int (nI (i_27 + 1))), (4, .int r_46), (3, .int (nI i_27)), (8, .int r_46), (7, .int (r_52 - r_46)), (6, .int r_46), (2, .int r_14), (0, .ref aR0), (1, .int xw)]) hx hb dX6_ask_94 hl (k := 5) rfl (nI_1 i_27) (by decide) rfl (fun ls hl => ?_)
                  refine lv_goto (tgt := 27) hx hb dX6_ask_97 (by decide) ?_
                  exact ih_27 (i_27 + 1) r_46 (nI i_27) _ _ _ (by omega) (by omega) hP hD hS (lv_sub hl [0, 1, 2, 6, 7, 8] rfl) (fun w_27 H locs ls he hP hD hS hl => kk w_27 H locs ls (hR.trans he) hP hD hS hl)
    refine hloop_27 (24 + 1) 0 (0 : Int32) (-6 : Int32) _ _ _ (by omega) (by omega) hP hD hS (lv_sub hl [0, 1, 2, 3, 4, 5] rfl) (fun w_27 H locs ls hw_27 hP hD hS hl => ?_)
    have hP : va_P δ vwCl (wR cI cJ cZ aR0 aR1 aR2 aR3 aR4 aR5 aR6 aR7 aR8 aR9 aR10 aR11 aR12 aR13 aR14 aR15 aR16 aR17 aR18 aR19 aR20 aR21 lv sg pd ac dd hd le bd my lf pa kp) H := hP
    have hD : va_D A (wR cI cJ cZ aR0 aR1 aR2 aR3 aR4 aR5 aR6 aR7 aR8 aR9 aR10 aR11 aR12 aR13 aR14 aR15 aR16 aR17 aR18 aR19 aR20 aR21 lv sg pd ac dd hd le bd my lf pa kp) := hD
    have hR := bnd_eq hR hw_27.symm
    refine lv_iload_n hx hb dX6_ask_100 rfl (lv_at hl 1 rfl) ?_
    refine lv_if_lt (tgt := 108) hx hb dX6_ask_101 (by decide) (fun c_101 => ?_) (fun c_101 => ?_)
    · have c_101 : (w_27.2 < 0) := c_101
      have hR := hR.trans (if_pos c_101)
      refine lv_iload_n hx hb dX6_ask_108 rfl (lv_at hl 1 rfl) ?_
      refine lv_goto (tgt := 114) hx hb dX6_ask_109 (by decide) ?_
      exact hret _ _ w_27.2 () _ _ hR hP hD hS dX6_ask_114
    · have c_101 : ¬ (w_27.2 < 0) := c_101
      have hR := hR.trans (if_neg c_101)
      refine lv_iload_n hx hb dX6_ask_104 rfl (lv_at hl 4 rfl) ?_
      refine lv_if_ne (tgt := 112) hx hb dX6_ask_105 (by decide) (fun c_105 => ?_) (fun c_105 => ?_)
      · have c_105 : ¬ (xw = 0) := c_105
        have hR := hR.trans (if_neg c_105)
        refine lv_iload hx hb dX6_ask_112 (lv_at hl 0 rfl) ?_
        exact hret _ _ w_27.1 () _ _ hR hP hD hS dX6_ask_114
      · have c_105 : (xw = 0) := c_105
        have hR := hR.trans (if_pos c_105)
        refine lv_iload_n hx hb dX6_ask_108 rfl (lv_at hl 1 rfl) ?_
        refine lv_goto (tgt := 114) hx hb dX6_ask_109 (by decide) ?_
        exact hret _ _ w_27.2 () _ _ hR hP hD hS dX6_ask_114
  · have c_7 : (r_4 = 0) := c_7
    have hR := hR.trans (if_pos c_7)
    refine lv_bipush (v := (-2 : Int32)) hx hb dX6_ask_10 (by decide) ?_
    exact hret _ _ (-2 : Int32) () _ _ hR hP hD hS dX6_ask_12

abbrev rm_X6_lowest : Room := { frames := 0, cells := 0, slots := 0, locals := 0 }
set_option maxHeartbeats 4000000 in
set_option maxRecDepth 100000 in
theorem c_X6_lowest (l : Launch) (δ : va_G) (cI cJ cZ : ClassId) (xu : Int64) (xl : Int64) (xp : Int32) (hlp : 0 < xl.toInt) (hup : 0 ≤ xu.toInt) : mMl l δ (mTy cI cJ cZ) yX6_lowest wsX6_lowest rm_X6_lowest [.long xu, .long xl, .int xp] ([] : va_W) (S := Unit) (fun r _ => F_X6_lowest xu xl xp = r) (fun _ => ([] : va_W)) := by
  refine mk_l (cc := cX6_lowest) (maxL := 11) (by decide) rfl (Nat.le_of_ble_eq_true rfl) ?_
  intro p e s m args below meth c A Q ls H locs hx hb hml hts hown hK hNW hA hP hD hS hl hret
  have hown : s.vm.findClass RX6 = some m.cls := hown
  have hl : lv_has ls 11 [(0, .long xu), (2, .long xl), (4, .int xp)] := hl
  have hR := F_X6_lowest.eq_1 xu xl xp
  refine lv_lload_n hx hb dX6_lowest_0 rfl (lv_at hl 1 rfl) ?_
  refine lv_lstore (lv' := [(5, .long xl), (0, .long xu), (2, .long xl), (4, .int xp)]) hx hb dX6_lowest_1 hl (by decide) rfl (fun ls hl => ?_)
  refine lv_lload_n hx hb dX6_lowest_3 rfl (lv_at hl 1 rfl) ?_
  refine lv_lstore (lv' := [(7, .long xu), (5, .long xl), (0, .long xu), (2, .long xl), (4, .int xp)]) hx hb dX6_lowest_4 hl (by decide) rfl (fun ls hl => ?_)
  have hloop_6 : ∀ (n_6 : Nat) (v7_6 : Int64) (v5_6 : Int64) (H : Heap) (locs : List Loc) (ls : Array Slot), (hn_6 : v7_6.toInt.toNat < n_6) → (hab_6 : 0 < v5_6.toInt ∧ 0 ≤ v7_6.toInt) → (hP : va_P δ vwCl ([] : va_W) H) → (hD : va_D A ([] : va_W)) → (hS : va_S A s.heap H locs) → (hl : lv_has ls 11 [(7, .long v7_6), (5, .long v5_6), (0, .long xu), (2, .long xl), (4, .int xp)]) → (kk : ∀ (w_6 : Int64 × Int64) (H : Heap) (locs : List Loc) (ls : Array Slot), L_X6_lowest_6  n_6 v7_6 v5_6 = w_6 → va_P δ vwCl ([] : va_W) H → va_D A ([] : va_W) → va_S A s.heap H locs → lv_has ls 11 [(7, .long w_6.1), (5, .long w_6.2), (0, .long xu), (2, .long xl), (4, .int xp)] → W p l e rm_X6_lowest s m args below meth c H locs 0 0 Q (F0 m 31 ls [])) → W p l e rm_X6_lowest s m args below meth c H locs 0 0 Q (F0 m 6 ls []) := by
    intro n_6
    induction n_6 with
    | zero => intro v7_6 v5_6 H locs ls hn_6 hab_6 hP hD hS hl kk; exact absurd hn_6 (by omega)
    | succ n_6 ih_6 =>
      intro v7_6 v5_6 H locs ls hn_6 hab_6 hP hD hS hl kk
      have hR := L_X6_lowest_6_s  n_6 v7_6 v5_6
      refine lv_lload hx hb dX6_lowest_6 (lv_at hl 0 rfl) ?_
      refine lv_lconst (v := (0 : Int64)) hx hb dX6_lowest_8 (by decide) ?_
      refine W.lcmp hx hb dX6_lowest_9 ?_
      refine lv_if_eq (tgt := 31) hx hb dX6_lowest_10 (by decide) (fun c_10 => ?_) (fun c_10 => ?_)
      · have c_10 : ((lg_cmp v7_6 (0 : Int64)) = 0) := c_10
        have hR := hR.trans (if_pos c_10)
        exact kk (v7_6, v5_6) H locs ls hR hP hD hS (lv_sub hl [0, 1, 2, 3, 4] rfl)
      · have c_10 : ¬ ((lg_cmp v7_6 (0 : Int64)) = 0) := c_10
        have hR := hR.trans (if_neg c_10)
        refine lv_lload hx hb dX6_lowest_13 (lv_at hl 1 rfl) ?_
        refine lv_lload hx hb dX6_lowest_15 (lv_at hl 0 rfl) ?_
        refine lv_lrem hx hb dX6_lowest_17 (lg_ne c_10) ?_
        refine lv_lstore (lv' := [(9, .long (v5_6 - v5_6 / v7_6 * v7_6)), (7, .long v7_6), (5, .long v5_6), (0, .long xu), (2, .long xl), (4, .int xp)]) hx hb dX6_lowest_18 hl (by decide) rfl (fun ls hl => ?_)
        refine lv_lload hx hb dX6_lowest_20 (lv_at hl 1 rfl) ?_
        refine lv_lstore (lv' := [(5, .long v7_6), (9, .long (v5_6 - v5_6 / v7_6 * v7_6)), (7, .long v7_6), (0, .long xu), (2, .long xl), (4, .int xp)]) hx hb dX6_lowest_22 hl (by decide) rfl (fun ls hl => ?_)
        refine lv_lload hx hb dX6_lowest_24 (lv_at hl 1 rfl) ?_
        refine lv_lstore (lv' := [(7, .long (v5_6 - v5_6 / v7_6 * v7_6)), (5, .long v7_6), (9, .long (v5_6 - v5_6 / v7_6 * v7_6)), (0, .long xu), (2, .long xl), (4, .int xp)]) hx hb dX6_lowest_26 hl (by decide) rfl (fun ls hl => ?_)
        refine lv_goto (tgt := 6) hx hb dX6_lowest_28 (by decide) ?_
        exact ih_6 (v5_6 - v5_6 / v7_6 * v7_6) v7_6 _ _ _ (low_m hab_6 (lg_ne c_10) hn_6) (low_p hab_6 (lg_ne c_10)) hP hD hS (lv_sub hl [0, 1, 3, 4, 5] rfl) (fun w_6 H locs ls he hP hD hS hl => kk w_6 H locs ls (hR.trans he) hP hD hS hl)
  refine hloop_6 (xu.toInt.toNat + 1) xu xl _ _ _ (by omega) (⟨hlp, hup⟩) hP hD hS (lv_sub hl [0, 1, 2, 3, 4] rfl) (fun w_6 H locs ls hw_6 hP hD hS hl => ?_)
  have hP : va_P δ vwCl ([] : va_W) H := hP
  have hD : va_D A ([] : va_W) := hD
  have hR := bnd_eq hR hw_6.symm
  refine lv_iload hx hb dX6_lowest_31 (lv_at hl 4 rfl) ?_
  refine lv_if_ne (tgt := 43) hx hb dX6_lowest_33 (by decide) (fun c_33 => ?_) (fun c_33 => ?_)
  · have c_33 : ¬ (xp = 0) := c_33
    have hR := hR.trans (if_neg c_33)
    refine lv_lload_n hx hb dX6_lowest_43 rfl (lv_at hl 3 rfl) ?_
    refine lv_lload hx hb dX6_lowest_44 (lv_at hl 1 rfl) ?_
    refine lv_ldiv hx hb dX6_lowest_46 (low_ne hw_6 hlp hup) ?_
    exact hret _ _ (xl / w_6.2) () _ _ hR hP hD hS dX6_lowest_47
  · have c_33 : (xp = 0) := c_33
    have hR := hR.trans (if_pos c_33)
    refine lv_lload_n hx hb dX6_lowest_36 rfl (lv_at hl 2 rfl) ?_
    refine lv_lload hx hb dX6_lowest_37 (lv_at hl 1 rfl) ?_
    refine lv_ldiv hx hb dX6_lowest_39 (low_ne hw_6 hlp hup) ?_
    refine lv_goto (tgt := 47) hx hb dX6_lowest_40 (by decide) ?_
    exact hret _ _ (xu / w_6.2) () _ _ hR hP hD hS dX6_lowest_47

abbrev rm_X6_tear : Room := { frames := 1, cells := 0, slots := 0, locals := 30 }
set_option maxHeartbeats 4000000 in
set_option maxRecDepth 100000 in
theorem c_X6_tear (l : Launch) (δ : va_G) (cI cJ cZ : ClassId) (aR0 aR1 aR2 aR3 aR4 aR5 aR6 aR7 aR8 aR9 aR10 aR11 aR12 aR13 aR14 aR15 aR16 aR17 aR18 aR19 aR20 aR21 : Nat) (lv : LV) (sg : SG) (pd : PD) (ac : AC) (dd : DD) (hd : HD) (le : LE) (bd : BD) (my : MY) (lf : LF) (pa : PA) (kp : KP) (xn : Int32) (xm : Int32) (xt : Int32) (xw : Int32) (xp : Int32) : mMl l δ (mTy cI cJ cZ) yX6_tear wsX6_tear rm_X6_tear [.ref aR0, .int xn, .int xm, .int xt, .int xw, .int xp] (wR cI cJ cZ aR0 aR1 aR2 aR3 aR4 aR5 aR6 aR7 aR8 aR9 aR10 aR11 aR12 aR13 aR14 aR15 aR16 aR17 aR18 aR19 aR20 aR21 lv sg pd ac dd hd le bd my lf pa kp) (S := PA) (fun r u => F_X6_tear pa xn xm xt xw xp = (r, u)) (fun u => (wR cI cJ cZ aR0 aR1 aR2 aR3 aR4 aR5 aR6 aR7 aR8 aR9 aR10 aR11 aR12 aR13 aR14 aR15 aR16 aR17 aR18 aR19 aR20 aR21 lv sg pd ac dd hd le bd my lf u kp)) := by
  refine mk_l (cc := cX6_tear) (maxL := 12) (by decide) rfl (Nat.le_of_ble_eq_true rfl) ?_
  intro p e s m args below meth c A Q ls H locs hx hb hml hts hown hK hNW hA hP hD hS hl hret
  have hown : s.vm.findClass RX6 = some m.cls := hown
  have hl : lv_has ls 12 [(0, .ref aR0), (1, .int xn), (2, .int xm), (3, .int xt), (4, .int xw), (5, .int xp)] := hl
  have hinX6 : ∀ w ∈ u_ws RX6 TX6 34, w ∈ wsX6_tear := (fun _ h => List.mem_cons_of_mem _ (List.mem_append_right _ (h)))
  have hR := F_X6_tear.eq_1 pa xn xm xt xw xp
  refine lv_iload_n hx hb dX6_tear_0 rfl (lv_at hl 1 rfl) ?_
  refine lv_i2l (v := (xn.toInt64)) hx hb dX6_tear_1 rfl ?_
  refine lv_lconst (v := (0 : Int64)) hx hb dX6_tear_2 (by decide) ?_
  refine lv_ldc2 (v := (9 : Int64)) hx hb hown (hts (.constantLong RX6 258 (9)) (List.mem_of_getElem? (i := 1) rfl)) dX6_tear_3 ?_
  have hr := mrS (p := p) (e := e) (R := rm_X6_tear) (below := below) (meth := meth) (H := H) (locs := locs) (ls := ls) (As := [.long (xn.toInt64), .long (0 : Int64), .long (9 : Int64)]) (rest := []) (c_X6_in l δ cI cJ cZ (xn.toInt64) (0 : Int64) (9 : Int64)) hx hb hml hts hown hK hNW hP hD [] rfl rfl (va_cwS 3 hts gX6_tear_X6_in rfl rfl rfl (by decide +kernel) ⟨(Nat.le_of_ble_eq_true rfl), (Nat.le_of_ble_eq_true rfl)⟩) rfl hl.1 rfl (Nat.le_of_ble_eq_true rfl) dX6_tear_6
  refine mc_i (wr := (wR cI cJ cZ aR0 aR1 aR2 aR3 aR4 aR5 aR6 aR7 aR8 aR9 aR10 aR11 aR12 aR13 aR14 aR15 aR16 aR17 aR18 aR19 aR20 aR21 lv sg pd ac dd hd le bd my lf pa kp)) hr hP hD hS hA [] [0, 1, 2, 3, 4, 5, 6, 7, 8, 9, 10, 11, 12, 13, 14, 15, 16, 17, 18, 19, 20, 21] [0, 1, 2, 3, 4, 5, 6, 7, 8, 9, 10, 11, 12, 13, 14, 15, 16, 17, 18, 19, 20, 21] rfl rfl rfl rfl rfl (wn := fun _ => (wR cI cJ cZ aR0 aR1 aR2 aR3 aR4 aR5 aR6 aR7 aR8 aR9 aR10 aR11 aR12 aR13 aR14 aR15 aR16 aR17 aR18 aR19 aR20 aR21 lv sg pd ac dd hd le bd my lf pa kp)) (fun _ => rfl) (fun r_6 _ H locs hw_6 hP hD hS => ?_)
  obtain ⟨hw_6, z_6⟩ := hw_6
  have hP : va_P δ vwCl (wR cI cJ cZ aR0 aR1 aR2 aR3 aR4 aR5 aR6 aR7 aR8 aR9 aR10 aR11 aR12 aR13 aR14 aR15 aR16 aR17 aR18 aR19 aR20 aR21 lv sg pd ac dd hd le bd my lf pa kp) H := hP
  have hD : va_D A (wR cI cJ cZ aR0 aR1 aR2 aR3 aR4 aR5 aR6 aR7 aR8 aR9 aR10 aR11 aR12 aR13 aR14 aR15 aR16 aR17 aR18 aR19 aR20 aR21 lv sg pd ac dd hd le bd my lf pa kp) := hD
  have hR := bnd_eq hR hw_6.symm
  refine lv_if_eq (tgt := 58) hx hb dX6_tear_9 (by decide) (fun c_9 => ?_) (fun c_9 => ?_)
  · have c_9 : (r_6 = 0) := c_9
    have hR := hR.trans (if_pos c_9)
    refine lv_ldc2 (v := (-1000000000000000002 : Int64)) hx hb hown (hts (.constantLong RX6 264 (-1000000000000000002)) (List.mem_of_getElem? (i := 4) rfl)) dX6_tear_58 ?_
    exact hret _ _ (-1000000000000000002 : Int64) pa _ _ hR hP hD hS dX6_tear_61
  · have c_9 : ¬ (r_6 = 0) := c_9
    have hR := hR.trans (if_neg c_9)
    refine lv_iload_n hx hb dX6_tear_12 rfl (lv_at hl 2 rfl) ?_
    refine lv_i2l (v := (xm.toInt64)) hx hb dX6_tear_13 rfl ?_
    refine lv_lconst (v := (0 : Int64)) hx hb dX6_tear_14 (by decide) ?_
    refine lv_ldc2 (v := (12 : Int64)) hx hb hown (hts (.constantLong RX6 260 (12)) (List.mem_of_getElem? (i := 2) rfl)) dX6_tear_15 ?_
    have hr := mrS (p := p) (e := e) (R := rm_X6_tear) (below := below) (meth := meth) (H := H) (locs := locs) (ls := ls) (As := [.long (xm.toInt64), .long (0 : Int64), .long (12 : Int64)]) (rest := []) (c_X6_in l δ cI cJ cZ (xm.toInt64) (0 : Int64) (12 : Int64)) hx hb hml hts hown hK hNW hP hD [] rfl rfl (va_cwS 3 hts gX6_tear_X6_in rfl rfl rfl (by decide +kernel) ⟨(Nat.le_of_ble_eq_true rfl), (Nat.le_of_ble_eq_true rfl)⟩) rfl hl.1 rfl (Nat.le_of_ble_eq_true rfl) dX6_tear_18
    refine mc_i (wr := (wR cI cJ cZ aR0 aR1 aR2 aR3 aR4 aR5 aR6 aR7 aR8 aR9 aR10 aR11 aR12 aR13 aR14 aR15 aR16 aR17 aR18 aR19 aR20 aR21 lv sg pd ac dd hd le bd my lf pa kp)) hr hP hD hS hA [] [0, 1, 2, 3, 4, 5, 6, 7, 8, 9, 10, 11, 12, 13, 14, 15, 16, 17, 18, 19, 20, 21] [0, 1, 2, 3, 4, 5, 6, 7, 8, 9, 10, 11, 12, 13, 14, 15, 16, 17, 18, 19, 20, 21] rfl rfl rfl rfl rfl (wn := fun _ => (wR cI cJ cZ aR0 aR1 aR2 aR3 aR4 aR5 aR6 aR7 aR8 aR9 aR10 aR11 aR12 aR13 aR14 aR15 aR16 aR17 aR18 aR19 aR20 aR21 lv sg pd ac dd hd le bd my lf pa kp)) (fun _ => rfl) (fun r_18 _ H locs hw_18 hP hD hS => ?_)
    obtain ⟨hw_18, z_18⟩ := hw_18
    have hP : va_P δ vwCl (wR cI cJ cZ aR0 aR1 aR2 aR3 aR4 aR5 aR6 aR7 aR8 aR9 aR10 aR11 aR12 aR13 aR14 aR15 aR16 aR17 aR18 aR19 aR20 aR21 lv sg pd ac dd hd le bd my lf pa kp) H := hP
    have hD : va_D A (wR cI cJ cZ aR0 aR1 aR2 aR3 aR4 aR5 aR6 aR7 aR8 aR9 aR10 aR11 aR12 aR13 aR14 aR15 aR16 aR17 aR18 aR19 aR20 aR21 lv sg pd ac dd hd le bd my lf pa kp) := hD
    have hR := bnd_eq hR hw_18.symm
    refine lv_if_eq (tgt := 58) hx hb dX6_tear_21 (by decide) (fun c_21 => ?_) (fun c_21 => ?_)
    · have c_21 : (r_18 = 0) := c_21
      have hR := hR.trans (if_pos c_21)
      refine lv_ldc2 (v := (-1000000000000000002 : Int64)) hx hb hown (hts (.constantLong RX6 264 (-1000000000000000002)) (List.mem_of_getElem? (i := 4) rfl)) dX6_tear_58 ?_
      exact hret _ _ (-1000000000000000002 : Int64) pa _ _ hR hP hD hS dX6_tear_61
    · have c_21 : ¬ (r_18 = 0) := c_21
      have hR := hR.trans (if_neg c_21)
      refine lv_iload_n hx hb dX6_tear_24 rfl (lv_at hl 3 rfl) ?_
      refine lv_i2l (v := (xt.toInt64)) hx hb dX6_tear_25 rfl ?_
      refine lv_lconst (v := (0 : Int64)) hx hb dX6_tear_26 (by decide) ?_
      refine lv_ldc2 (v := (10 : Int64)) hx hb hown (hts (.constantLong RX6 262 (10)) (List.mem_of_getElem? (i := 3) rfl)) dX6_tear_27 ?_
      have hr := mrS (p := p) (e := e) (R := rm_X6_tear) (below := below) (meth := meth) (H := H) (locs := locs) (ls := ls) (As := [.long (xt.toInt64), .long (0 : Int64), .long (10 : Int64)]) (rest := []) (c_X6_in l δ cI cJ cZ (xt.toInt64) (0 : Int64) (10 : Int64)) hx hb hml hts hown hK hNW hP hD [] rfl rfl (va_cwS 3 hts gX6_tear_X6_in rfl rfl rfl (by decide +kernel) ⟨(Nat.le_of_ble_eq_true rfl), (Nat.le_of_ble_eq_true rfl)⟩) rfl hl.1 rfl (Nat.le_of_ble_eq_true rfl) dX6_tear_30
      refine mc_i (wr := (wR cI cJ cZ aR0 aR1 aR2 aR3 aR4 aR5 aR6 aR7 aR8 aR9 aR10 aR11 aR12 aR13 aR14 aR15 aR16 aR17 aR18 aR19 aR20 aR21 lv sg pd ac dd hd le bd my lf pa kp)) hr hP hD hS hA [] [0, 1, 2, 3, 4, 5, 6, 7, 8, 9, 10, 11, 12, 13, 14, 15, 16, 17, 18, 19, 20, 21] [0, 1, 2, 3, 4, 5, 6, 7, 8, 9, 10, 11, 12, 13, 14, 15, 16, 17, 18, 19, 20, 21] rfl rfl rfl rfl rfl (wn := fun _ => (wR cI cJ cZ aR0 aR1 aR2 aR3 aR4 aR5 aR6 aR7 aR8 aR9 aR10 aR11 aR12 aR13 aR14 aR15 aR16 aR17 aR18 aR19 aR20 aR21 lv sg pd ac dd hd le bd my lf pa kp)) (fun _ => rfl) (fun r_30 _ H locs hw_30 hP hD hS => ?_)
      obtain ⟨hw_30, z_30⟩ := hw_30
      have hP : va_P δ vwCl (wR cI cJ cZ aR0 aR1 aR2 aR3 aR4 aR5 aR6 aR7 aR8 aR9 aR10 aR11 aR12 aR13 aR14 aR15 aR16 aR17 aR18 aR19 aR20 aR21 lv sg pd ac dd hd le bd my lf pa kp) H := hP
      have hD : va_D A (wR cI cJ cZ aR0 aR1 aR2 aR3 aR4 aR5 aR6 aR7 aR8 aR9 aR10 aR11 aR12 aR13 aR14 aR15 aR16 aR17 aR18 aR19 aR20 aR21 lv sg pd ac dd hd le bd my lf pa kp) := hD
      have hR := bnd_eq hR hw_30.symm
      refine lv_if_eq (tgt := 58) hx hb dX6_tear_33 (by decide) (fun c_33 => ?_) (fun c_33 => ?_)
      · have c_33 : (r_30 = 0) := c_33
        have hR := hR.trans (if_pos c_33)
        refine lv_ldc2 (v := (-1000000000000000002 : Int64)) hx hb hown (hts (.constantLong RX6 264 (-1000000000000000002)) (List.mem_of_getElem? (i := 4) rfl)) dX6_tear_58 ?_
        exact hret _ _ (-1000000000000000002 : Int64) pa _ _ hR hP hD hS dX6_tear_61
      · have c_33 : ¬ (r_30 = 0) := c_33
        have hR := hR.trans (if_neg c_33)
        refine lv_iload hx hb dX6_tear_36 (lv_at hl 4 rfl) ?_
        refine lv_i2l (v := (xw.toInt64)) hx hb dX6_tear_38 rfl ?_
        refine lv_lconst (v := (0 : Int64)) hx hb dX6_tear_39 (by decide) ?_
        refine lv_lconst (v := (1 : Int64)) hx hb dX6_tear_40 (by decide) ?_
        have hr := mrS (p := p) (e := e) (R := rm_X6_tear) (below := below) (meth := meth) (H := H) (locs := locs) (ls := ls) (As := [.long (xw.toInt64), .long (0 : Int64), .long (1 : Int64)]) (rest := []) (c_X6_in l δ cI cJ cZ (xw.toInt64) (0 : Int64) (1 : Int64)) hx hb hml hts hown hK hNW hP hD [] rfl rfl (va_cwS 3 hts gX6_tear_X6_in rfl rfl rfl (by decide +kernel) ⟨(Nat.le_of_ble_eq_true rfl), (Nat.le_of_ble_eq_true rfl)⟩) rfl hl.1 rfl (Nat.le_of_ble_eq_true rfl) dX6_tear_41
        refine mc_i (wr := (wR cI cJ cZ aR0 aR1 aR2 aR3 aR4 aR5 aR6 aR7 aR8 aR9 aR10 aR11 aR12 aR13 aR14 aR15 aR16 aR17 aR18 aR19 aR20 aR21 lv sg pd ac dd hd le bd my lf pa kp)) hr hP hD hS hA [] [0, 1, 2, 3, 4, 5, 6, 7, 8, 9, 10, 11, 12, 13, 14, 15, 16, 17, 18, 19, 20, 21] [0, 1, 2, 3, 4, 5, 6, 7, 8, 9, 10, 11, 12, 13, 14, 15, 16, 17, 18, 19, 20, 21] rfl rfl rfl rfl rfl (wn := fun _ => (wR cI cJ cZ aR0 aR1 aR2 aR3 aR4 aR5 aR6 aR7 aR8 aR9 aR10 aR11 aR12 aR13 aR14 aR15 aR16 aR17 aR18 aR19 aR20 aR21 lv sg pd ac dd hd le bd my lf pa kp)) (fun _ => rfl) (fun r_41 _ H locs hw_41 hP hD hS => ?_)
        obtain ⟨hw_41, z_41⟩ := hw_41
        have hP : va_P δ vwCl (wR cI cJ cZ aR0 aR1 aR2 aR3 aR4 aR5 aR6 aR7 aR8 aR9 aR10 aR11 aR12 aR13 aR14 aR15 aR16 aR17 aR18 aR19 aR20 aR21 lv sg pd ac dd hd le bd my lf pa kp) H := hP
        have hD : va_D A (wR cI cJ cZ aR0 aR1 aR2 aR3 aR4 aR5 aR6 aR7 aR8 aR9 aR10 aR11 aR12 aR13 aR14 aR15 aR16 aR17 aR18 aR19 aR20 aR21 lv sg pd ac dd hd le bd my lf pa kp) := hD
        have hR := bnd_eq hR hw_41.symm
        refine lv_if_eq (tgt := 58) hx hb dX6_tear_44 (by decide) (fun c_44 => ?_) (fun c_44 => ?_)
        · have c_44 : (r_41 = 0) := c_44
          have hR := hR.trans (if_pos c_44)
          refine lv_ldc2 (v := (-1000000000000000002 : Int64)) hx hb hown (hts (.constantLong RX6 264 (-1000000000000000002)) (List.mem_of_getElem? (i := 4) rfl)) dX6_tear_58 ?_
          exact hret _ _ (-1000000000000000002 : Int64) pa _ _ hR hP hD hS dX6_tear_61
        · have c_44 : ¬ (r_41 = 0) := c_44
          have hR := hR.trans (if_neg c_44)
          refine lv_iload hx hb dX6_tear_47 (lv_at hl 5 rfl) ?_
          refine lv_i2l (v := (xp.toInt64)) hx hb dX6_tear_49 rfl ?_
          refine lv_lconst (v := (0 : Int64)) hx hb dX6_tear_50 (by decide) ?_
          refine lv_lconst (v := (1 : Int64)) hx hb dX6_tear_51 (by decide) ?_
          have hr := mrS (p := p) (e := e) (R := rm_X6_tear) (below := below) (meth := meth) (H := H) (locs := locs) (ls := ls) (As := [.long (xp.toInt64), .long (0 : Int64), .long (1 : Int64)]) (rest := []) (c_X6_in l δ cI cJ cZ (xp.toInt64) (0 : Int64) (1 : Int64)) hx hb hml hts hown hK hNW hP hD [] rfl rfl (va_cwS 3 hts gX6_tear_X6_in rfl rfl rfl (by decide +kernel) ⟨(Nat.le_of_ble_eq_true rfl), (Nat.le_of_ble_eq_true rfl)⟩) rfl hl.1 rfl (Nat.le_of_ble_eq_true rfl) dX6_tear_52
          refine mc_i (wr := (wR cI cJ cZ aR0 aR1 aR2 aR3 aR4 aR5 aR6 aR7 aR8 aR9 aR10 aR11 aR12 aR13 aR14 aR15 aR16 aR17 aR18 aR19 aR20 aR21 lv sg pd ac dd hd le bd my lf pa kp)) hr hP hD hS hA [] [0, 1, 2, 3, 4, 5, 6, 7, 8, 9, 10, 11, 12, 13, 14, 15, 16, 17, 18, 19, 20, 21] [0, 1, 2, 3, 4, 5, 6, 7, 8, 9, 10, 11, 12, 13, 14, 15, 16, 17, 18, 19, 20, 21] rfl rfl rfl rfl rfl (wn := fun _ => (wR cI cJ cZ aR0 aR1 aR2 aR3 aR4 aR5 aR6 aR7 aR8 aR9 aR10 aR11 aR12 aR13 aR14 aR15 aR16 aR17 aR18 aR19 aR20 aR21 lv sg pd ac dd hd le bd my lf pa kp)) (fun _ => rfl) (fun r_52 _ H locs hw_52 hP hD hS => ?_)
          obtain ⟨hw_52, z_52⟩ := hw_52
          have hP : va_P δ vwCl (wR cI cJ cZ aR0 aR1 aR2 aR3 aR4 aR5 aR6 aR7 aR8 aR9 aR10 aR11 aR12 aR13 aR14 aR15 aR16 aR17 aR18 aR19 aR20 aR21 lv sg pd ac dd hd le bd my lf pa kp) H := hP
          have hD : va_D A (wR cI cJ cZ aR0 aR1 aR2 aR3 aR4 aR5 aR6 aR7 aR8 aR9 aR10 aR11 aR12 aR13 aR14 aR15 aR16 aR17 aR18 aR19 aR20 aR21 lv sg pd ac dd hd le bd my lf pa kp) := hD
          have hR := bnd_eq hR hw_52.symm
          refine lv_if_ne (tgt := 62) hx hb dX6_tear_55 (by decide) (fun c_55 => ?_) (fun c_55 => ?_)
          · have c_55 : ¬ (r_52 = 0) := c_55
            have hR := hR.trans (if_neg c_55)
            refine lv_iconst (v := (0 : Int32)) hx hb dX6_tear_62 (by decide) ?_
            refine lv_istore (lv' := [(6, .int (0 : Int32)), (0, .ref aR0), (1, .int xn), (2, .int xm), (3, .int xt), (4, .int xw), (5, .int xp)]) hx hb dX6_tear_63 hl (by decide) rfl (fun ls hl => ?_)
            have hloop_65 : ∀ (n_65 : Nat) (i_65 : Nat) (pa_65 : PA) (H : Heap) (locs : List Loc) (ls : Array Slot), (hi_65 : i_65 ≤ 10) → (hn_65 : 10 < i_65 + n_65) → (hP : va_P δ vwCl (wR cI cJ cZ aR0 aR1 aR2 aR3 aR4 aR5 aR6 aR7 aR8 aR9 aR10 aR11 aR12 aR13 aR14 aR15 aR16 aR17 aR18 aR19 aR20 aR21 lv sg pd ac dd hd le bd my lf pa_65 kp) H) → (hD : va_D A (wR cI cJ cZ aR0 aR1 aR2 aR3 aR4 aR5 aR6 aR7 aR8 aR9 aR10 aR11 aR12 aR13 aR14 aR15 aR16 aR17 aR18 aR19 aR20 aR21 lv sg pd ac dd hd le bd my lf pa_65 kp)) → (hS : va_S A s.heap H locs) → (hl : lv_has ls 12 [(6, .int (nI i_65)), (0, .ref aR0), (1, .int xn), (2, .int xm), (3, .int xt), (4, .int xw), (5, .int xp)]) → (kk : ∀ (w_65 : PA) (H : Heap) (locs : List Loc) (ls : Array Slot), L_X6_tear_65 xn n_65 i_65 pa_65 = w_65 → va_P δ vwCl (wR cI cJ cZ aR0 aR1 aR2 aR3 aR4 aR5 aR6 aR7 aR8 aR9 aR10 aR11 aR12 aR13 aR14 aR15 aR16 aR17 aR18 aR19 aR20 aR21 lv sg pd ac dd hd le bd my lf w_65 kp) H → va_D A (wR cI cJ cZ aR0 aR1 aR2 aR3 aR4 aR5 aR6 aR7 aR8 aR9 aR10 aR11 aR12 aR13 aR14 aR15 aR16 aR17 aR18 aR19 aR20 aR21 lv sg pd ac dd hd le bd my lf w_65 kp) → va_S A s.heap H locs → lv_has ls 12 [(0, .ref aR0), (1, .int xn), (2, .int xm), (3, .int xt), (4, .int xw), (5, .int xp)] → W p l e rm_X6_tear s m args below meth c H locs 0 0 Q (F0 m 96 ls [])) → W p l e rm_X6_tear s m args below meth c H locs 0 0 Q (F0 m 65 ls []) := by
              intro n_65
              induction n_65 with
              | zero => intro i_65 pa_65 H locs ls hi_65 hn_65 hP hD hS hl kk; exact absurd hn_65 (by omega)
              | succ n_65 ih_65 =>
                intro i_65 pa_65 H locs ls hi_65 hn_65 hP hD hS hl kk
                have hR := L_X6_tear_65_s xn n_65 i_65 pa_65
                refine lv_iload hx hb dX6_tear_65 (lv_at hl 0 rfl) ?_
                refine lv_bipush (v := (10 : Int32)) hx hb dX6_tear_67 (by decide) ?_
                refine lv_icmp_ge (tgt := 96) hx hb dX6_tear_69 (by decide) (fun c_69 => ?_) (fun c_69 => ?_)
                · have c_69 : ((10 : Int32) ≤ (nI i_65)) := c_69
                  have hR := hR.trans (if_pos c_69)
                  exact kk pa_65 H locs ls hR hP hD hS (lv_sub hl [1, 2, 3, 4, 5, 6] rfl)
                · have c_69 : ¬ ((10 : Int32) ≤ (nI i_65)) := c_69
                  have hR := hR.trans (if_neg c_69)
                  have hlt_65 : i_65 < 10 := lt_g c_69 hi_65 (by decide)
                  refine lv_aload_n hx hb dX6_tear_72 rfl (lv_at hl 1 rfl) ?_
                  refine va_get (D := δ) (ci := 6) (v := .ref aR19) (C := RX6) (T := TX6) (N := 34) hx hb hts hinX6 hown hK hP 0 rfl rfl 29 (by decide) (hts (.fieldLink RX6 64 "GloveHoursModel" "parts" "[J") (List.mem_of_getElem? (i := 5) rfl)) (fun _ h9 => h9) rfl dX6_tear_73 ?_
                  refine lv_iload hx hb dX6_tear_76 (lv_at hl 0 rfl) ?_
                  refine lv_iload hx hb dX6_tear_78 (lv_at hl 0 rfl) ?_
                  refine lv_iload_n hx hb dX6_tear_80 rfl (lv_at hl 2 rfl) ?_
                  refine lv_icmp_ne (tgt := 88) hx hb dX6_tear_81 (by decide) (fun c_81 => ?_) (fun c_81 => ?_)
                  · have c_81 : ¬ ((nI i_65) = xn) := c_81
                    have hR := hR.trans (if_neg c_81)
                    refine lv_lconst (v := (0 : Int64)) hx hb dX6_tear_88 (by decide) ?_
                    refine va_last hx hb hK hP hD hS 19 1 rfl rfl (vp_in_nI (by omega) (by decide)) dX6_tear_89 (fun H locs hP hD hS => ?_)
                    have hP : va_P δ vwCl (wR cI cJ cZ aR0 aR1 aR2 aR3 aR4 aR5 aR6 aR7 aR8 aR9 aR10 aR11 aR12 aR13 aR14 aR15 aR16 aR17 aR18 aR19 aR20 aR21 lv sg pd ac dd hd le bd my lf (vp_updL (tParts pa_65) (nI i_65).toNatClampNeg (0 : Int64)) kp) H := hP
                    have hD : va_D A (wR cI cJ cZ aR0 aR1 aR2 aR3 aR4 aR5 aR6 aR7 aR8 aR9 aR10 aR11 aR12 aR13 aR14 aR15 aR16 aR17 aR18 aR19 aR20 aR21 lv sg pd ac dd hd le bd my lf (vp_updL (tParts pa_65) (nI i_65).toNatClampNeg (0 : Int64)) kp) := hD
                    refine lv_iinc (v := (nI (i_65 + 1))) (lv' := [(6, .int (nI (i_65 + 1))), (0, .ref aR0), (1, .int xn), (2, .int xm), (3, .int xt), (4, .int xw), (5, .int xp)]) hx hb dX6_tear_90 hl (k := 0) rfl (nI_1 i_65) (by decide) rfl (fun ls hl => ?_)
                    refine lv_goto (tgt := 65) hx hb dX6_tear_93 (by decide) ?_
                    exact ih_65 (i_65 + 1) (vp_updL (tParts pa_65) (nI i_65).toNatClampNeg (0 : Int64)) _ _ _ (by omega) (by omega) hP hD hS (lv_sub hl [0, 1, 2, 3, 4, 5, 6] rfl) (fun w_65 H locs ls he hP hD hS hl => kk w_65 H locs ls (hR.trans he) hP hD hS hl)
                  · have c_81 : ((nI i_65) = xn) := c_81
                    have hR := hR.trans (if_pos c_81)
                    refine lv_lconst (v := (1 : Int64)) hx hb dX6_tear_84 (by decide) ?_
                    refine lv_goto (tgt := 89) hx hb dX6_tear_85 (by decide) ?_
                    refine va_last hx hb hK hP hD hS 19 1 rfl rfl (vp_in_nI (by omega) (by decide)) dX6_tear_89 (fun H locs hP hD hS => ?_)
                    have hP : va_P δ vwCl (wR cI cJ cZ aR0 aR1 aR2 aR3 aR4 aR5 aR6 aR7 aR8 aR9 aR10 aR11 aR12 aR13 aR14 aR15 aR16 aR17 aR18 aR19 aR20 aR21 lv sg pd ac dd hd le bd my lf (vp_updL (tParts pa_65) (nI i_65).toNatClampNeg (1 : Int64)) kp) H := hP
                    have hD : va_D A (wR cI cJ cZ aR0 aR1 aR2 aR3 aR4 aR5 aR6 aR7 aR8 aR9 aR10 aR11 aR12 aR13 aR14 aR15 aR16 aR17 aR18 aR19 aR20 aR21 lv sg pd ac dd hd le bd my lf (vp_updL (tParts pa_65) (nI i_65).toNatClampNeg (1 : Int64)) kp) := hD
                    refine lv_iinc (v := (nI (i_65 + 1))) (lv' := [(6, .int (nI (i_65 + 1))), (0, .ref aR0), (1, .int xn), (2, .int xm), (3, .int xt), (4, .int xw), (5, .int xp)]) hx hb dX6_tear_90 hl (k := 0) rfl (nI_1 i_65) (by decide) rfl (fun ls hl => ?_)
                    refine lv_goto (tgt := 65) hx hb dX6_tear_93 (by decide) ?_
                    exact ih_65 (i_65 + 1) (vp_updL (tParts pa_65) (nI i_65).toNatClampNeg (1 : Int64)) _ _ _ (by omega) (by omega) hP hD hS (lv_sub hl [0, 1, 2, 3, 4, 5, 6] rfl) (fun w_65 H locs ls he hP hD hS hl => kk w_65 H locs ls (hR.trans he) hP hD hS hl)
            refine hloop_65 (10 + 1) 0 pa _ _ _ (by omega) (by omega) hP hD hS (lv_sub hl [0, 1, 2, 3, 4, 5, 6] rfl) (fun w_65 H locs ls hw_65 hP hD hS hl => ?_)
            have hP : va_P δ vwCl (wR cI cJ cZ aR0 aR1 aR2 aR3 aR4 aR5 aR6 aR7 aR8 aR9 aR10 aR11 aR12 aR13 aR14 aR15 aR16 aR17 aR18 aR19 aR20 aR21 lv sg pd ac dd hd le bd my lf w_65 kp) H := hP
            have hD : va_D A (wR cI cJ cZ aR0 aR1 aR2 aR3 aR4 aR5 aR6 aR7 aR8 aR9 aR10 aR11 aR12 aR13 aR14 aR15 aR16 aR17 aR18 aR19 aR20 aR21 lv sg pd ac dd hd le bd my lf w_65 kp) := hD
            have hR := bnd_eq hR hw_65.symm
            refine lv_lconst (v := (1 : Int64)) hx hb dX6_tear_96 (by decide) ?_
            refine lv_lstore (lv' := [(6, .long (1 : Int64)), (0, .ref aR0), (1, .int xn), (2, .int xm), (3, .int xt), (4, .int xw), (5, .int xp)]) hx hb dX6_tear_97 hl (by decide) rfl (fun ls hl => ?_)
            refine lv_lconst (v := (0 : Int64)) hx hb dX6_tear_99 (by decide) ?_
            refine lv_lstore (lv' := [(8, .long (0 : Int64)), (6, .long (1 : Int64)), (0, .ref aR0), (1, .int xn), (2, .int xm), (3, .int xt), (4, .int xw), (5, .int xp)]) hx hb dX6_tear_100 hl (by decide) rfl (fun ls hl => ?_)
            refine lv_iconst (v := (0 : Int32)) hx hb dX6_tear_102 (by decide) ?_
            refine lv_istore (lv' := [(10, .int (0 : Int32)), (8, .long (0 : Int64)), (6, .long (1 : Int64)), (0, .ref aR0), (1, .int xn), (2, .int xm), (3, .int xt), (4, .int xw), (5, .int xp)]) hx hb dX6_tear_103 hl (by decide) rfl (fun ls hl => ?_)
            have hloop_105 : ∀ (n_105 : Nat) (i_105 : Nat) (v8_105 : Int64) (v6_105 : Int64) (pa_105 : PA) (H : Heap) (locs : List Loc) (ls : Array Slot), (hi_105 : i_105 ≤ xm.toNatClampNeg) → (hn_105 : xm.toNatClampNeg < i_105 + n_105) → (hP : va_P δ vwCl (wR cI cJ cZ aR0 aR1 aR2 aR3 aR4 aR5 aR6 aR7 aR8 aR9 aR10 aR11 aR12 aR13 aR14 aR15 aR16 aR17 aR18 aR19 aR20 aR21 lv sg pd ac dd hd le bd my lf pa_105 kp) H) → (hD : va_D A (wR cI cJ cZ aR0 aR1 aR2 aR3 aR4 aR5 aR6 aR7 aR8 aR9 aR10 aR11 aR12 aR13 aR14 aR15 aR16 aR17 aR18 aR19 aR20 aR21 lv sg pd ac dd hd le bd my lf pa_105 kp)) → (hS : va_S A s.heap H locs) → (hl : lv_has ls 12 [(10, .int (nI i_105)), (8, .long v8_105), (6, .long v6_105), (0, .ref aR0), (1, .int xn), (2, .int xm), (3, .int xt), (4, .int xw), (5, .int xp)]) → (kk : ∀ (w_105 : Int64 × Int64 × PA) (H : Heap) (locs : List Loc) (ls : Array Slot), L_X6_tear_105 xm xt n_105 i_105 v8_105 v6_105 pa_105 = w_105 → va_P δ vwCl (wR cI cJ cZ aR0 aR1 aR2 aR3 aR4 aR5 aR6 aR7 aR8 aR9 aR10 aR11 aR12 aR13 aR14 aR15 aR16 aR17 aR18 aR19 aR20 aR21 lv sg pd ac dd hd le bd my lf w_105.2.2 kp) H → va_D A (wR cI cJ cZ aR0 aR1 aR2 aR3 aR4 aR5 aR6 aR7 aR8 aR9 aR10 aR11 aR12 aR13 aR14 aR15 aR16 aR17 aR18 aR19 aR20 aR21 lv sg pd ac dd hd le bd my lf w_105.2.2 kp) → va_S A s.heap H locs → lv_has ls 12 [(8, .long w_105.1), (6, .long w_105.2.1), (0, .ref aR0), (1, .int xn), (2, .int xm), (3, .int xt), (4, .int xw), (5, .int xp)] → W p l e rm_X6_tear s m args below meth c H locs 0 0 Q (F0 m 230 ls [])) → W p l e rm_X6_tear s m args below meth c H locs 0 0 Q (F0 m 105 ls []) := by
              intro n_105
              induction n_105 with
              | zero => intro i_105 v8_105 v6_105 pa_105 H locs ls hi_105 hn_105 hP hD hS hl kk; exact absurd hn_105 (by omega)
              | succ n_105 ih_105 =>
                intro i_105 v8_105 v6_105 pa_105 H locs ls hi_105 hn_105 hP hD hS hl kk
                have hR := L_X6_tear_105_s xm xt n_105 i_105 v8_105 v6_105 pa_105
                refine lv_iload hx hb dX6_tear_105 (lv_at hl 0 rfl) ?_
                refine lv_iload_n hx hb dX6_tear_107 rfl (lv_at hl 5 rfl) ?_
                refine lv_icmp_ge (tgt := 230) hx hb dX6_tear_108 (by decide) (fun c_108 => ?_) (fun c_108 => ?_)
                · have c_108 : (xm ≤ (nI i_105)) := c_108
                  have hR := hR.trans (if_pos c_108)
                  exact kk (v8_105, v6_105, pa_105) H locs ls hR hP hD hS (lv_sub hl [1, 2, 3, 4, 5, 6, 7, 8] rfl)
                · have c_108 : ¬ (xm ≤ (nI i_105)) := c_108
                  have hR := hR.trans (if_neg c_108)
                  have hlt_105 : i_105 < xm.toNatClampNeg := lt_c c_108 hi_105
                  refine lv_ldc2 (v := (10 : Int64)) hx hb hown (hts (.constantLong RX6 262 (10)) (List.mem_of_getElem? (i := 3) rfl)) dX6_tear_111 ?_
                  refine lv_lload hx hb dX6_tear_114 (lv_at hl 1 rfl) ?_
                  refine lv_lload hx hb dX6_tear_116 (lv_at hl 2 rfl) ?_
                  refine lv_ladd hx hb dX6_tear_118 ?_
                  refine lv_aload_n hx hb dX6_tear_119 rfl (lv_at hl 3 rfl) ?_
                  refine va_get (D := δ) (ci := 6) (v := .ref aR19) (C := RX6) (T := TX6) (N := 34) hx hb hts hinX6 hown hK hP 0 rfl rfl 29 (by decide) (hts (.fieldLink RX6 64 "GloveHoursModel" "parts" "[J") (List.mem_of_getElem? (i := 5) rfl)) (fun _ h9 => h9) rfl dX6_tear_120 ?_
                  refine lv_iconst (v := (0 : Int32)) hx hb dX6_tear_123 (by decide) ?_
                  refine va_lald hx hb hK hP 19 1 rfl rfl (by unfold vp_in; decide) dX6_tear_124 ?_
                  refine lv_lsub hx hb dX6_tear_125 ?_
                  refine lv_lmul hx hb dX6_tear_126 ?_
                  refine lv_lstore (lv' := [(8, .long ((10 : Int64) * ((v8_105 + v6_105) - ((tParts pa_105) (0 : Int32).toNatClampNeg)))), (10, .int (nI i_105)), (6, .long v6_105), (0, .ref aR0), (1, .int xn), (2, .int xm), (3, .int xt), (4, .int xw), (5, .int xp)]) hx hb dX6_tear_127 hl (by decide) rfl (fun ls hl => ?_)
                  refine lv_aload_n hx hb dX6_tear_129 rfl (lv_at hl 3 rfl) ?_
                  refine va_get (D := δ) (ci := 6) (v := .ref aR19) (C := RX6) (T := TX6) (N := 34) hx hb hts hinX6 hown hK hP 0 rfl rfl 29 (by decide) (hts (.fieldLink RX6 64 "GloveHoursModel" "parts" "[J") (List.mem_of_getElem? (i := 5) rfl)) (fun _ h9 => h9) rfl dX6_tear_130 ?_
                  refine lv_iconst (v := (0 : Int32)) hx hb dX6_tear_133 (by decide) ?_
                  refine lv_ldc2 (v := (10 : Int64)) hx hb hown (hts (.constantLong RX6 262 (10)) (List.mem_of_getElem? (i := 3) rfl)) dX6_tear_134 ?_
                  refine lv_aload_n hx hb dX6_tear_137 rfl (lv_at hl 3 rfl) ?_
                  refine va_get (D := δ) (ci := 6) (v := .ref aR19) (C := RX6) (T := TX6) (N := 34) hx hb hts hinX6 hown hK hP 0 rfl rfl 29 (by decide) (hts (.fieldLink RX6 64 "GloveHoursModel" "parts" "[J") (List.mem_of_getElem? (i := 5) rfl)) (fun _ h9 => h9) rfl dX6_tear_138 ?_
                  refine lv_iconst (v := (0 : Int32)) hx hb dX6_tear_141 (by decide) ?_
                  refine va_lald hx hb hK hP 19 1 rfl rfl (by unfold vp_in; decide) dX6_tear_142 ?_
                  refine lv_lmul hx hb dX6_tear_143 ?_
                  refine lv_iload_n hx hb dX6_tear_144 rfl (lv_at hl 6 rfl) ?_
                  refine lv_i2l (v := (xt.toInt64)) hx hb dX6_tear_145 rfl ?_
                  refine lv_aload_n hx hb dX6_tear_146 rfl (lv_at hl 3 rfl) ?_
                  refine va_get (D := δ) (ci := 6) (v := .ref aR19) (C := RX6) (T := TX6) (N := 34) hx hb hts hinX6 hown hK hP 0 rfl rfl 29 (by decide) (hts (.fieldLink RX6 64 "GloveHoursModel" "parts" "[J") (List.mem_of_getElem? (i := 5) rfl)) (fun _ h9 => h9) rfl dX6_tear_147 ?_
                  refine lv_iconst (v := (1 : Int32)) hx hb dX6_tear_150 (by decide) ?_
                  refine va_lald hx hb hK hP 19 1 rfl rfl (by unfold vp_in; decide) dX6_tear_151 ?_
                  refine lv_lmul hx hb dX6_tear_152 ?_
                  refine lv_ladd hx hb dX6_tear_153 ?_
                  refine va_last hx hb hK hP hD hS 19 1 rfl rfl (by unfold vp_in; decide) dX6_tear_154 (fun H locs hP hD hS => ?_)
                  have hP : va_P δ vwCl (wR cI cJ cZ aR0 aR1 aR2 aR3 aR4 aR5 aR6 aR7 aR8 aR9 aR10 aR11 aR12 aR13 aR14 aR15 aR16 aR17 aR18 aR19 aR20 aR21 lv sg pd ac dd hd le bd my lf (vp_updL (tParts pa_105) (0 : Int32).toNatClampNeg (((10 : Int64) * ((tParts pa_105) (0 : Int32).toNatClampNeg)) + ((xt.toInt64) * ((tParts pa_105) (1 : Int32).toNatClampNeg)))) kp) H := hP
                  have hD : va_D A (wR cI cJ cZ aR0 aR1 aR2 aR3 aR4 aR5 aR6 aR7 aR8 aR9 aR10 aR11 aR12 aR13 aR14 aR15 aR16 aR17 aR18 aR19 aR20 aR21 lv sg pd ac dd hd le bd my lf (vp_updL (tParts pa_105) (0 : Int32).toNatClampNeg (((10 : Int64) * ((tParts pa_105) (0 : Int32).toNatClampNeg)) + ((xt.toInt64) * ((tParts pa_105) (1 : Int32).toNatClampNeg)))) kp) := hD
                  refine lv_iconst (v := (1 : Int32)) hx hb dX6_tear_155 (by decide) ?_
                  refine lv_istore (lv' := [(11, .int (1 : Int32)), (8, .long ((10 : Int64) * ((v8_105 + v6_105) - ((tParts pa_105) (0 : Int32).toNatClampNeg)))), (10, .int (nI i_105)), (6, .long v6_105), (0, .ref aR0), (1, .int xn), (2, .int xm), (3, .int xt), (4, .int xw), (5, .int xp)]) hx hb dX6_tear_156 hl (by decide) rfl (fun ls hl => ?_)
                  have hloop_158 : ∀ (n_158 : Nat) (i_158 : Nat) (pa_158 : PA) (H : Heap) (locs : List Loc) (ls : Array Slot), (hi_158 : i_158 ≤ 10) → (hn_158 : 10 < i_158 + n_158) → (hP : va_P δ vwCl (wR cI cJ cZ aR0 aR1 aR2 aR3 aR4 aR5 aR6 aR7 aR8 aR9 aR10 aR11 aR12 aR13 aR14 aR15 aR16 aR17 aR18 aR19 aR20 aR21 lv sg pd ac dd hd le bd my lf pa_158 kp) H) → (hD : va_D A (wR cI cJ cZ aR0 aR1 aR2 aR3 aR4 aR5 aR6 aR7 aR8 aR9 aR10 aR11 aR12 aR13 aR14 aR15 aR16 aR17 aR18 aR19 aR20 aR21 lv sg pd ac dd hd le bd my lf pa_158 kp)) → (hS : va_S A s.heap H locs) → (hl : lv_has ls 12 [(11, .int (nI i_158)), (8, .long ((10 : Int64) * ((v8_105 + v6_105) - ((tParts pa_105) (0 : Int32).toNatClampNeg)))), (10, .int (nI i_105)), (6, .long v6_105), (0, .ref aR0), (1, .int xn), (2, .int xm), (3, .int xt), (4, .int xw), (5, .int xp)]) → (kk : ∀ (w_158 : PA) (H : Heap) (locs : List Loc) (ls : Array Slot), L_X6_tear_158 xt n_158 i_158 pa_158 = w_158 → va_P δ vwCl (wR cI cJ cZ aR0 aR1 aR2 aR3 aR4 aR5 aR6 aR7 aR8 aR9 aR10 aR11 aR12 aR13 aR14 aR15 aR16 aR17 aR18 aR19 aR20 aR21 lv sg pd ac dd hd le bd my lf w_158 kp) H → va_D A (wR cI cJ cZ aR0 aR1 aR2 aR3 aR4 aR5 aR6 aR7 aR8 aR9 aR10 aR11 aR12 aR13 aR14 aR15 aR16 aR17 aR18 aR19 aR20 aR21 lv sg pd ac dd hd le bd my lf w_158 kp) → va_S A s.heap H locs → lv_has ls 12 [(8, .long ((10 : Int64) * ((v8_105 + v6_105) - ((tParts pa_105) (0 : Int32).toNatClampNeg)))), (10, .int (nI i_105)), (6, .long v6_105), (0, .ref aR0), (1, .int xn), (2, .int xm), (3, .int xt), (4, .int xw), (5, .int xp)] → W p l e rm_X6_tear s m args below meth c H locs 0 0 Q (F0 m 216 ls [])) → W p l e rm_X6_tear s m args below meth c H locs 0 0 Q (F0 m 158 ls []) := by
                    intro n_158
                    induction n_158 with
                    | zero => intro i_158 pa_158 H locs ls hi_158 hn_158 hP hD hS hl kk; exact absurd hn_158 (by omega)
                    | succ n_158 ih_158 =>
                      intro i_158 pa_158 H locs ls hi_158 hn_158 hP hD hS hl kk
                      have hR := L_X6_tear_158_s xt n_158 i_158 pa_158
                      refine lv_iload hx hb dX6_tear_158 (lv_at hl 0 rfl) ?_
                      refine lv_bipush (v := (10 : Int32)) hx hb dX6_tear_160 (by decide) ?_
                      refine lv_icmp_ge (tgt := 216) hx hb dX6_tear_162 (by decide) (fun c_162 => ?_) (fun c_162 => ?_)
                      · have c_162 : ((10 : Int32) ≤ (nI i_158)) := c_162
                        have hR := hR.trans (if_pos c_162)
                        exact kk pa_158 H locs ls hR hP hD hS (lv_sub hl [1, 2, 3, 4, 5, 6, 7, 8, 9] rfl)
                      · have c_162 : ¬ ((10 : Int32) ≤ (nI i_158)) := c_162
                        have hR := hR.trans (if_neg c_162)
                        have hlt_158 : i_158 < 10 := lt_g c_162 hi_158 (by decide)
                        refine lv_aload_n hx hb dX6_tear_165 rfl (lv_at hl 4 rfl) ?_
                        refine va_get (D := δ) (ci := 6) (v := .ref aR19) (C := RX6) (T := TX6) (N := 34) hx hb hts hinX6 hown hK hP 0 rfl rfl 29 (by decide) (hts (.fieldLink RX6 64 "GloveHoursModel" "parts" "[J") (List.mem_of_getElem? (i := 5) rfl)) (fun _ h9 => h9) rfl dX6_tear_166 ?_
                        refine lv_iload hx hb dX6_tear_169 (lv_at hl 0 rfl) ?_
                        refine lv_ldc2 (v := (10 : Int64)) hx hb hown (hts (.constantLong RX6 262 (10)) (List.mem_of_getElem? (i := 3) rfl)) dX6_tear_171 ?_
                        refine lv_iload_n hx hb dX6_tear_174 rfl (lv_at hl 7 rfl) ?_
                        refine lv_i2l (v := (xt.toInt64)) hx hb dX6_tear_175 rfl ?_
                        refine lv_lsub hx hb dX6_tear_176 ?_
                        refine lv_aload_n hx hb dX6_tear_177 rfl (lv_at hl 4 rfl) ?_
                        refine va_get (D := δ) (ci := 6) (v := .ref aR19) (C := RX6) (T := TX6) (N := 34) hx hb hts hinX6 hown hK hP 0 rfl rfl 29 (by decide) (hts (.fieldLink RX6 64 "GloveHoursModel" "parts" "[J") (List.mem_of_getElem? (i := 5) rfl)) (fun _ h9 => h9) rfl dX6_tear_178 ?_
                        refine lv_iload hx hb dX6_tear_181 (lv_at hl 0 rfl) ?_
                        refine va_lald hx hb hK hP 19 1 rfl rfl (vp_in_nI (by omega) (by decide)) dX6_tear_183 ?_
                        refine lv_lmul hx hb dX6_tear_184 ?_
                        refine lv_iload hx hb dX6_tear_185 (lv_at hl 0 rfl) ?_
                        refine lv_bipush (v := (9 : Int32)) hx hb dX6_tear_187 (by decide) ?_
                        refine lv_icmp_ge (tgt := 207) hx hb dX6_tear_189 (by decide) (fun c_189 => ?_) (fun c_189 => ?_)
                        · have c_189 : ((9 : Int32) ≤ (nI i_158)) := c_189
                          have hR := hR.trans (if_pos c_189)
                          refine lv_lconst (v := (0 : Int64)) hx hb dX6_tear_207 (by decide) ?_
                          refine lv_ladd hx hb dX6_tear_208 ?_
                          refine va_last hx hb hK hP hD hS 19 1 rfl rfl (vp_in_nI (by omega) (by decide)) dX6_tear_209 (fun H locs hP hD hS => ?_)
                          have hP : va_P δ vwCl (wR cI cJ cZ aR0 aR1 aR2 aR3 aR4 aR5 aR6 aR7 aR8 aR9 aR10 aR11 aR12 aR13 aR14 aR15 aR16 aR17 aR18 aR19 aR20 aR21 lv sg pd ac dd hd le bd my lf (vp_updL (tParts pa_158) (nI i_158).toNatClampNeg ((((10 : Int64) - (xt.toInt64)) * ((tParts pa_158) (nI i_158).toNatClampNeg)) + (0 : Int64))) kp) H := hP
                          have hD : va_D A (wR cI cJ cZ aR0 aR1 aR2 aR3 aR4 aR5 aR6 aR7 aR8 aR9 aR10 aR11 aR12 aR13 aR14 aR15 aR16 aR17 aR18 aR19 aR20 aR21 lv sg pd ac dd hd le bd my lf (vp_updL (tParts pa_158) (nI i_158).toNatClampNeg ((((10 : Int64) - (xt.toInt64)) * ((tParts pa_158) (nI i_158).toNatClampNeg)) + (0 : Int64))) kp) := hD
                          refine lv_iinc (v := (nI (i_158 + 1))) (lv' := [(11, .int (nI (i_158 + 1))), (8, .long ((10 : Int64) * ((v8_105 + v6_105) - ((tParts pa_105) (0 : Int32).toNatClampNeg)))), (10, .int (nI i_105)), (6, .long v6_105), (0, .ref aR0), (1, .int xn), (2, .int xm), (3, .int xt), (4, .int xw), (5, .int xp)]) hx hb dX6_tear_210 hl (k := 0) rfl (nI_1 i_158) (by decide) rfl (fun ls hl => ?_)
                          refine lv_goto (tgt := 158) hx hb dX6_tear_213 (by decide) ?_
                          exact ih_158 (i_158 + 1) (vp_updL (tParts pa_158) (nI i_158).toNatClampNeg ((((10 : Int64) - (xt.toInt64)) * ((tParts pa_158) (nI i_158).toNatClampNeg)) + (0 : Int64))) _ _ _ (by omega) (by omega) hP hD hS (lv_sub hl [0, 1, 2, 3, 4, 5, 6, 7, 8, 9] rfl) (fun w_158 H locs ls he hP hD hS hl => kk w_158 H locs ls (hR.trans he) hP hD hS hl)
                        · have c_189 : ¬ ((9 : Int32) ≤ (nI i_158)) := c_189
                          have hR := hR.trans (if_neg c_189)
                          refine lv_iload_n hx hb dX6_tear_192 rfl (lv_at hl 7 rfl) ?_
                          refine lv_i2l (v := (xt.toInt64)) hx hb dX6_tear_193 rfl ?_
                          refine lv_aload_n hx hb dX6_tear_194 rfl (lv_at hl 4 rfl) ?_
                          refine va_get (D := δ) (ci := 6) (v := .ref aR19) (C := RX6) (T := TX6) (N := 34) hx hb hts hinX6 hown hK hP 0 rfl rfl 29 (by decide) (hts (.fieldLink RX6 64 "GloveHoursModel" "parts" "[J") (List.mem_of_getElem? (i := 5) rfl)) (fun _ h9 => h9) rfl dX6_tear_195 ?_
                          refine lv_iload hx hb dX6_tear_198 (lv_at hl 0 rfl) ?_
                          refine lv_iconst (v := (1 : Int32)) hx hb dX6_tear_200 (by decide) ?_
                          refine lv_iadd hx hb dX6_tear_201 ?_
                          refine lv_topi (fun y_201 e_201 => ?_)
                          obtain rfl : y_201 = (nI (i_158 + 1)) := e_201.trans (nI_add i_158 1)
                          refine va_lald hx hb hK hP 19 1 rfl rfl (vp_in_nI (lt_9 c_189 hlt_158) (by decide)) dX6_tear_202 ?_
                          refine lv_lmul hx hb dX6_tear_203 ?_
                          refine lv_goto (tgt := 208) hx hb dX6_tear_204 (by decide) ?_
                          refine lv_ladd hx hb dX6_tear_208 ?_
                          refine va_last hx hb hK hP hD hS 19 1 rfl rfl (vp_in_nI (by omega) (by decide)) dX6_tear_209 (fun H locs hP hD hS => ?_)
                          have hP : va_P δ vwCl (wR cI cJ cZ aR0 aR1 aR2 aR3 aR4 aR5 aR6 aR7 aR8 aR9 aR10 aR11 aR12 aR13 aR14 aR15 aR16 aR17 aR18 aR19 aR20 aR21 lv sg pd ac dd hd le bd my lf (vp_updL (tParts pa_158) (nI i_158).toNatClampNeg ((((10 : Int64) - (xt.toInt64)) * ((tParts pa_158) (nI i_158).toNatClampNeg)) + ((xt.toInt64) * ((tParts pa_158) (nI (i_158 + 1)).toNatClampNeg)))) kp) H := hP
                          have hD : va_D A (wR cI cJ cZ aR0 aR1 aR2 aR3 aR4 aR5 aR6 aR7 aR8 aR9 aR10 aR11 aR12 aR13 aR14 aR15 aR16 aR17 aR18 aR19 aR20 aR21 lv sg pd ac dd hd le bd my lf (vp_updL (tParts pa_158) (nI i_158).toNatClampNeg ((((10 : Int64) - (xt.toInt64)) * ((tParts pa_158) (nI i_158).toNatClampNeg)) + ((xt.toInt64) * ((tParts pa_158) (nI (i_158 + 1)).toNatClampNeg)))) kp) := hD
                          refine lv_iinc (v := (nI (i_158 + 1))) (lv' := [(11, .int (nI (i_158 + 1))), (8, .long ((10 : Int64) * ((v8_105 + v6_105) - ((tParts pa_105) (0 : Int32).toNatClampNeg)))), (10, .int (nI i_105)), (6, .long v6_105), (0, .ref aR0), (1, .int xn), (2, .int xm), (3, .int xt), (4, .int xw), (5, .int xp)]) hx hb dX6_tear_210 hl (k := 0) rfl (nI_1 i_158) (by decide) rfl (fun ls hl => ?_)
                          refine lv_goto (tgt := 158) hx hb dX6_tear_213 (by decide) ?_
                          exact ih_158 (i_158 + 1) (vp_updL (tParts pa_158) (nI i_158).toNatClampNeg ((((10 : Int64) - (xt.toInt64)) * ((tParts pa_158) (nI i_158).toNatClampNeg)) + ((xt.toInt64) * ((tParts pa_158) (nI (i_158 + 1)).toNatClampNeg)))) _ _ _ (by omega) (by omega) hP hD hS (lv_sub hl [0, 1, 2, 3, 4, 5, 6, 7, 8, 9] rfl) (fun w_158 H locs ls he hP hD hS hl => kk w_158 H locs ls (hR.trans he) hP hD hS hl)
                  refine hloop_158 (10 + 1) 1 (vp_updL (tParts pa_105) (0 : Int32).toNatClampNeg (((10 : Int64) * ((tParts pa_105) (0 : Int32).toNatClampNeg)) + ((xt.toInt64) * ((tParts pa_105) (1 : Int32).toNatClampNeg)))) _ _ _ (by omega) (by omega) hP hD hS (lv_sub hl [0, 1, 2, 3, 4, 5, 6, 7, 8, 9] rfl) (fun w_158 H locs ls hw_158 hP hD hS hl => ?_)
                  have hP : va_P δ vwCl (wR cI cJ cZ aR0 aR1 aR2 aR3 aR4 aR5 aR6 aR7 aR8 aR9 aR10 aR11 aR12 aR13 aR14 aR15 aR16 aR17 aR18 aR19 aR20 aR21 lv sg pd ac dd hd le bd my lf w_158 kp) H := hP
                  have hD : va_D A (wR cI cJ cZ aR0 aR1 aR2 aR3 aR4 aR5 aR6 aR7 aR8 aR9 aR10 aR11 aR12 aR13 aR14 aR15 aR16 aR17 aR18 aR19 aR20 aR21 lv sg pd ac dd hd le bd my lf w_158 kp) := hD
                  have hR := bnd_eq hR hw_158.symm
                  refine lv_lload hx hb dX6_tear_216 (lv_at hl 2 rfl) ?_
                  refine lv_ldc2 (v := (10 : Int64)) hx hb hown (hts (.constantLong RX6 262 (10)) (List.mem_of_getElem? (i := 3) rfl)) dX6_tear_218 ?_
                  refine lv_lmul hx hb dX6_tear_221 ?_
                  refine lv_lstore (lv' := [(6, .long (v6_105 * (10 : Int64))), (8, .long ((10 : Int64) * ((v8_105 + v6_105) - ((tParts pa_105) (0 : Int32).toNatClampNeg)))), (10, .int (nI i_105)), (0, .ref aR0), (1, .int xn), (2, .int xm), (3, .int xt), (4, .int xw), (5, .int xp)]) hx hb dX6_tear_222 hl (by decide) rfl (fun ls hl => ?_)
                  refine lv_iinc (v := (nI (i_105 + 1))) (lv' := [(10, .int (nI (i_105 + 1))), (6, .long (v6_105 * (10 : Int64))), (8, .long ((10 : Int64) * ((v8_105 + v6_105) - ((tParts pa_105) (0 : Int32).toNatClampNeg)))), (0, .ref aR0), (1, .int xn), (2, .int xm), (3, .int xt), (4, .int xw), (5, .int xp)]) hx hb dX6_tear_224 hl (k := 2) rfl (nI_1 i_105) (by decide) rfl (fun ls hl => ?_)
                  refine lv_goto (tgt := 105) hx hb dX6_tear_227 (by decide) ?_
                  exact ih_105 (i_105 + 1) ((10 : Int64) * ((v8_105 + v6_105) - ((tParts pa_105) (0 : Int32).toNatClampNeg))) (v6_105 * (10 : Int64)) w_158 _ _ _ (by omega) (by omega) hP hD hS (lv_sub hl [0, 2, 1, 3, 4, 5, 6, 7, 8] rfl) (fun w_105 H locs ls he hP hD hS hl => kk w_105 H locs ls (hR.trans he) hP hD hS hl)
            refine hloop_105 (xm.toNatClampNeg + 1) 0 (0 : Int64) (1 : Int64) w_65 _ _ _ (by omega) (by omega) hP hD hS (lv_sub hl [0, 1, 2, 3, 4, 5, 6, 7, 8] rfl) (fun w_105 H locs ls hw_105 hP hD hS hl => ?_)
            have hP : va_P δ vwCl (wR cI cJ cZ aR0 aR1 aR2 aR3 aR4 aR5 aR6 aR7 aR8 aR9 aR10 aR11 aR12 aR13 aR14 aR15 aR16 aR17 aR18 aR19 aR20 aR21 lv sg pd ac dd hd le bd my lf w_105.2.2 kp) H := hP
            have hD : va_D A (wR cI cJ cZ aR0 aR1 aR2 aR3 aR4 aR5 aR6 aR7 aR8 aR9 aR10 aR11 aR12 aR13 aR14 aR15 aR16 aR17 aR18 aR19 aR20 aR21 lv sg pd ac dd hd le bd my lf w_105.2.2 kp) := hD
            have hR := bnd_eq hR hw_105.symm
            refine lv_iload hx hb dX6_tear_230 (lv_at hl 6 rfl) ?_
            refine lv_if_ne (tgt := 247) hx hb dX6_tear_232 (by decide) (fun c_232 => ?_) (fun c_232 => ?_)
            · have c_232 : ¬ (xw = 0) := c_232
              have hR := hR.trans (if_neg c_232)
              refine lv_lload hx hb dX6_tear_247 (lv_at hl 0 rfl) ?_
              refine lv_lload hx hb dX6_tear_249 (lv_at hl 1 rfl) ?_
              refine lv_iload hx hb dX6_tear_251 (lv_at hl 7 rfl) ?_
              have hr := mrS (p := p) (e := e) (R := rm_X6_tear) (below := below) (meth := meth) (H := H) (locs := locs) (ls := ls) (As := [.long w_105.1, .long w_105.2.1, .int xp]) (rest := []) (c_X6_lowest l δ cI cJ cZ w_105.1 w_105.2.1 xp (tear_l hw_65 hw_105 hw_6 c_9 hw_18 c_21 hw_30 c_33) (by first | exact tear_u0 hw_65 hw_105 hw_6 c_9 hw_18 c_21 hw_30 c_33 | exact tear_u1 hw_65 hw_105 hw_6 c_9 hw_18 c_21 hw_30 c_33)) hx hb hml hts hown hK hNW hP hD [] rfl rfl (va_cwS 3 hts gX6_tear_X6_lowest rfl rfl rfl (by decide +kernel) ⟨(Nat.le_of_ble_eq_true rfl), (Nat.le_of_ble_eq_true rfl)⟩) rfl hl.1 rfl (Nat.le_of_ble_eq_true rfl) dX6_tear_253
              refine mc_l (wr := (wR cI cJ cZ aR0 aR1 aR2 aR3 aR4 aR5 aR6 aR7 aR8 aR9 aR10 aR11 aR12 aR13 aR14 aR15 aR16 aR17 aR18 aR19 aR20 aR21 lv sg pd ac dd hd le bd my lf w_105.2.2 kp)) hr hP hD hS hA [] [0, 1, 2, 3, 4, 5, 6, 7, 8, 9, 10, 11, 12, 13, 14, 15, 16, 17, 18, 19, 20, 21] [0, 1, 2, 3, 4, 5, 6, 7, 8, 9, 10, 11, 12, 13, 14, 15, 16, 17, 18, 19, 20, 21] rfl rfl rfl rfl rfl (wn := fun _ => (wR cI cJ cZ aR0 aR1 aR2 aR3 aR4 aR5 aR6 aR7 aR8 aR9 aR10 aR11 aR12 aR13 aR14 aR15 aR16 aR17 aR18 aR19 aR20 aR21 lv sg pd ac dd hd le bd my lf w_105.2.2 kp)) (fun _ => rfl) (fun r_253 _ H locs hw_253 hP hD hS => ?_)
              have hP : va_P δ vwCl (wR cI cJ cZ aR0 aR1 aR2 aR3 aR4 aR5 aR6 aR7 aR8 aR9 aR10 aR11 aR12 aR13 aR14 aR15 aR16 aR17 aR18 aR19 aR20 aR21 lv sg pd ac dd hd le bd my lf w_105.2.2 kp) H := hP
              have hD : va_D A (wR cI cJ cZ aR0 aR1 aR2 aR3 aR4 aR5 aR6 aR7 aR8 aR9 aR10 aR11 aR12 aR13 aR14 aR15 aR16 aR17 aR18 aR19 aR20 aR21 lv sg pd ac dd hd le bd my lf w_105.2.2 kp) := hD
              have hR := bnd_eq hR hw_253.symm
              exact hret _ _ r_253 w_105.2.2 _ _ hR hP hD hS dX6_tear_256
            · have c_232 : (xw = 0) := c_232
              have hR := hR.trans (if_pos c_232)
              refine lv_lload hx hb dX6_tear_235 (lv_at hl 1 rfl) ?_
              refine lv_aload_n hx hb dX6_tear_237 rfl (lv_at hl 2 rfl) ?_
              refine va_get (D := δ) (ci := 6) (v := .ref aR19) (C := RX6) (T := TX6) (N := 34) hx hb hts hinX6 hown hK hP 0 rfl rfl 29 (by decide) (hts (.fieldLink RX6 64 "GloveHoursModel" "parts" "[J") (List.mem_of_getElem? (i := 5) rfl)) (fun _ h9 => h9) rfl dX6_tear_238 ?_
              refine lv_iconst (v := (0 : Int32)) hx hb dX6_tear_241 (by decide) ?_
              refine va_lald hx hb hK hP 19 1 rfl rfl (by unfold vp_in; decide) dX6_tear_242 ?_
              refine lv_lsub hx hb dX6_tear_243 ?_
              refine lv_goto (tgt := 249) hx hb dX6_tear_244 (by decide) ?_
              refine lv_lload hx hb dX6_tear_249 (lv_at hl 1 rfl) ?_
              refine lv_iload hx hb dX6_tear_251 (lv_at hl 7 rfl) ?_
              have hr := mrS (p := p) (e := e) (R := rm_X6_tear) (below := below) (meth := meth) (H := H) (locs := locs) (ls := ls) (As := [.long (w_105.2.1 - ((tParts w_105.2.2) (0 : Int32).toNatClampNeg)), .long w_105.2.1, .int xp]) (rest := []) (c_X6_lowest l δ cI cJ cZ (w_105.2.1 - ((tParts w_105.2.2) (0 : Int32).toNatClampNeg)) w_105.2.1 xp (tear_l hw_65 hw_105 hw_6 c_9 hw_18 c_21 hw_30 c_33) (by first | exact tear_u0 hw_65 hw_105 hw_6 c_9 hw_18 c_21 hw_30 c_33 | exact tear_u1 hw_65 hw_105 hw_6 c_9 hw_18 c_21 hw_30 c_33)) hx hb hml hts hown hK hNW hP hD [] rfl rfl (va_cwS 3 hts gX6_tear_X6_lowest rfl rfl rfl (by decide +kernel) ⟨(Nat.le_of_ble_eq_true rfl), (Nat.le_of_ble_eq_true rfl)⟩) rfl hl.1 rfl (Nat.le_of_ble_eq_true rfl) dX6_tear_253
              refine mc_l (wr := (wR cI cJ cZ aR0 aR1 aR2 aR3 aR4 aR5 aR6 aR7 aR8 aR9 aR10 aR11 aR12 aR13 aR14 aR15 aR16 aR17 aR18 aR19 aR20 aR21 lv sg pd ac dd hd le bd my lf w_105.2.2 kp)) hr hP hD hS hA [] [0, 1, 2, 3, 4, 5, 6, 7, 8, 9, 10, 11, 12, 13, 14, 15, 16, 17, 18, 19, 20, 21] [0, 1, 2, 3, 4, 5, 6, 7, 8, 9, 10, 11, 12, 13, 14, 15, 16, 17, 18, 19, 20, 21] rfl rfl rfl rfl rfl (wn := fun _ => (wR cI cJ cZ aR0 aR1 aR2 aR3 aR4 aR5 aR6 aR7 aR8 aR9 aR10 aR11 aR12 aR13 aR14 aR15 aR16 aR17 aR18 aR19 aR20 aR21 lv sg pd ac dd hd le bd my lf w_105.2.2 kp)) (fun _ => rfl) (fun r_253 _ H locs hw_253 hP hD hS => ?_)
              have hP : va_P δ vwCl (wR cI cJ cZ aR0 aR1 aR2 aR3 aR4 aR5 aR6 aR7 aR8 aR9 aR10 aR11 aR12 aR13 aR14 aR15 aR16 aR17 aR18 aR19 aR20 aR21 lv sg pd ac dd hd le bd my lf w_105.2.2 kp) H := hP
              have hD : va_D A (wR cI cJ cZ aR0 aR1 aR2 aR3 aR4 aR5 aR6 aR7 aR8 aR9 aR10 aR11 aR12 aR13 aR14 aR15 aR16 aR17 aR18 aR19 aR20 aR21 lv sg pd ac dd hd le bd my lf w_105.2.2 kp) := hD
              have hR := bnd_eq hR hw_253.symm
              exact hret _ _ r_253 w_105.2.2 _ _ hR hP hD hS dX6_tear_256
          · have c_55 : (r_52 = 0) := c_55
            have hR := hR.trans (if_pos c_55)
            refine lv_ldc2 (v := (-1000000000000000002 : Int64)) hx hb hown (hts (.constantLong RX6 264 (-1000000000000000002)) (List.mem_of_getElem? (i := 4) rfl)) dX6_tear_58 ?_
            exact hret _ _ (-1000000000000000002 : Int64) pa _ _ hR hP hD hS dX6_tear_61

abbrev rm_X6_vespers : Room := { frames := 4, cells := 0, slots := 0, locals := 91 }
set_option maxHeartbeats 4000000 in
set_option maxRecDepth 100000 in
theorem c_X6_vespers (l : Launch) (δ : va_G) (cI cJ cZ : ClassId) (aR0 aR1 aR2 aR3 aR4 aR5 aR6 aR7 aR8 aR9 aR10 aR11 aR12 aR13 aR14 aR15 aR16 aR17 aR18 aR19 aR20 aR21 : Nat) (lv : LV) (sg : SG) (pd : PD) (ac : AC) (dd : DD) (hd : HD) (le : LE) (bd : BD) (my : MY) (lf : LF) (pa : PA) (kp : KP) (xc : Int32) (xn : Int32) : mMi l δ (mTy cI cJ cZ) yX6_vespers wsX6_vespers rm_X6_vespers [.ref aR0, .int xc, .int xn] (wR cI cJ cZ aR0 aR1 aR2 aR3 aR4 aR5 aR6 aR7 aR8 aR9 aR10 aR11 aR12 aR13 aR14 aR15 aR16 aR17 aR18 aR19 aR20 aR21 lv sg pd ac dd hd le bd my lf pa kp) (S := Unit) (fun r _ => F_X6_vespers lv xc xn = r) (fun _ => (wR cI cJ cZ aR0 aR1 aR2 aR3 aR4 aR5 aR6 aR7 aR8 aR9 aR10 aR11 aR12 aR13 aR14 aR15 aR16 aR17 aR18 aR19 aR20 aR21 lv sg pd ac dd hd le bd my lf pa kp)) := by
  refine mk_i (cc := cX6_vespers) (maxL := 9) (by decide) rfl (Nat.le_of_ble_eq_true rfl) ?_
  intro p e s m args below meth c A Q ls H locs hx hb hml hts hown hK hNW hA hP hD hS hl hret
  have hown : s.vm.findClass RX6 = some m.cls := hown
  have hl : lv_has ls 9 [(0, .ref aR0), (1, .int xc), (2, .int xn)] := hl
  have hR := F_X6_vespers.eq_1 lv xc xn
  refine lv_aload_n hx hb dX6_vespers_0 rfl (lv_at hl 0 rfl) ?_
  refine lv_iload_n hx hb dX6_vespers_1 rfl (lv_at hl 1 rfl) ?_
  have hr := mrV (p := p) (e := e) (R := rm_X6_vespers) (below := below) (meth := meth) (H := H) (locs := locs) (ls := ls) (As := [.int xc]) (rest := []) (c_X6_isCourtier l δ cI cJ cZ aR0 aR1 aR2 aR3 aR4 aR5 aR6 aR7 aR8 aR9 aR10 aR11 aR12 aR13 aR14 aR15 aR16 aR17 aR18 aR19 aR20 aR21 lv sg pd ac dd hd le bd my lf pa kp xc) hx hb hml hts hown hK hNW hP hD [0, 1, 2, 3, 4, 5, 6, 7, 8, 9, 10, 11, 12, 13, 14, 15, 16, 17, 18, 19, 20, 21] rfl rfl 6 0 rfl rfl (cwV 1 hts gX6_vespers_X6_isCourtier rfl rfl rfl (by decide +kernel) ⟨(Nat.le_of_ble_eq_true rfl), (Nat.le_of_ble_eq_true rfl)⟩) rfl hl.1 rfl (Nat.le_of_ble_eq_true rfl) dX6_vespers_2
  refine mc_i (wr := ([] : va_W)) hr hP hD hS hA [0, 1, 2, 3, 4, 5, 6, 7, 8, 9, 10, 11, 12, 13, 14, 15, 16, 17, 18, 19, 20, 21] [] [0, 1, 2, 3, 4, 5, 6, 7, 8, 9, 10, 11, 12, 13, 14, 15, 16, 17, 18, 19, 20, 21] rfl rfl rfl rfl rfl (wn := fun _ => (wR cI cJ cZ aR0 aR1 aR2 aR3 aR4 aR5 aR6 aR7 aR8 aR9 aR10 aR11 aR12 aR13 aR14 aR15 aR16 aR17 aR18 aR19 aR20 aR21 lv sg pd ac dd hd le bd my lf pa kp)) (fun _ => rfl) (fun r_2 _ H locs hw_2 hP hD hS => ?_)
  obtain ⟨hw_2, z_2⟩ := hw_2
  have hP : va_P δ vwCl (wR cI cJ cZ aR0 aR1 aR2 aR3 aR4 aR5 aR6 aR7 aR8 aR9 aR10 aR11 aR12 aR13 aR14 aR15 aR16 aR17 aR18 aR19 aR20 aR21 lv sg pd ac dd hd le bd my lf pa kp) H := hP
  have hD : va_D A (wR cI cJ cZ aR0 aR1 aR2 aR3 aR4 aR5 aR6 aR7 aR8 aR9 aR10 aR11 aR12 aR13 aR14 aR15 aR16 aR17 aR18 aR19 aR20 aR21 lv sg pd ac dd hd le bd my lf pa kp) := hD
  have hR := bnd_eq hR hw_2.symm
  refine lv_if_ne (tgt := 10) hx hb dX6_vespers_5 (by decide) (fun c_5 => ?_) (fun c_5 => ?_)
  · have c_5 : ¬ (r_2 = 0) := c_5
    have hR := hR.trans (if_neg c_5)
    refine lv_iload_n hx hb dX6_vespers_10 rfl (lv_at hl 2 rfl) ?_
    refine lv_i2l (v := (xn.toInt64)) hx hb dX6_vespers_11 rfl ?_
    refine lv_lconst (v := (0 : Int64)) hx hb dX6_vespers_12 (by decide) ?_
    refine lv_ldc2 (v := (999 : Int64)) hx hb hown (hts (.constantLong RX6 243 (999)) (List.mem_of_getElem? (i := 1) rfl)) dX6_vespers_13 ?_
    have hr := mrS (p := p) (e := e) (R := rm_X6_vespers) (below := below) (meth := meth) (H := H) (locs := locs) (ls := ls) (As := [.long (xn.toInt64), .long (0 : Int64), .long (999 : Int64)]) (rest := []) (c_X6_in l δ cI cJ cZ (xn.toInt64) (0 : Int64) (999 : Int64)) hx hb hml hts hown hK hNW hP hD [] rfl rfl (va_cwS 3 hts gX6_vespers_X6_in rfl rfl rfl (by decide +kernel) ⟨(Nat.le_of_ble_eq_true rfl), (Nat.le_of_ble_eq_true rfl)⟩) rfl hl.1 rfl (Nat.le_of_ble_eq_true rfl) dX6_vespers_16
    refine mc_i (wr := (wR cI cJ cZ aR0 aR1 aR2 aR3 aR4 aR5 aR6 aR7 aR8 aR9 aR10 aR11 aR12 aR13 aR14 aR15 aR16 aR17 aR18 aR19 aR20 aR21 lv sg pd ac dd hd le bd my lf pa kp)) hr hP hD hS hA [] [0, 1, 2, 3, 4, 5, 6, 7, 8, 9, 10, 11, 12, 13, 14, 15, 16, 17, 18, 19, 20, 21] [0, 1, 2, 3, 4, 5, 6, 7, 8, 9, 10, 11, 12, 13, 14, 15, 16, 17, 18, 19, 20, 21] rfl rfl rfl rfl rfl (wn := fun _ => (wR cI cJ cZ aR0 aR1 aR2 aR3 aR4 aR5 aR6 aR7 aR8 aR9 aR10 aR11 aR12 aR13 aR14 aR15 aR16 aR17 aR18 aR19 aR20 aR21 lv sg pd ac dd hd le bd my lf pa kp)) (fun _ => rfl) (fun r_16 _ H locs hw_16 hP hD hS => ?_)
    obtain ⟨hw_16, z_16⟩ := hw_16
    have hP : va_P δ vwCl (wR cI cJ cZ aR0 aR1 aR2 aR3 aR4 aR5 aR6 aR7 aR8 aR9 aR10 aR11 aR12 aR13 aR14 aR15 aR16 aR17 aR18 aR19 aR20 aR21 lv sg pd ac dd hd le bd my lf pa kp) H := hP
    have hD : va_D A (wR cI cJ cZ aR0 aR1 aR2 aR3 aR4 aR5 aR6 aR7 aR8 aR9 aR10 aR11 aR12 aR13 aR14 aR15 aR16 aR17 aR18 aR19 aR20 aR21 lv sg pd ac dd hd le bd my lf pa kp) := hD
    have hR := bnd_eq hR hw_16.symm
    refine lv_if_ne (tgt := 25) hx hb dX6_vespers_19 (by decide) (fun c_19 => ?_) (fun c_19 => ?_)
    · have c_19 : ¬ (r_16 = 0) := c_19
      have hR := hR.trans (if_neg c_19)
      refine lv_iconst (v := (0 : Int32)) hx hb dX6_vespers_25 (by decide) ?_
      refine lv_istore_n (lv' := [(3, .int (0 : Int32)), (0, .ref aR0), (1, .int xc), (2, .int xn)]) hx hb dX6_vespers_26 rfl hl (by decide) rfl (fun ls hl => ?_)
      refine lv_iconst (v := (0 : Int32)) hx hb dX6_vespers_27 (by decide) ?_
      refine lv_istore (lv' := [(4, .int (0 : Int32)), (3, .int (0 : Int32)), (0, .ref aR0), (1, .int xc), (2, .int xn)]) hx hb dX6_vespers_28 hl (by decide) rfl (fun ls hl => ?_)
      have hloop_30 : ∀ (n_30 : Nat) (i_30 : Nat) (v3_30 : Int32) (H : Heap) (locs : List Loc) (ls : Array Slot), (hi_30 : i_30 ≤ 6) → (hn_30 : 6 < i_30 + n_30) → (hP : va_P δ vwCl (wR cI cJ cZ aR0 aR1 aR2 aR3 aR4 aR5 aR6 aR7 aR8 aR9 aR10 aR11 aR12 aR13 aR14 aR15 aR16 aR17 aR18 aR19 aR20 aR21 lv sg pd ac dd hd le bd my lf pa kp) H) → (hD : va_D A (wR cI cJ cZ aR0 aR1 aR2 aR3 aR4 aR5 aR6 aR7 aR8 aR9 aR10 aR11 aR12 aR13 aR14 aR15 aR16 aR17 aR18 aR19 aR20 aR21 lv sg pd ac dd hd le bd my lf pa kp)) → (hS : va_S A s.heap H locs) → (hl : lv_has ls 9 [(4, .int (nI i_30)), (3, .int v3_30), (0, .ref aR0), (1, .int xc), (2, .int xn)]) → (kk : ∀ (w_30 : Int32) (H : Heap) (locs : List Loc) (ls : Array Slot), L_X6_vespers_30 lv n_30 i_30 v3_30 = w_30 → va_P δ vwCl (wR cI cJ cZ aR0 aR1 aR2 aR3 aR4 aR5 aR6 aR7 aR8 aR9 aR10 aR11 aR12 aR13 aR14 aR15 aR16 aR17 aR18 aR19 aR20 aR21 lv sg pd ac dd hd le bd my lf pa kp) H → va_D A (wR cI cJ cZ aR0 aR1 aR2 aR3 aR4 aR5 aR6 aR7 aR8 aR9 aR10 aR11 aR12 aR13 aR14 aR15 aR16 aR17 aR18 aR19 aR20 aR21 lv sg pd ac dd hd le bd my lf pa kp) → va_S A s.heap H locs → lv_has ls 9 [(3, .int w_30), (0, .ref aR0), (1, .int xc), (2, .int xn)] → W p l e rm_X6_vespers s m args below meth c H locs 0 0 Q (F0 m 55 ls [])) → W p l e rm_X6_vespers s m args below meth c H locs 0 0 Q (F0 m 30 ls []) := by
        intro n_30
        induction n_30 with
        | zero => intro i_30 v3_30 H locs ls hi_30 hn_30 hP hD hS hl kk; exact absurd hn_30 (by omega)
        | succ n_30 ih_30 =>
          intro i_30 v3_30 H locs ls hi_30 hn_30 hP hD hS hl kk
          have hR := L_X6_vespers_30_s lv n_30 i_30 v3_30
          refine lv_iload hx hb dX6_vespers_30 (lv_at hl 0 rfl) ?_
          refine lv_bipush (v := (6 : Int32)) hx hb dX6_vespers_32 (by decide) ?_
          refine lv_icmp_ge (tgt := 55) hx hb dX6_vespers_34 (by decide) (fun c_34 => ?_) (fun c_34 => ?_)
          · have c_34 : ((6 : Int32) ≤ (nI i_30)) := c_34
            have hR := hR.trans (if_pos c_34)
            exact kk v3_30 H locs ls hR hP hD hS (lv_sub hl [1, 2, 3, 4] rfl)
          · have c_34 : ¬ ((6 : Int32) ≤ (nI i_30)) := c_34
            have hR := hR.trans (if_neg c_34)
            have hlt_30 : i_30 < 6 := lt_g c_34 hi_30 (by decide)
            refine lv_iload_n hx hb dX6_vespers_37 rfl (lv_at hl 1 rfl) ?_
            refine lv_aload_n hx hb dX6_vespers_38 rfl (lv_at hl 2 rfl) ?_
            refine lv_iload hx hb dX6_vespers_39 (lv_at hl 0 rfl) ?_
            have hr := mrV (p := p) (e := e) (R := rm_X6_vespers) (below := below) (meth := meth) (H := H) (locs := locs) (ls := ls) (As := [.int (nI i_30)]) (rest := [.int v3_30]) (c_X6_pairsOf l δ cI cJ cZ aR0 aR1 aR2 aR3 aR4 aR5 aR6 aR7 aR8 aR9 aR10 aR11 aR12 aR13 aR14 aR15 aR16 aR17 aR18 aR19 aR20 aR21 lv sg pd ac dd hd le bd my lf pa kp (nI i_30)) hx hb hml hts hown hK hNW hP hD [0, 1, 2, 3, 4, 5, 6, 7, 8, 9, 10, 11, 12, 13, 14, 15, 16, 17, 18, 19, 20, 21] rfl rfl 6 0 rfl rfl (cwV 1 hts gX6_vespers_X6_pairsOf rfl rfl rfl (by decide +kernel) ⟨(Nat.le_of_ble_eq_true rfl), (Nat.le_of_ble_eq_true rfl)⟩) rfl hl.1 rfl (Nat.le_of_ble_eq_true rfl) dX6_vespers_41
            refine mc_i (wr := ([] : va_W)) hr hP hD hS hA [0, 1, 2, 3, 4, 5, 6, 7, 8, 9, 10, 11, 12, 13, 14, 15, 16, 17, 18, 19, 20, 21] [] [0, 1, 2, 3, 4, 5, 6, 7, 8, 9, 10, 11, 12, 13, 14, 15, 16, 17, 18, 19, 20, 21] rfl rfl rfl rfl rfl (wn := fun _ => (wR cI cJ cZ aR0 aR1 aR2 aR3 aR4 aR5 aR6 aR7 aR8 aR9 aR10 aR11 aR12 aR13 aR14 aR15 aR16 aR17 aR18 aR19 aR20 aR21 lv sg pd ac dd hd le bd my lf pa kp)) (fun _ => rfl) (fun r_41 _ H locs hw_41 hP hD hS => ?_)
            have hP : va_P δ vwCl (wR cI cJ cZ aR0 aR1 aR2 aR3 aR4 aR5 aR6 aR7 aR8 aR9 aR10 aR11 aR12 aR13 aR14 aR15 aR16 aR17 aR18 aR19 aR20 aR21 lv sg pd ac dd hd le bd my lf pa kp) H := hP
            have hD : va_D A (wR cI cJ cZ aR0 aR1 aR2 aR3 aR4 aR5 aR6 aR7 aR8 aR9 aR10 aR11 aR12 aR13 aR14 aR15 aR16 aR17 aR18 aR19 aR20 aR21 lv sg pd ac dd hd le bd my lf pa kp) := hD
            have hR := bnd_eq hR hw_41.symm
            have hr := mrS (p := p) (e := e) (R := rm_X6_vespers) (below := below) (meth := meth) (H := H) (locs := locs) (ls := ls) (As := [.int r_41]) (rest := [.int v3_30]) (c_X6_ones l δ cI cJ cZ r_41) hx hb hml hts hown hK hNW hP hD [] rfl rfl (va_cwS 1 hts gX6_vespers_X6_ones rfl rfl rfl (by decide +kernel) ⟨(Nat.le_of_ble_eq_true rfl), (Nat.le_of_ble_eq_true rfl)⟩) rfl hl.1 rfl (Nat.le_of_ble_eq_true rfl) dX6_vespers_44
            refine mc_i (wr := (wR cI cJ cZ aR0 aR1 aR2 aR3 aR4 aR5 aR6 aR7 aR8 aR9 aR10 aR11 aR12 aR13 aR14 aR15 aR16 aR17 aR18 aR19 aR20 aR21 lv sg pd ac dd hd le bd my lf pa kp)) hr hP hD hS hA [] [0, 1, 2, 3, 4, 5, 6, 7, 8, 9, 10, 11, 12, 13, 14, 15, 16, 17, 18, 19, 20, 21] [0, 1, 2, 3, 4, 5, 6, 7, 8, 9, 10, 11, 12, 13, 14, 15, 16, 17, 18, 19, 20, 21] rfl rfl rfl rfl rfl (wn := fun _ => (wR cI cJ cZ aR0 aR1 aR2 aR3 aR4 aR5 aR6 aR7 aR8 aR9 aR10 aR11 aR12 aR13 aR14 aR15 aR16 aR17 aR18 aR19 aR20 aR21 lv sg pd ac dd hd le bd my lf pa kp)) (fun _ => rfl) (fun r_44 _ H locs hw_44 hP hD hS => ?_)
            have hP : va_P δ vwCl (wR cI cJ cZ aR0 aR1 aR2 aR3 aR4 aR5 aR6 aR7 aR8 aR9 aR10 aR11 aR12 aR13 aR14 aR15 aR16 aR17 aR18 aR19 aR20 aR21 lv sg pd ac dd hd le bd my lf pa kp) H := hP
            have hD : va_D A (wR cI cJ cZ aR0 aR1 aR2 aR3 aR4 aR5 aR6 aR7 aR8 aR9 aR10 aR11 aR12 aR13 aR14 aR15 aR16 aR17 aR18 aR19 aR20 aR21 lv sg pd ac dd hd le bd my lf pa kp) := hD
            have hR := bnd_eq hR hw_44.symm
            refine lv_iadd hx hb dX6_vespers_47 ?_
            refine lv_istore_n (lv' := [(3, .int (v3_30 + r_44)), (4, .int (nI i_30)), (0, .ref aR0), (1, .int xc), (2, .int xn)]) hx hb dX6_vespers_48 rfl hl (by decide) rfl (fun ls hl => ?_)
            refine lv_iinc (v := (nI (i_30 + 1))) (lv' := [(4, .int (nI (i_30 + 1))), (3, .int (v3_30 + r_44)), (0, .ref aR0), (1, .int xc), (2, .int xn)]) hx hb dX6_vespers_49 hl (k := 1) rfl (nI_1 i_30) (by decide) rfl (fun ls hl => ?_)
            refine lv_goto (tgt := 30) hx hb dX6_vespers_52 (by decide) ?_
            exact ih_30 (i_30 + 1) (v3_30 + r_44) _ _ _ (by omega) (by omega) hP hD hS (lv_sub hl [0, 1, 2, 3, 4] rfl) (fun w_30 H locs ls he hP hD hS hl => kk w_30 H locs ls (hR.trans he) hP hD hS hl)
      refine hloop_30 (6 + 1) 0 (0 : Int32) _ _ _ (by omega) (by omega) hP hD hS (lv_sub hl [0, 1, 2, 3, 4] rfl) (fun w_30 H locs ls hw_30 hP hD hS hl => ?_)
      have hP : va_P δ vwCl (wR cI cJ cZ aR0 aR1 aR2 aR3 aR4 aR5 aR6 aR7 aR8 aR9 aR10 aR11 aR12 aR13 aR14 aR15 aR16 aR17 aR18 aR19 aR20 aR21 lv sg pd ac dd hd le bd my lf pa kp) H := hP
      have hD : va_D A (wR cI cJ cZ aR0 aR1 aR2 aR3 aR4 aR5 aR6 aR7 aR8 aR9 aR10 aR11 aR12 aR13 aR14 aR15 aR16 aR17 aR18 aR19 aR20 aR21 lv sg pd ac dd hd le bd my lf pa kp) := hD
      have hR := bnd_eq hR hw_30.symm
      refine lv_iload_n hx hb dX6_vespers_55 rfl (lv_at hl 0 rfl) ?_
      refine lv_if_ne (tgt := 61) hx hb dX6_vespers_56 (by decide) (fun c_56 => ?_) (fun c_56 => ?_)
      · have c_56 : ¬ (w_30 = 0) := c_56
        have hR := hR.trans (if_neg c_56)
        refine lv_aload_n hx hb dX6_vespers_61 rfl (lv_at hl 1 rfl) ?_
        refine lv_iload_n hx hb dX6_vespers_62 rfl (lv_at hl 2 rfl) ?_
        have hr := mrV (p := p) (e := e) (R := rm_X6_vespers) (below := below) (meth := meth) (H := H) (locs := locs) (ls := ls) (As := [.int xc]) (rest := []) (c_X6_pairsOf l δ cI cJ cZ aR0 aR1 aR2 aR3 aR4 aR5 aR6 aR7 aR8 aR9 aR10 aR11 aR12 aR13 aR14 aR15 aR16 aR17 aR18 aR19 aR20 aR21 lv sg pd ac dd hd le bd my lf pa kp xc) hx hb hml hts hown hK hNW hP hD [0, 1, 2, 3, 4, 5, 6, 7, 8, 9, 10, 11, 12, 13, 14, 15, 16, 17, 18, 19, 20, 21] rfl rfl 6 0 rfl rfl (cwV 1 hts gX6_vespers_X6_pairsOf rfl rfl rfl (by decide +kernel) ⟨(Nat.le_of_ble_eq_true rfl), (Nat.le_of_ble_eq_true rfl)⟩) rfl hl.1 rfl (Nat.le_of_ble_eq_true rfl) dX6_vespers_63
        refine mc_i (wr := ([] : va_W)) hr hP hD hS hA [0, 1, 2, 3, 4, 5, 6, 7, 8, 9, 10, 11, 12, 13, 14, 15, 16, 17, 18, 19, 20, 21] [] [0, 1, 2, 3, 4, 5, 6, 7, 8, 9, 10, 11, 12, 13, 14, 15, 16, 17, 18, 19, 20, 21] rfl rfl rfl rfl rfl (wn := fun _ => (wR cI cJ cZ aR0 aR1 aR2 aR3 aR4 aR5 aR6 aR7 aR8 aR9 aR10 aR11 aR12 aR13 aR14 aR15 aR16 aR17 aR18 aR19 aR20 aR21 lv sg pd ac dd hd le bd my lf pa kp)) (fun _ => rfl) (fun r_63 _ H locs hw_63 hP hD hS => ?_)
        have hP : va_P δ vwCl (wR cI cJ cZ aR0 aR1 aR2 aR3 aR4 aR5 aR6 aR7 aR8 aR9 aR10 aR11 aR12 aR13 aR14 aR15 aR16 aR17 aR18 aR19 aR20 aR21 lv sg pd ac dd hd le bd my lf pa kp) H := hP
        have hD : va_D A (wR cI cJ cZ aR0 aR1 aR2 aR3 aR4 aR5 aR6 aR7 aR8 aR9 aR10 aR11 aR12 aR13 aR14 aR15 aR16 aR17 aR18 aR19 aR20 aR21 lv sg pd ac dd hd le bd my lf pa kp) := hD
        have hR := bnd_eq hR hw_63.symm
        have hr := mrS (p := p) (e := e) (R := rm_X6_vespers) (below := below) (meth := meth) (H := H) (locs := locs) (ls := ls) (As := [.int r_63]) (rest := []) (c_X6_ones l δ cI cJ cZ r_63) hx hb hml hts hown hK hNW hP hD [] rfl rfl (va_cwS 1 hts gX6_vespers_X6_ones rfl rfl rfl (by decide +kernel) ⟨(Nat.le_of_ble_eq_true rfl), (Nat.le_of_ble_eq_true rfl)⟩) rfl hl.1 rfl (Nat.le_of_ble_eq_true rfl) dX6_vespers_66
        refine mc_i (wr := (wR cI cJ cZ aR0 aR1 aR2 aR3 aR4 aR5 aR6 aR7 aR8 aR9 aR10 aR11 aR12 aR13 aR14 aR15 aR16 aR17 aR18 aR19 aR20 aR21 lv sg pd ac dd hd le bd my lf pa kp)) hr hP hD hS hA [] [0, 1, 2, 3, 4, 5, 6, 7, 8, 9, 10, 11, 12, 13, 14, 15, 16, 17, 18, 19, 20, 21] [0, 1, 2, 3, 4, 5, 6, 7, 8, 9, 10, 11, 12, 13, 14, 15, 16, 17, 18, 19, 20, 21] rfl rfl rfl rfl rfl (wn := fun _ => (wR cI cJ cZ aR0 aR1 aR2 aR3 aR4 aR5 aR6 aR7 aR8 aR9 aR10 aR11 aR12 aR13 aR14 aR15 aR16 aR17 aR18 aR19 aR20 aR21 lv sg pd ac dd hd le bd my lf pa kp)) (fun _ => rfl) (fun r_66 _ H locs hw_66 hP hD hS => ?_)
        have hP : va_P δ vwCl (wR cI cJ cZ aR0 aR1 aR2 aR3 aR4 aR5 aR6 aR7 aR8 aR9 aR10 aR11 aR12 aR13 aR14 aR15 aR16 aR17 aR18 aR19 aR20 aR21 lv sg pd ac dd hd le bd my lf pa kp) H := hP
        have hD : va_D A (wR cI cJ cZ aR0 aR1 aR2 aR3 aR4 aR5 aR6 aR7 aR8 aR9 aR10 aR11 aR12 aR13 aR14 aR15 aR16 aR17 aR18 aR19 aR20 aR21 lv sg pd ac dd hd le bd my lf pa kp) := hD
        have hR := bnd_eq hR hw_66.symm
        refine lv_istore (lv' := [(4, .int r_66), (3, .int w_30), (0, .ref aR0), (1, .int xc), (2, .int xn)]) hx hb dX6_vespers_69 hl (by decide) rfl (fun ls hl => ?_)
        refine lv_iload_n hx hb dX6_vespers_71 rfl (lv_at hl 4 rfl) ?_
        refine lv_istore (lv' := [(5, .int xn), (4, .int r_66), (3, .int w_30), (0, .ref aR0), (1, .int xc), (2, .int xn)]) hx hb dX6_vespers_72 hl (by decide) rfl (fun ls hl => ?_)
        refine lv_iconst (v := (0 : Int32)) hx hb dX6_vespers_74 (by decide) ?_
        refine lv_istore (lv' := [(6, .int (0 : Int32)), (5, .int xn), (4, .int r_66), (3, .int w_30), (0, .ref aR0), (1, .int xc), (2, .int xn)]) hx hb dX6_vespers_75 hl (by decide) rfl (fun ls hl => ?_)
        refine lv_iconst (v := (0 : Int32)) hx hb dX6_vespers_77 (by decide) ?_
        refine lv_istore (lv' := [(7, .int (0 : Int32)), (6, .int (0 : Int32)), (5, .int xn), (4, .int r_66), (3, .int w_30), (0, .ref aR0), (1, .int xc), (2, .int xn)]) hx hb dX6_vespers_78 hl (by decide) rfl (fun ls hl => ?_)
        have hloop_80 : ∀ (n_80 : Nat) (i_80 : Nat) (v6_80 : Int32) (v5_80 : Int32) (H : Heap) (locs : List Loc) (ls : Array Slot), (hi_80 : i_80 ≤ 6) → (hn_80 : 6 < i_80 + n_80) → (hP : va_P δ vwCl (wR cI cJ cZ aR0 aR1 aR2 aR3 aR4 aR5 aR6 aR7 aR8 aR9 aR10 aR11 aR12 aR13 aR14 aR15 aR16 aR17 aR18 aR19 aR20 aR21 lv sg pd ac dd hd le bd my lf pa kp) H) → (hD : va_D A (wR cI cJ cZ aR0 aR1 aR2 aR3 aR4 aR5 aR6 aR7 aR8 aR9 aR10 aR11 aR12 aR13 aR14 aR15 aR16 aR17 aR18 aR19 aR20 aR21 lv sg pd ac dd hd le bd my lf pa kp)) → (hS : va_S A s.heap H locs) → (hl : lv_has ls 9 [(7, .int (nI i_80)), (6, .int v6_80), (5, .int v5_80), (4, .int r_66), (3, .int w_30), (0, .ref aR0), (1, .int xc), (2, .int xn)]) → (kk : ∀ (w_80 : Int32 × Int32) (H : Heap) (locs : List Loc) (ls : Array Slot), L_X6_vespers_80 lv xc xn w_30 r_66 n_80 i_80 v6_80 v5_80 = w_80 → va_P δ vwCl (wR cI cJ cZ aR0 aR1 aR2 aR3 aR4 aR5 aR6 aR7 aR8 aR9 aR10 aR11 aR12 aR13 aR14 aR15 aR16 aR17 aR18 aR19 aR20 aR21 lv sg pd ac dd hd le bd my lf pa kp) H → va_D A (wR cI cJ cZ aR0 aR1 aR2 aR3 aR4 aR5 aR6 aR7 aR8 aR9 aR10 aR11 aR12 aR13 aR14 aR15 aR16 aR17 aR18 aR19 aR20 aR21 lv sg pd ac dd hd le bd my lf pa kp) → va_S A s.heap H locs → lv_has ls 9 [(6, .int w_80.1), (5, .int w_80.2), (4, .int r_66), (3, .int w_30), (0, .ref aR0), (1, .int xc), (2, .int xn)] → W p l e rm_X6_vespers s m args below meth c H locs 0 0 Q (F0 m 154 ls [])) → W p l e rm_X6_vespers s m args below meth c H locs 0 0 Q (F0 m 80 ls []) := by
          intro n_80
          induction n_80 with
          | zero => intro i_80 v6_80 v5_80 H locs ls hi_80 hn_80 hP hD hS hl kk; exact absurd hn_80 (by omega)
          | succ n_80 ih_80 =>
            intro i_80 v6_80 v5_80 H locs ls hi_80 hn_80 hP hD hS hl kk
            have hR := L_X6_vespers_80_s lv xc xn w_30 r_66 n_80 i_80 v6_80 v5_80
            refine lv_iload hx hb dX6_vespers_80 (lv_at hl 0 rfl) ?_
            refine lv_bipush (v := (6 : Int32)) hx hb dX6_vespers_82 (by decide) ?_
            refine lv_icmp_ge (tgt := 154) hx hb dX6_vespers_84 (by decide) (fun c_84 => ?_) (fun c_84 => ?_)
            · have c_84 : ((6 : Int32) ≤ (nI i_80)) := c_84
              have hR := hR.trans (if_pos c_84)
              exact kk (v6_80, v5_80) H locs ls hR hP hD hS (lv_sub hl [1, 2, 3, 4, 5, 6, 7] rfl)
            · have c_84 : ¬ ((6 : Int32) ≤ (nI i_80)) := c_84
              have hR := hR.trans (if_neg c_84)
              have hlt_80 : i_80 < 6 := lt_g c_84 hi_80 (by decide)
              refine lv_aload_n hx hb dX6_vespers_87 rfl (lv_at hl 5 rfl) ?_
              refine lv_iload hx hb dX6_vespers_88 (lv_at hl 0 rfl) ?_
              have hr := mrV (p := p) (e := e) (R := rm_X6_vespers) (below := below) (meth := meth) (H := H) (locs := locs) (ls := ls) (As := [.int (nI i_80)]) (rest := []) (c_X6_pairsOf l δ cI cJ cZ aR0 aR1 aR2 aR3 aR4 aR5 aR6 aR7 aR8 aR9 aR10 aR11 aR12 aR13 aR14 aR15 aR16 aR17 aR18 aR19 aR20 aR21 lv sg pd ac dd hd le bd my lf pa kp (nI i_80)) hx hb hml hts hown hK hNW hP hD [0, 1, 2, 3, 4, 5, 6, 7, 8, 9, 10, 11, 12, 13, 14, 15, 16, 17, 18, 19, 20, 21] rfl rfl 6 0 rfl rfl (cwV 1 hts gX6_vespers_X6_pairsOf rfl rfl rfl (by decide +kernel) ⟨(Nat.le_of_ble_eq_true rfl), (Nat.le_of_ble_eq_true rfl)⟩) rfl hl.1 rfl (Nat.le_of_ble_eq_true rfl) dX6_vespers_90
              refine mc_i (wr := ([] : va_W)) hr hP hD hS hA [0, 1, 2, 3, 4, 5, 6, 7, 8, 9, 10, 11, 12, 13, 14, 15, 16, 17, 18, 19, 20, 21] [] [0, 1, 2, 3, 4, 5, 6, 7, 8, 9, 10, 11, 12, 13, 14, 15, 16, 17, 18, 19, 20, 21] rfl rfl rfl rfl rfl (wn := fun _ => (wR cI cJ cZ aR0 aR1 aR2 aR3 aR4 aR5 aR6 aR7 aR8 aR9 aR10 aR11 aR12 aR13 aR14 aR15 aR16 aR17 aR18 aR19 aR20 aR21 lv sg pd ac dd hd le bd my lf pa kp)) (fun _ => rfl) (fun r_90 _ H locs hw_90 hP hD hS => ?_)
              have hP : va_P δ vwCl (wR cI cJ cZ aR0 aR1 aR2 aR3 aR4 aR5 aR6 aR7 aR8 aR9 aR10 aR11 aR12 aR13 aR14 aR15 aR16 aR17 aR18 aR19 aR20 aR21 lv sg pd ac dd hd le bd my lf pa kp) H := hP
              have hD : va_D A (wR cI cJ cZ aR0 aR1 aR2 aR3 aR4 aR5 aR6 aR7 aR8 aR9 aR10 aR11 aR12 aR13 aR14 aR15 aR16 aR17 aR18 aR19 aR20 aR21 lv sg pd ac dd hd le bd my lf pa kp) := hD
              have hR := bnd_eq hR hw_90.symm
              have hr := mrS (p := p) (e := e) (R := rm_X6_vespers) (below := below) (meth := meth) (H := H) (locs := locs) (ls := ls) (As := [.int r_90]) (rest := []) (c_X6_ones l δ cI cJ cZ r_90) hx hb hml hts hown hK hNW hP hD [] rfl rfl (va_cwS 1 hts gX6_vespers_X6_ones rfl rfl rfl (by decide +kernel) ⟨(Nat.le_of_ble_eq_true rfl), (Nat.le_of_ble_eq_true rfl)⟩) rfl hl.1 rfl (Nat.le_of_ble_eq_true rfl) dX6_vespers_93
              refine mc_i (wr := (wR cI cJ cZ aR0 aR1 aR2 aR3 aR4 aR5 aR6 aR7 aR8 aR9 aR10 aR11 aR12 aR13 aR14 aR15 aR16 aR17 aR18 aR19 aR20 aR21 lv sg pd ac dd hd le bd my lf pa kp)) hr hP hD hS hA [] [0, 1, 2, 3, 4, 5, 6, 7, 8, 9, 10, 11, 12, 13, 14, 15, 16, 17, 18, 19, 20, 21] [0, 1, 2, 3, 4, 5, 6, 7, 8, 9, 10, 11, 12, 13, 14, 15, 16, 17, 18, 19, 20, 21] rfl rfl rfl rfl rfl (wn := fun _ => (wR cI cJ cZ aR0 aR1 aR2 aR3 aR4 aR5 aR6 aR7 aR8 aR9 aR10 aR11 aR12 aR13 aR14 aR15 aR16 aR17 aR18 aR19 aR20 aR21 lv sg pd ac dd hd le bd my lf pa kp)) (fun _ => rfl) (fun r_93 _ H locs hw_93 hP hD hS => ?_)
              have hP : va_P δ vwCl (wR cI cJ cZ aR0 aR1 aR2 aR3 aR4 aR5 aR6 aR7 aR8 aR9 aR10 aR11 aR12 aR13 aR14 aR15 aR16 aR17 aR18 aR19 aR20 aR21 lv sg pd ac dd hd le bd my lf pa kp) H := hP
              have hD : va_D A (wR cI cJ cZ aR0 aR1 aR2 aR3 aR4 aR5 aR6 aR7 aR8 aR9 aR10 aR11 aR12 aR13 aR14 aR15 aR16 aR17 aR18 aR19 aR20 aR21 lv sg pd ac dd hd le bd my lf pa kp) := hD
              have hR := bnd_eq hR hw_93.symm
              refine lv_istore (lv' := [(8, .int r_93), (7, .int (nI i_80)), (6, .int v6_80), (5, .int v5_80), (4, .int r_66), (3, .int w_30), (0, .ref aR0), (1, .int xc), (2, .int xn)]) hx hb dX6_vespers_96 hl (by decide) rfl (fun ls hl => ?_)
              refine lv_iload hx hb dX6_vespers_98 (lv_at hl 3 rfl) ?_
              refine lv_iload_n hx hb dX6_vespers_100 rfl (lv_at hl 8 rfl) ?_
              refine lv_iload hx hb dX6_vespers_101 (lv_at hl 0 rfl) ?_
              refine lv_imul hx hb dX6_vespers_103 ?_
              refine lv_iload_n hx hb dX6_vespers_104 rfl (lv_at hl 5 rfl) ?_
              refine lv_idiv hx hb dX6_vespers_105 c_56 ?_
              refine lv_isub hx hb dX6_vespers_106 ?_
              refine lv_istore (lv' := [(5, .int (v5_80 - ((xn * r_93) / w_30))), (8, .int r_93), (7, .int (nI i_80)), (6, .int v6_80), (4, .int r_66), (3, .int w_30), (0, .ref aR0), (1, .int xc), (2, .int xn)]) hx hb dX6_vespers_107 hl (by decide) rfl (fun ls hl => ?_)
              refine lv_iload hx hb dX6_vespers_109 (lv_at hl 3 rfl) ?_
              refine lv_aload_n hx hb dX6_vespers_111 rfl (lv_at hl 6 rfl) ?_
              refine lv_iload hx hb dX6_vespers_112 (lv_at hl 2 rfl) ?_
              have hr := mrV (p := p) (e := e) (R := rm_X6_vespers) (below := below) (meth := meth) (H := H) (locs := locs) (ls := ls) (As := [.int (nI i_80)]) (rest := [.int v6_80]) (c_X6_isCourtier l δ cI cJ cZ aR0 aR1 aR2 aR3 aR4 aR5 aR6 aR7 aR8 aR9 aR10 aR11 aR12 aR13 aR14 aR15 aR16 aR17 aR18 aR19 aR20 aR21 lv sg pd ac dd hd le bd my lf pa kp (nI i_80)) hx hb hml hts hown hK hNW hP hD [0, 1, 2, 3, 4, 5, 6, 7, 8, 9, 10, 11, 12, 13, 14, 15, 16, 17, 18, 19, 20, 21] rfl rfl 6 0 rfl rfl (cwV 1 hts gX6_vespers_X6_isCourtier rfl rfl rfl (by decide +kernel) ⟨(Nat.le_of_ble_eq_true rfl), (Nat.le_of_ble_eq_true rfl)⟩) rfl hl.1 rfl (Nat.le_of_ble_eq_true rfl) dX6_vespers_114
              refine mc_i (wr := ([] : va_W)) hr hP hD hS hA [0, 1, 2, 3, 4, 5, 6, 7, 8, 9, 10, 11, 12, 13, 14, 15, 16, 17, 18, 19, 20, 21] [] [0, 1, 2, 3, 4, 5, 6, 7, 8, 9, 10, 11, 12, 13, 14, 15, 16, 17, 18, 19, 20, 21] rfl rfl rfl rfl rfl (wn := fun _ => (wR cI cJ cZ aR0 aR1 aR2 aR3 aR4 aR5 aR6 aR7 aR8 aR9 aR10 aR11 aR12 aR13 aR14 aR15 aR16 aR17 aR18 aR19 aR20 aR21 lv sg pd ac dd hd le bd my lf pa kp)) (fun _ => rfl) (fun r_114 _ H locs hw_114 hP hD hS => ?_)
              obtain ⟨hw_114, z_114⟩ := hw_114
              have hP : va_P δ vwCl (wR cI cJ cZ aR0 aR1 aR2 aR3 aR4 aR5 aR6 aR7 aR8 aR9 aR10 aR11 aR12 aR13 aR14 aR15 aR16 aR17 aR18 aR19 aR20 aR21 lv sg pd ac dd hd le bd my lf pa kp) H := hP
              have hD : va_D A (wR cI cJ cZ aR0 aR1 aR2 aR3 aR4 aR5 aR6 aR7 aR8 aR9 aR10 aR11 aR12 aR13 aR14 aR15 aR16 aR17 aR18 aR19 aR20 aR21 lv sg pd ac dd hd le bd my lf pa kp) := hD
              have hR := bnd_eq hR hw_114.symm
              refine lv_if_eq (tgt := 144) hx hb dX6_vespers_117 (by decide) (fun c_117 => ?_) (fun c_117 => ?_)
              · have c_117 : (r_114 = 0) := c_117
                have hR := hR.trans (if_pos c_117)
                refine lv_iconst (v := (0 : Int32)) hx hb dX6_vespers_144 (by decide) ?_
                refine lv_iadd hx hb dX6_vespers_145 ?_
                refine lv_istore (lv' := [(6, .int (v6_80 + (0 : Int32))), (5, .int (v5_80 - ((xn * r_93) / w_30))), (8, .int r_93), (7, .int (nI i_80)), (4, .int r_66), (3, .int w_30), (0, .ref aR0), (1, .int xc), (2, .int xn)]) hx hb dX6_vespers_146 hl (by decide) rfl (fun ls hl => ?_)
                refine lv_iinc (v := (nI (i_80 + 1))) (lv' := [(7, .int (nI (i_80 + 1))), (6, .int (v6_80 + (0 : Int32))), (5, .int (v5_80 - ((xn * r_93) / w_30))), (8, .int r_93), (4, .int r_66), (3, .int w_30), (0, .ref aR0), (1, .int xc), (2, .int xn)]) hx hb dX6_vespers_148 hl (k := 3) rfl (nI_1 i_80) (by decide) rfl (fun ls hl => ?_)
                refine lv_goto (tgt := 80) hx hb dX6_vespers_151 (by decide) ?_
                exact ih_80 (i_80 + 1) (v6_80 + (0 : Int32)) (v5_80 - ((xn * r_93) / w_30)) _ _ _ (by omega) (by omega) hP hD hS (lv_sub hl [0, 1, 2, 4, 5, 6, 7, 8] rfl) (fun w_80 H locs ls he hP hD hS hl => kk w_80 H locs ls (hR.trans he) hP hD hS hl)
              · have c_117 : ¬ (r_114 = 0) := c_117
                have hR := hR.trans (if_neg c_117)
                refine lv_iload hx hb dX6_vespers_120 (lv_at hl 1 rfl) ?_
                refine lv_iload hx hb dX6_vespers_122 (lv_at hl 4 rfl) ?_
                refine lv_icmp_lt (tgt := 140) hx hb dX6_vespers_124 (by decide) (fun c_124 => ?_) (fun c_124 => ?_)
                · have c_124 : (r_93 < r_66) := c_124
                  have hR := hR.trans (if_pos c_124)
                  refine lv_iconst (v := (1 : Int32)) hx hb dX6_vespers_140 (by decide) ?_
                  refine lv_goto (tgt := 145) hx hb dX6_vespers_141 (by decide) ?_
                  refine lv_iadd hx hb dX6_vespers_145 ?_
                  refine lv_istore (lv' := [(6, .int (v6_80 + (1 : Int32))), (5, .int (v5_80 - ((xn * r_93) / w_30))), (8, .int r_93), (7, .int (nI i_80)), (4, .int r_66), (3, .int w_30), (0, .ref aR0), (1, .int xc), (2, .int xn)]) hx hb dX6_vespers_146 hl (by decide) rfl (fun ls hl => ?_)
                  refine lv_iinc (v := (nI (i_80 + 1))) (lv' := [(7, .int (nI (i_80 + 1))), (6, .int (v6_80 + (1 : Int32))), (5, .int (v5_80 - ((xn * r_93) / w_30))), (8, .int r_93), (4, .int r_66), (3, .int w_30), (0, .ref aR0), (1, .int xc), (2, .int xn)]) hx hb dX6_vespers_148 hl (k := 3) rfl (nI_1 i_80) (by decide) rfl (fun ls hl => ?_)
                  refine lv_goto (tgt := 80) hx hb dX6_vespers_151 (by decide) ?_
                  exact ih_80 (i_80 + 1) (v6_80 + (1 : Int32)) (v5_80 - ((xn * r_93) / w_30)) _ _ _ (by omega) (by omega) hP hD hS (lv_sub hl [0, 1, 2, 4, 5, 6, 7, 8] rfl) (fun w_80 H locs ls he hP hD hS hl => kk w_80 H locs ls (hR.trans he) hP hD hS hl)
                · have c_124 : ¬ (r_93 < r_66) := c_124
                  have hR := hR.trans (if_neg c_124)
                  refine lv_iload hx hb dX6_vespers_127 (lv_at hl 1 rfl) ?_
                  refine lv_iload hx hb dX6_vespers_129 (lv_at hl 4 rfl) ?_
                  refine lv_icmp_ne (tgt := 144) hx hb dX6_vespers_131 (by decide) (fun c_131 => ?_) (fun c_131 => ?_)
                  · have c_131 : ¬ (r_93 = r_66) := c_131
                    have hR := hR.trans (if_neg c_131)
                    refine lv_iconst (v := (0 : Int32)) hx hb dX6_vespers_144 (by decide) ?_
                    refine lv_iadd hx hb dX6_vespers_145 ?_
                    refine lv_istore (lv' := [(6, .int (v6_80 + (0 : Int32))), (5, .int (v5_80 - ((xn * r_93) / w_30))), (8, .int r_93), (7, .int (nI i_80)), (4, .int r_66), (3, .int w_30), (0, .ref aR0), (1, .int xc), (2, .int xn)]) hx hb dX6_vespers_146 hl (by decide) rfl (fun ls hl => ?_)
                    refine lv_iinc (v := (nI (i_80 + 1))) (lv' := [(7, .int (nI (i_80 + 1))), (6, .int (v6_80 + (0 : Int32))), (5, .int (v5_80 - ((xn * r_93) / w_30))), (8, .int r_93), (4, .int r_66), (3, .int w_30), (0, .ref aR0), (1, .int xc), (2, .int xn)]) hx hb dX6_vespers_148 hl (k := 3) rfl (nI_1 i_80) (by decide) rfl (fun ls hl => ?_)
                    refine lv_goto (tgt := 80) hx hb dX6_vespers_151 (by decide) ?_
                    exact ih_80 (i_80 + 1) (v6_80 + (0 : Int32)) (v5_80 - ((xn * r_93) / w_30)) _ _ _ (by omega) (by omega) hP hD hS (lv_sub hl [0, 1, 2, 4, 5, 6, 7, 8] rfl) (fun w_80 H locs ls he hP hD hS hl => kk w_80 H locs ls (hR.trans he) hP hD hS hl)
                  · have c_131 : (r_93 = r_66) := c_131
                    have hR := hR.trans (if_pos c_131)
                    refine lv_iload hx hb dX6_vespers_134 (lv_at hl 2 rfl) ?_
                    refine lv_iload_n hx hb dX6_vespers_136 rfl (lv_at hl 7 rfl) ?_
                    refine lv_icmp_ge (tgt := 144) hx hb dX6_vespers_137 (by decide) (fun c_137 => ?_) (fun c_137 => ?_)
                    · have c_137 : (xc ≤ (nI i_80)) := c_137
                      have hR := hR.trans (if_pos c_137)
                      refine lv_iconst (v := (0 : Int32)) hx hb dX6_vespers_144 (by decide) ?_
                      refine lv_iadd hx hb dX6_vespers_145 ?_
                      refine lv_istore (lv' := [(6, .int (v6_80 + (0 : Int32))), (5, .int (v5_80 - ((xn * r_93) / w_30))), (8, .int r_93), (7, .int (nI i_80)), (4, .int r_66), (3, .int w_30), (0, .ref aR0), (1, .int xc), (2, .int xn)]) hx hb dX6_vespers_146 hl (by decide) rfl (fun ls hl => ?_)
                      refine lv_iinc (v := (nI (i_80 + 1))) (lv' := [(7, .int (nI (i_80 + 1))), (6, .int (v6_80 + (0 : Int32))), (5, .int (v5_80 - ((xn * r_93) / w_30))), (8, .int r_93), (4, .int r_66), (3, .int w_30), (0, .ref aR0), (1, .int xc), (2, .int xn)]) hx hb dX6_vespers_148 hl (k := 3) rfl (nI_1 i_80) (by decide) rfl (fun ls hl => ?_)
                      refine lv_goto (tgt := 80) hx hb dX6_vespers_151 (by decide) ?_
                      exact ih_80 (i_80 + 1) (v6_80 + (0 : Int32)) (v5_80 - ((xn * r_93) / w_30)) _ _ _ (by omega) (by omega) hP hD hS (lv_sub hl [0, 1, 2, 4, 5, 6, 7, 8] rfl) (fun w_80 H locs ls he hP hD hS hl => kk w_80 H locs ls (hR.trans he) hP hD hS hl)
                    · have c_137 : ¬ (xc ≤ (nI i_80)) := c_137
                      have hR := hR.trans (if_neg c_137)
                      refine lv_iconst (v := (1 : Int32)) hx hb dX6_vespers_140 (by decide) ?_
                      refine lv_goto (tgt := 145) hx hb dX6_vespers_141 (by decide) ?_
                      refine lv_iadd hx hb dX6_vespers_145 ?_
                      refine lv_istore (lv' := [(6, .int (v6_80 + (1 : Int32))), (5, .int (v5_80 - ((xn * r_93) / w_30))), (8, .int r_93), (7, .int (nI i_80)), (4, .int r_66), (3, .int w_30), (0, .ref aR0), (1, .int xc), (2, .int xn)]) hx hb dX6_vespers_146 hl (by decide) rfl (fun ls hl => ?_)
                      refine lv_iinc (v := (nI (i_80 + 1))) (lv' := [(7, .int (nI (i_80 + 1))), (6, .int (v6_80 + (1 : Int32))), (5, .int (v5_80 - ((xn * r_93) / w_30))), (8, .int r_93), (4, .int r_66), (3, .int w_30), (0, .ref aR0), (1, .int xc), (2, .int xn)]) hx hb dX6_vespers_148 hl (k := 3) rfl (nI_1 i_80) (by decide) rfl (fun ls hl => ?_)
                      refine lv_goto (tgt := 80) hx hb dX6_vespers_151 (by decide) ?_
                      exact ih_80 (i_80 + 1) (v6_80 + (1 : Int32)) (v5_80 - ((xn * r_93) / w_30)) _ _ _ (by omega) (by omega) hP hD hS (lv_sub hl [0, 1, 2, 4, 5, 6, 7, 8] rfl) (fun w_80 H locs ls he hP hD hS hl => kk w_80 H locs ls (hR.trans he) hP hD hS hl)
        refine hloop_80 (6 + 1) 0 (0 : Int32) xn _ _ _ (by omega) (by omega) hP hD hS (lv_sub hl [0, 1, 2, 3, 4, 5, 6, 7] rfl) (fun w_80 H locs ls hw_80 hP hD hS hl => ?_)
        have hP : va_P δ vwCl (wR cI cJ cZ aR0 aR1 aR2 aR3 aR4 aR5 aR6 aR7 aR8 aR9 aR10 aR11 aR12 aR13 aR14 aR15 aR16 aR17 aR18 aR19 aR20 aR21 lv sg pd ac dd hd le bd my lf pa kp) H := hP
        have hD : va_D A (wR cI cJ cZ aR0 aR1 aR2 aR3 aR4 aR5 aR6 aR7 aR8 aR9 aR10 aR11 aR12 aR13 aR14 aR15 aR16 aR17 aR18 aR19 aR20 aR21 lv sg pd ac dd hd le bd my lf pa kp) := hD
        have hR := bnd_eq hR hw_80.symm
        refine lv_iload_n hx hb dX6_vespers_154 rfl (lv_at hl 6 rfl) ?_
        refine lv_iload hx hb dX6_vespers_155 (lv_at hl 2 rfl) ?_
        refine lv_imul hx hb dX6_vespers_157 ?_
        refine lv_iload_n hx hb dX6_vespers_158 rfl (lv_at hl 3 rfl) ?_
        refine lv_idiv hx hb dX6_vespers_159 c_56 ?_
        refine lv_iload hx hb dX6_vespers_160 (lv_at hl 0 rfl) ?_
        refine lv_iload hx hb dX6_vespers_162 (lv_at hl 1 rfl) ?_
        refine lv_icmp_ge (tgt := 171) hx hb dX6_vespers_164 (by decide) (fun c_164 => ?_) (fun c_164 => ?_)
        · have c_164 : (w_80.2 ≤ w_80.1) := c_164
          have hR := hR.trans (if_pos c_164)
          refine lv_iconst (v := (0 : Int32)) hx hb dX6_vespers_171 (by decide) ?_
          refine lv_iadd hx hb dX6_vespers_172 ?_
          exact hret _ _ (((xn * r_66) / w_30) + (0 : Int32)) () _ _ hR hP hD hS dX6_vespers_173
        · have c_164 : ¬ (w_80.2 ≤ w_80.1) := c_164
          have hR := hR.trans (if_neg c_164)
          refine lv_iconst (v := (1 : Int32)) hx hb dX6_vespers_167 (by decide) ?_
          refine lv_goto (tgt := 172) hx hb dX6_vespers_168 (by decide) ?_
          refine lv_iadd hx hb dX6_vespers_172 ?_
          exact hret _ _ (((xn * r_66) / w_30) + (1 : Int32)) () _ _ hR hP hD hS dX6_vespers_173
      · have c_56 : (w_30 = 0) := c_56
        have hR := hR.trans (if_pos c_56)
        refine lv_iconst (v := (0 : Int32)) hx hb dX6_vespers_59 (by decide) ?_
        exact hret _ _ (0 : Int32) () _ _ hR hP hD hS dX6_vespers_60
    · have c_19 : (r_16 = 0) := c_19
      have hR := hR.trans (if_pos c_19)
      refine lv_bipush (v := (-2 : Int32)) hx hb dX6_vespers_22 (by decide) ?_
      exact hret _ _ (-2 : Int32) () _ _ hR hP hD hS dX6_vespers_24
  · have c_5 : (r_2 = 0) := c_5
    have hR := hR.trans (if_pos c_5)
    refine lv_iconst (v := (-1 : Int32)) hx hb dX6_vespers_8 (by decide) ?_
    exact hret _ _ (-1 : Int32) () _ _ hR hP hD hS dX6_vespers_9

abbrev rm_X6_reign : Room := { frames := 5, cells := 0, slots := 0, locals := 116 }
set_option maxHeartbeats 4000000 in
set_option maxRecDepth 100000 in
theorem c_X6_reign (l : Launch) (δ : va_G) (cI cJ cZ : ClassId) (aR0 aR1 aR2 aR3 aR4 aR5 aR6 aR7 aR8 aR9 aR10 aR11 aR12 aR13 aR14 aR15 aR16 aR17 aR18 aR19 aR20 aR21 : Nat) (lv : LV) (sg : SG) (pd : PD) (ac : AC) (dd : DD) (hd : HD) (le : LE) (bd : BD) (my : MY) (lf : LF) (pa : PA) (kp : KP) (xs : Int32) (xm : Int32) (xw : Int32) (hrk : rOK lv) : mMi l δ (mTy cI cJ cZ) yX6_reign wsX6_reign rm_X6_reign [.ref aR0, .int xs, .int xm, .int xw] (wR cI cJ cZ aR0 aR1 aR2 aR3 aR4 aR5 aR6 aR7 aR8 aR9 aR10 aR11 aR12 aR13 aR14 aR15 aR16 aR17 aR18 aR19 aR20 aR21 lv sg pd ac dd hd le bd my lf pa kp) (S := LV × DD × HD) (fun r u => F_X6_reign lv dd hd xs xm xw = (r, u)) (fun u => (wR cI cJ cZ aR0 aR1 aR2 aR3 aR4 aR5 aR6 aR7 aR8 aR9 aR10 aR11 aR12 aR13 aR14 aR15 aR16 aR17 aR18 aR19 aR20 aR21 u.1 sg pd ac u.2.1 u.2.2 le bd my lf pa kp)) := by
  refine mk_i (cc := cX6_reign) (maxL := 9) (by decide) rfl (Nat.le_of_ble_eq_true rfl) ?_
  intro p e s m args below meth c A Q ls H locs hx hb hml hts hown hK hNW hA hP hD hS hl hret
  have hown : s.vm.findClass RX6 = some m.cls := hown
  have hl : lv_has ls 9 [(0, .ref aR0), (1, .int xs), (2, .int xm), (3, .int xw)] := hl
  have hinX6 : ∀ w ∈ u_ws RX6 TX6 34, w ∈ wsX6_reign := (fun _ h => List.mem_cons_of_mem _ (List.mem_append_right _ (h)))
  have hR := F_X6_reign.eq_1 lv dd hd xs xm xw
  refine lv_iload_n hx hb dX6_reign_0 rfl (lv_at hl 1 rfl) ?_
  refine lv_i2l (v := (xs.toInt64)) hx hb dX6_reign_1 rfl ?_
  refine lv_lconst (v := (0 : Int64)) hx hb dX6_reign_2 (by decide) ?_
  refine lv_ldc2 (v := (9999 : Int64)) hx hb hown (hts (.constantLong RX6 270 (9999)) (List.mem_of_getElem? (i := 1) rfl)) dX6_reign_3 ?_
  have hr := mrS (p := p) (e := e) (R := rm_X6_reign) (below := below) (meth := meth) (H := H) (locs := locs) (ls := ls) (As := [.long (xs.toInt64), .long (0 : Int64), .long (9999 : Int64)]) (rest := []) (c_X6_in l δ cI cJ cZ (xs.toInt64) (0 : Int64) (9999 : Int64)) hx hb hml hts hown hK hNW hP hD [] rfl rfl (va_cwS 3 hts gX6_reign_X6_in rfl rfl rfl (by decide +kernel) ⟨(Nat.le_of_ble_eq_true rfl), (Nat.le_of_ble_eq_true rfl)⟩) rfl hl.1 rfl (Nat.le_of_ble_eq_true rfl) dX6_reign_6
  refine mc_i (wr := (wR cI cJ cZ aR0 aR1 aR2 aR3 aR4 aR5 aR6 aR7 aR8 aR9 aR10 aR11 aR12 aR13 aR14 aR15 aR16 aR17 aR18 aR19 aR20 aR21 lv sg pd ac dd hd le bd my lf pa kp)) hr hP hD hS hA [] [0, 1, 2, 3, 4, 5, 6, 7, 8, 9, 10, 11, 12, 13, 14, 15, 16, 17, 18, 19, 20, 21] [0, 1, 2, 3, 4, 5, 6, 7, 8, 9, 10, 11, 12, 13, 14, 15, 16, 17, 18, 19, 20, 21] rfl rfl rfl rfl rfl (wn := fun _ => (wR cI cJ cZ aR0 aR1 aR2 aR3 aR4 aR5 aR6 aR7 aR8 aR9 aR10 aR11 aR12 aR13 aR14 aR15 aR16 aR17 aR18 aR19 aR20 aR21 lv sg pd ac dd hd le bd my lf pa kp)) (fun _ => rfl) (fun r_6 _ H locs hw_6 hP hD hS => ?_)
  obtain ⟨hw_6, z_6⟩ := hw_6
  have hP : va_P δ vwCl (wR cI cJ cZ aR0 aR1 aR2 aR3 aR4 aR5 aR6 aR7 aR8 aR9 aR10 aR11 aR12 aR13 aR14 aR15 aR16 aR17 aR18 aR19 aR20 aR21 lv sg pd ac dd hd le bd my lf pa kp) H := hP
  have hD : va_D A (wR cI cJ cZ aR0 aR1 aR2 aR3 aR4 aR5 aR6 aR7 aR8 aR9 aR10 aR11 aR12 aR13 aR14 aR15 aR16 aR17 aR18 aR19 aR20 aR21 lv sg pd ac dd hd le bd my lf pa kp) := hD
  have hR := bnd_eq hR hw_6.symm
  refine lv_if_eq (tgt := 36) hx hb dX6_reign_9 (by decide) (fun c_9 => ?_) (fun c_9 => ?_)
  · have c_9 : (r_6 = 0) := c_9
    have hR := hR.trans (if_pos c_9)
    refine lv_bipush (v := (-2 : Int32)) hx hb dX6_reign_36 (by decide) ?_
    exact hret _ _ (-2 : Int32) (lv, dd, hd) _ _ hR hP hD hS dX6_reign_38
  · have c_9 : ¬ (r_6 = 0) := c_9
    have hR := hR.trans (if_neg c_9)
    refine lv_iload_n hx hb dX6_reign_12 rfl (lv_at hl 2 rfl) ?_
    refine lv_i2l (v := (xm.toInt64)) hx hb dX6_reign_13 rfl ?_
    refine lv_lconst (v := (1 : Int64)) hx hb dX6_reign_14 (by decide) ?_
    refine lv_ldc2 (v := (99 : Int64)) hx hb hown (hts (.constantLong RX6 272 (99)) (List.mem_of_getElem? (i := 2) rfl)) dX6_reign_15 ?_
    have hr := mrS (p := p) (e := e) (R := rm_X6_reign) (below := below) (meth := meth) (H := H) (locs := locs) (ls := ls) (As := [.long (xm.toInt64), .long (1 : Int64), .long (99 : Int64)]) (rest := []) (c_X6_in l δ cI cJ cZ (xm.toInt64) (1 : Int64) (99 : Int64)) hx hb hml hts hown hK hNW hP hD [] rfl rfl (va_cwS 3 hts gX6_reign_X6_in rfl rfl rfl (by decide +kernel) ⟨(Nat.le_of_ble_eq_true rfl), (Nat.le_of_ble_eq_true rfl)⟩) rfl hl.1 rfl (Nat.le_of_ble_eq_true rfl) dX6_reign_18
    refine mc_i (wr := (wR cI cJ cZ aR0 aR1 aR2 aR3 aR4 aR5 aR6 aR7 aR8 aR9 aR10 aR11 aR12 aR13 aR14 aR15 aR16 aR17 aR18 aR19 aR20 aR21 lv sg pd ac dd hd le bd my lf pa kp)) hr hP hD hS hA [] [0, 1, 2, 3, 4, 5, 6, 7, 8, 9, 10, 11, 12, 13, 14, 15, 16, 17, 18, 19, 20, 21] [0, 1, 2, 3, 4, 5, 6, 7, 8, 9, 10, 11, 12, 13, 14, 15, 16, 17, 18, 19, 20, 21] rfl rfl rfl rfl rfl (wn := fun _ => (wR cI cJ cZ aR0 aR1 aR2 aR3 aR4 aR5 aR6 aR7 aR8 aR9 aR10 aR11 aR12 aR13 aR14 aR15 aR16 aR17 aR18 aR19 aR20 aR21 lv sg pd ac dd hd le bd my lf pa kp)) (fun _ => rfl) (fun r_18 _ H locs hw_18 hP hD hS => ?_)
    obtain ⟨hw_18, z_18⟩ := hw_18
    have hP : va_P δ vwCl (wR cI cJ cZ aR0 aR1 aR2 aR3 aR4 aR5 aR6 aR7 aR8 aR9 aR10 aR11 aR12 aR13 aR14 aR15 aR16 aR17 aR18 aR19 aR20 aR21 lv sg pd ac dd hd le bd my lf pa kp) H := hP
    have hD : va_D A (wR cI cJ cZ aR0 aR1 aR2 aR3 aR4 aR5 aR6 aR7 aR8 aR9 aR10 aR11 aR12 aR13 aR14 aR15 aR16 aR17 aR18 aR19 aR20 aR21 lv sg pd ac dd hd le bd my lf pa kp) := hD
    have hR := bnd_eq hR hw_18.symm
    refine lv_if_eq (tgt := 36) hx hb dX6_reign_21 (by decide) (fun c_21 => ?_) (fun c_21 => ?_)
    · have c_21 : (r_18 = 0) := c_21
      have hR := hR.trans (if_pos c_21)
      refine lv_bipush (v := (-2 : Int32)) hx hb dX6_reign_36 (by decide) ?_
      exact hret _ _ (-2 : Int32) (lv, dd, hd) _ _ hR hP hD hS dX6_reign_38
    · have c_21 : ¬ (r_18 = 0) := c_21
      have hR := hR.trans (if_neg c_21)
      refine lv_iload_n hx hb dX6_reign_24 rfl (lv_at hl 3 rfl) ?_
      refine lv_i2l (v := (xw.toInt64)) hx hb dX6_reign_25 rfl ?_
      refine lv_lconst (v := (0 : Int64)) hx hb dX6_reign_26 (by decide) ?_
      refine lv_ldc2 (v := (2 : Int64)) hx hb hown (hts (.constantLong RX6 211 (2)) (List.mem_of_getElem? (i := 3) rfl)) dX6_reign_27 ?_
      have hr := mrS (p := p) (e := e) (R := rm_X6_reign) (below := below) (meth := meth) (H := H) (locs := locs) (ls := ls) (As := [.long (xw.toInt64), .long (0 : Int64), .long (2 : Int64)]) (rest := []) (c_X6_in l δ cI cJ cZ (xw.toInt64) (0 : Int64) (2 : Int64)) hx hb hml hts hown hK hNW hP hD [] rfl rfl (va_cwS 3 hts gX6_reign_X6_in rfl rfl rfl (by decide +kernel) ⟨(Nat.le_of_ble_eq_true rfl), (Nat.le_of_ble_eq_true rfl)⟩) rfl hl.1 rfl (Nat.le_of_ble_eq_true rfl) dX6_reign_30
      refine mc_i (wr := (wR cI cJ cZ aR0 aR1 aR2 aR3 aR4 aR5 aR6 aR7 aR8 aR9 aR10 aR11 aR12 aR13 aR14 aR15 aR16 aR17 aR18 aR19 aR20 aR21 lv sg pd ac dd hd le bd my lf pa kp)) hr hP hD hS hA [] [0, 1, 2, 3, 4, 5, 6, 7, 8, 9, 10, 11, 12, 13, 14, 15, 16, 17, 18, 19, 20, 21] [0, 1, 2, 3, 4, 5, 6, 7, 8, 9, 10, 11, 12, 13, 14, 15, 16, 17, 18, 19, 20, 21] rfl rfl rfl rfl rfl (wn := fun _ => (wR cI cJ cZ aR0 aR1 aR2 aR3 aR4 aR5 aR6 aR7 aR8 aR9 aR10 aR11 aR12 aR13 aR14 aR15 aR16 aR17 aR18 aR19 aR20 aR21 lv sg pd ac dd hd le bd my lf pa kp)) (fun _ => rfl) (fun r_30 _ H locs hw_30 hP hD hS => ?_)
      obtain ⟨hw_30, z_30⟩ := hw_30
      have hP : va_P δ vwCl (wR cI cJ cZ aR0 aR1 aR2 aR3 aR4 aR5 aR6 aR7 aR8 aR9 aR10 aR11 aR12 aR13 aR14 aR15 aR16 aR17 aR18 aR19 aR20 aR21 lv sg pd ac dd hd le bd my lf pa kp) H := hP
      have hD : va_D A (wR cI cJ cZ aR0 aR1 aR2 aR3 aR4 aR5 aR6 aR7 aR8 aR9 aR10 aR11 aR12 aR13 aR14 aR15 aR16 aR17 aR18 aR19 aR20 aR21 lv sg pd ac dd hd le bd my lf pa kp) := hD
      have hR := bnd_eq hR hw_30.symm
      refine lv_if_ne (tgt := 39) hx hb dX6_reign_33 (by decide) (fun c_33 => ?_) (fun c_33 => ?_)
      · have c_33 : ¬ (r_30 = 0) := c_33
        have hR := hR.trans (if_neg c_33)
        refine lv_aload_n hx hb dX6_reign_39 rfl (lv_at hl 0 rfl) ?_
        refine lv_aload_n hx hb dX6_reign_40 rfl (lv_at hl 0 rfl) ?_
        refine va_get (D := δ) (ci := 6) (v := .ref aR15) (C := RX6) (T := TX6) (N := 34) hx hb hts hinX6 hown hK hP 0 rfl rfl 23 (by decide) (hts (.fieldLink RX6 52 "GloveHoursModel" "had" "[I") (List.mem_of_getElem? (i := 4) rfl)) (fun _ h9 => h9) rfl dX6_reign_41 ?_
        have hm99 := mcount_in hw_18 c_21
        have hr := mrV (p := p) (e := e) (R := rm_X6_reign) (below := below) (meth := meth) (H := H) (locs := locs) (ls := ls) (As := [.ref aR15]) (rest := []) (c_X6_store_had l δ cI cJ cZ aR0 aR1 aR2 aR3 aR4 aR5 aR6 aR7 aR8 aR9 aR10 aR11 aR12 aR13 aR14 aR15 aR16 aR17 aR18 aR19 aR20 aR21 lv sg pd ac dd hd le bd my lf pa kp) hx hb hml hts hown hK hNW hP hD [0, 1, 2, 3, 4, 5, 6, 7, 8, 9, 10, 11, 12, 13, 14, 15, 16, 17, 18, 19, 20, 21] rfl rfl 6 0 rfl rfl (cwV 1 hts gX6_reign_X6_store rfl rfl rfl (by decide +kernel) ⟨(Nat.le_of_ble_eq_true rfl), (Nat.le_of_ble_eq_true rfl)⟩) rfl hl.1 rfl (Nat.le_of_ble_eq_true rfl) dX6_reign_44
        refine mc_v (wr := ([] : va_W)) hr hP hD hS hA [0, 1, 2, 3, 4, 5, 6, 7, 8, 9, 10, 11, 12, 13, 14, 15, 16, 17, 18, 19, 20, 21] [] [0, 1, 2, 3, 4, 5, 6, 7, 8, 9, 10, 11, 12, 13, 14, 15, 16, 17, 18, 19, 20, 21] rfl rfl rfl rfl rfl (wn := fun u_44 => (wR cI cJ cZ aR0 aR1 aR2 aR3 aR4 aR5 aR6 aR7 aR8 aR9 aR10 aR11 aR12 aR13 aR14 aR15 aR16 aR17 aR18 aR19 aR20 aR21 lv sg pd ac dd u_44 le bd my lf pa kp)) (fun _ => rfl) (fun u_44 H locs hw_44 hP hD hS => ?_)
        have hP : va_P δ vwCl (wR cI cJ cZ aR0 aR1 aR2 aR3 aR4 aR5 aR6 aR7 aR8 aR9 aR10 aR11 aR12 aR13 aR14 aR15 aR16 aR17 aR18 aR19 aR20 aR21 lv sg pd ac dd u_44 le bd my lf pa kp) H := hP
        have hD : va_D A (wR cI cJ cZ aR0 aR1 aR2 aR3 aR4 aR5 aR6 aR7 aR8 aR9 aR10 aR11 aR12 aR13 aR14 aR15 aR16 aR17 aR18 aR19 aR20 aR21 lv sg pd ac dd u_44 le bd my lf pa kp) := hD
        have hR := bnd_eq hR hw_44.symm
        refine lv_aload_n hx hb dX6_reign_47 rfl (lv_at hl 0 rfl) ?_
        have hr := mrV (p := p) (e := e) (R := rm_X6_reign) (below := below) (meth := meth) (H := H) (locs := locs) (ls := ls) (As := []) (rest := []) (c_X6_beginCount l δ cI cJ cZ aR0 aR1 aR2 aR3 aR4 aR5 aR6 aR7 aR8 aR9 aR10 aR11 aR12 aR13 aR14 aR15 aR16 aR17 aR18 aR19 aR20 aR21 lv sg pd ac dd u_44 le bd my lf pa kp) hx hb hml hts hown hK hNW hP hD [0, 1, 2, 3, 4, 5, 6, 7, 8, 9, 10, 11, 12, 13, 14, 15, 16, 17, 18, 19, 20, 21] rfl rfl 6 0 rfl rfl (cwV 0 hts gX6_reign_X6_beginCount rfl rfl rfl (by decide +kernel) ⟨(Nat.le_of_ble_eq_true rfl), (Nat.le_of_ble_eq_true rfl)⟩) rfl hl.1 rfl (Nat.le_of_ble_eq_true rfl) dX6_reign_48
        refine mc_v (wr := ([] : va_W)) hr hP hD hS hA [0, 1, 2, 3, 4, 5, 6, 7, 8, 9, 10, 11, 12, 13, 14, 15, 16, 17, 18, 19, 20, 21] [] [0, 1, 2, 3, 4, 5, 6, 7, 8, 9, 10, 11, 12, 13, 14, 15, 16, 17, 18, 19, 20, 21] rfl rfl rfl rfl rfl (wn := fun u_48 => (wR cI cJ cZ aR0 aR1 aR2 aR3 aR4 aR5 aR6 aR7 aR8 aR9 aR10 aR11 aR12 aR13 aR14 aR15 aR16 aR17 aR18 aR19 aR20 aR21 lv sg pd ac u_48 u_44 le bd my lf pa kp)) (fun _ => rfl) (fun u_48 H locs hw_48 hP hD hS => ?_)
        have hP : va_P δ vwCl (wR cI cJ cZ aR0 aR1 aR2 aR3 aR4 aR5 aR6 aR7 aR8 aR9 aR10 aR11 aR12 aR13 aR14 aR15 aR16 aR17 aR18 aR19 aR20 aR21 lv sg pd ac u_48 u_44 le bd my lf pa kp) H := hP
        have hD : va_D A (wR cI cJ cZ aR0 aR1 aR2 aR3 aR4 aR5 aR6 aR7 aR8 aR9 aR10 aR11 aR12 aR13 aR14 aR15 aR16 aR17 aR18 aR19 aR20 aR21 lv sg pd ac u_48 u_44 le bd my lf pa kp) := hD
        have hR := bnd_eq hR hw_48.symm
        refine lv_iload_n hx hb dX6_reign_51 rfl (lv_at hl 1 rfl) ?_
        refine lv_istore (lv' := [(4, .int xs), (0, .ref aR0), (1, .int xs), (2, .int xm), (3, .int xw)]) hx hb dX6_reign_52 hl (by decide) rfl (fun ls hl => ?_)
        refine lv_iconst (v := (0 : Int32)) hx hb dX6_reign_54 (by decide) ?_
        refine lv_istore (lv' := [(5, .int (0 : Int32)), (4, .int xs), (0, .ref aR0), (1, .int xs), (2, .int xm), (3, .int xw)]) hx hb dX6_reign_55 hl (by decide) rfl (fun ls hl => ?_)
        have hloop_57 : ∀ (n_57 : Nat) (i_57 : Nat) (v4_57 : Int32) (lv_57 : LV) (dd_57 : DD) (H : Heap) (locs : List Loc) (ls : Array Slot), (hi_57 : i_57 ≤ xm.toNatClampNeg) → (hn_57 : xm.toNatClampNeg < i_57 + n_57) → (hx_57 : 0 ≤ v4_57.toInt ∧ v4_57.toInt ≤ 65536) → (hrk_57 : rOK lv_57) → (hdb_57 : 0 ≤ (eDeeds dd_57).toInt ∧ (eDeeds dd_57).toInt ≤ 2 * i_57) → (hP : va_P δ vwCl (wR cI cJ cZ aR0 aR1 aR2 aR3 aR4 aR5 aR6 aR7 aR8 aR9 aR10 aR11 aR12 aR13 aR14 aR15 aR16 aR17 aR18 aR19 aR20 aR21 lv_57 sg pd ac dd_57 u_44 le bd my lf pa kp) H) → (hD : va_D A (wR cI cJ cZ aR0 aR1 aR2 aR3 aR4 aR5 aR6 aR7 aR8 aR9 aR10 aR11 aR12 aR13 aR14 aR15 aR16 aR17 aR18 aR19 aR20 aR21 lv_57 sg pd ac dd_57 u_44 le bd my lf pa kp)) → (hS : va_S A s.heap H locs) → (hl : lv_has ls 9 [(5, .int (nI i_57)), (4, .int v4_57), (0, .ref aR0), (1, .int xs), (2, .int xm), (3, .int xw)]) → (kk : ∀ (w_57 : Int32 × LV × DD) (H : Heap) (locs : List Loc) (ls : Array Slot), L_X6_reign_57 xm n_57 i_57 v4_57 lv_57 dd_57 = w_57 → va_P δ vwCl (wR cI cJ cZ aR0 aR1 aR2 aR3 aR4 aR5 aR6 aR7 aR8 aR9 aR10 aR11 aR12 aR13 aR14 aR15 aR16 aR17 aR18 aR19 aR20 aR21 w_57.2.1 sg pd ac w_57.2.2 u_44 le bd my lf pa kp) H → va_D A (wR cI cJ cZ aR0 aR1 aR2 aR3 aR4 aR5 aR6 aR7 aR8 aR9 aR10 aR11 aR12 aR13 aR14 aR15 aR16 aR17 aR18 aR19 aR20 aR21 w_57.2.1 sg pd ac w_57.2.2 u_44 le bd my lf pa kp) → va_S A s.heap H locs → lv_has ls 9 [(4, .int w_57.1), (0, .ref aR0), (1, .int xs), (2, .int xm), (3, .int xw)] → W p l e rm_X6_reign s m args below meth c H locs 0 0 Q (F0 m 170 ls [])) → W p l e rm_X6_reign s m args below meth c H locs 0 0 Q (F0 m 57 ls []) := by
          intro n_57
          induction n_57 with
          | zero => intro i_57 v4_57 lv_57 dd_57 H locs ls hi_57 hn_57 hx_57 hrk_57 hdb_57 hP hD hS hl kk; exact absurd hn_57 (by omega)
          | succ n_57 ih_57 =>
            intro i_57 v4_57 lv_57 dd_57 H locs ls hi_57 hn_57 hx_57 hrk_57 hdb_57 hP hD hS hl kk
            have hR := L_X6_reign_57_s xm n_57 i_57 v4_57 lv_57 dd_57
            refine lv_iload hx hb dX6_reign_57 (lv_at hl 0 rfl) ?_
            refine lv_iload_n hx hb dX6_reign_59 rfl (lv_at hl 4 rfl) ?_
            refine lv_icmp_ge (tgt := 170) hx hb dX6_reign_60 (by decide) (fun c_60 => ?_) (fun c_60 => ?_)
            · have c_60 : (xm ≤ (nI i_57)) := c_60
              have hR := hR.trans (if_pos c_60)
              exact kk (v4_57, lv_57, dd_57) H locs ls hR hP hD hS (lv_sub hl [1, 2, 3, 4, 5] rfl)
            · have c_60 : ¬ (xm ≤ (nI i_57)) := c_60
              have hR := hR.trans (if_neg c_60)
              have hlt_57 : i_57 < xm.toNatClampNeg := lt_c c_60 hi_57
              refine lv_ldc2 (v := (75 : Int64)) hx hb hown (hts (.constantLong RX6 274 (75)) (List.mem_of_getElem? (i := 5) rfl)) dX6_reign_63 ?_
              refine lv_iload hx hb dX6_reign_66 (lv_at hl 1 rfl) ?_
              refine lv_i2l (v := (v4_57.toInt64)) hx hb dX6_reign_68 rfl ?_
              refine lv_lmul hx hb dX6_reign_69 ?_
              refine lv_ldc2 (v := (74 : Int64)) hx hb hown (hts (.constantLong RX6 276 (74)) (List.mem_of_getElem? (i := 6) rfl)) dX6_reign_70 ?_
              refine lv_ladd hx hb dX6_reign_73 ?_
              refine lv_ldc2 (v := (65537 : Int64)) hx hb hown (hts (.constantLong RX6 278 (65537)) (List.mem_of_getElem? (i := 7) rfl)) dX6_reign_74 ?_
              refine lv_lrem hx hb dX6_reign_77 (by decide) ?_
              refine lv_l2i (v := (((((75 : Int64) * (v4_57.toInt64)) + (74 : Int64)) - (((75 : Int64) * (v4_57.toInt64)) + (74 : Int64)) / (65537 : Int64) * (65537 : Int64)).toInt32)) hx hb dX6_reign_78 rfl ?_
              refine lv_topi (fun y_78 e_78 => ?_)
              have hR := bnd_eq hR e_78
              refine lv_istore (lv' := [(4, .int y_78), (5, .int (nI i_57)), (0, .ref aR0), (1, .int xs), (2, .int xm), (3, .int xw)]) hx hb dX6_reign_79 hl (by decide) rfl (fun ls hl => ?_)
              refine lv_iload hx hb dX6_reign_81 (lv_at hl 0 rfl) ?_
              refine lv_bipush (v := (6 : Int32)) hx hb dX6_reign_83 (by decide) ?_
              refine lv_idiv hx hb dX6_reign_85 (by decide) ?_
              refine lv_iconst (v := (4 : Int32)) hx hb dX6_reign_86 (by decide) ?_
              refine lv_irem hx hb dX6_reign_87 (by decide) ?_
              refine lv_istore (lv' := [(6, .int ((y_78 / (6 : Int32)) - (y_78 / (6 : Int32)) / (4 : Int32) * (4 : Int32))), (4, .int y_78), (5, .int (nI i_57)), (0, .ref aR0), (1, .int xs), (2, .int xm), (3, .int xw)]) hx hb dX6_reign_88 hl (by decide) rfl (fun ls hl => ?_)
              refine lv_iload hx hb dX6_reign_90 (lv_at hl 0 rfl) ?_
              refine lv_if_ne (tgt := 100) hx hb dX6_reign_92 (by decide) (fun c_92 => ?_) (fun c_92 => ?_)
              · have c_92 : ¬ (((y_78 / (6 : Int32)) - (y_78 / (6 : Int32)) / (4 : Int32) * (4 : Int32)) = 0) := c_92
                have hR := hR.trans (if_neg c_92)
                refine lv_iload hx hb dX6_reign_100 (lv_at hl 0 rfl) ?_
                refine lv_iconst (v := (1 : Int32)) hx hb dX6_reign_102 (by decide) ?_
                refine lv_icmp_ne (tgt := 110) hx hb dX6_reign_103 (by decide) (fun c_103 => ?_) (fun c_103 => ?_)
                · have c_103 : ¬ (((y_78 / (6 : Int32)) - (y_78 / (6 : Int32)) / (4 : Int32) * (4 : Int32)) = (1 : Int32)) := c_103
                  have hR := hR.trans (if_neg c_103)
                  refine lv_iload hx hb dX6_reign_110 (lv_at hl 0 rfl) ?_
                  refine lv_iconst (v := (2 : Int32)) hx hb dX6_reign_112 (by decide) ?_
                  refine lv_icmp_ne (tgt := 120) hx hb dX6_reign_113 (by decide) (fun c_113 => ?_) (fun c_113 => ?_)
                  · have c_113 : ¬ (((y_78 / (6 : Int32)) - (y_78 / (6 : Int32)) / (4 : Int32) * (4 : Int32)) = (2 : Int32)) := c_113
                    have hR := hR.trans (if_neg c_113)
                    refine lv_iconst (v := (3 : Int32)) hx hb dX6_reign_120 (by decide) ?_
                    refine lv_istore (lv' := [(7, .int (3 : Int32)), (6, .int ((y_78 / (6 : Int32)) - (y_78 / (6 : Int32)) / (4 : Int32) * (4 : Int32))), (4, .int y_78), (5, .int (nI i_57)), (0, .ref aR0), (1, .int xs), (2, .int xm), (3, .int xw)]) hx hb dX6_reign_121 hl (by decide) rfl (fun ls hl => ?_)
                    refine lv_iload hx hb dX6_reign_123 (lv_at hl 2 rfl) ?_
                    refine lv_bipush (v := (24 : Int32)) hx hb dX6_reign_125 (by decide) ?_
                    refine lv_idiv hx hb dX6_reign_127 (by decide) ?_
                    refine lv_bipush (v := (24 : Int32)) hx hb dX6_reign_128 (by decide) ?_
                    refine lv_irem hx hb dX6_reign_130 (by decide) ?_
                    refine lv_istore (lv' := [(8, .int ((y_78 / (24 : Int32)) - (y_78 / (24 : Int32)) / (24 : Int32) * (24 : Int32))), (7, .int (3 : Int32)), (6, .int ((y_78 / (6 : Int32)) - (y_78 / (6 : Int32)) / (4 : Int32) * (4 : Int32))), (4, .int y_78), (5, .int (nI i_57)), (0, .ref aR0), (1, .int xs), (2, .int xm), (3, .int xw)]) hx hb dX6_reign_131 hl (by decide) rfl (fun ls hl => ?_)
                    refine lv_aload_n hx hb dX6_reign_133 rfl (lv_at hl 5 rfl) ?_
                    refine lv_iload hx hb dX6_reign_134 (lv_at hl 1 rfl) ?_
                    refine lv_iload hx hb dX6_reign_136 (lv_at hl 3 rfl) ?_
                    refine lv_bipush (v := (6 : Int32)) hx hb dX6_reign_138 (by decide) ?_
                    refine lv_irem hx hb dX6_reign_140 (by decide) ?_
                    refine lv_iconst (v := (0 : Int32)) hx hb dX6_reign_141 (by decide) ?_
                    refine lv_iload hx hb dX6_reign_142 (lv_at hl 0 rfl) ?_
                    have hr := mrV (p := p) (e := e) (R := rm_X6_reign) (below := below) (meth := meth) (H := H) (locs := locs) (ls := ls) (As := [.int (3 : Int32), .int (y_78 - y_78 / (6 : Int32) * (6 : Int32)), .int (0 : Int32), .int ((y_78 / (24 : Int32)) - (y_78 / (24 : Int32)) / (24 : Int32) * (24 : Int32))]) (rest := []) (c_X6_whyNot l δ cI cJ cZ aR0 aR1 aR2 aR3 aR4 aR5 aR6 aR7 aR8 aR9 aR10 aR11 aR12 aR13 aR14 aR15 aR16 aR17 aR18 aR19 aR20 aR21 lv_57 sg pd ac dd_57 u_44 le bd my lf pa kp (3 : Int32) (y_78 - y_78 / (6 : Int32) * (6 : Int32)) (0 : Int32) ((y_78 / (24 : Int32)) - (y_78 / (24 : Int32)) / (24 : Int32) * (24 : Int32)) (mod24_in (rn_rng hx_57 e_78).1)) hx hb hml hts hown hK hNW hP hD [0, 1, 2, 3, 4, 5, 6, 7, 8, 9, 10, 11, 12, 13, 14, 15, 16, 17, 18, 19, 20, 21] rfl rfl 6 0 rfl rfl (cwV 4 hts gX6_reign_X6_whyNot rfl rfl rfl (by decide +kernel) ⟨(Nat.le_of_ble_eq_true rfl), (Nat.le_of_ble_eq_true rfl)⟩) rfl hl.1 rfl (Nat.le_of_ble_eq_true rfl) dX6_reign_144
                    refine mc_i (wr := ([] : va_W)) hr hP hD hS hA [0, 1, 2, 3, 4, 5, 6, 7, 8, 9, 10, 11, 12, 13, 14, 15, 16, 17, 18, 19, 20, 21] [] [0, 1, 2, 3, 4, 5, 6, 7, 8, 9, 10, 11, 12, 13, 14, 15, 16, 17, 18, 19, 20, 21] rfl rfl rfl rfl rfl (wn := fun _ => (wR cI cJ cZ aR0 aR1 aR2 aR3 aR4 aR5 aR6 aR7 aR8 aR9 aR10 aR11 aR12 aR13 aR14 aR15 aR16 aR17 aR18 aR19 aR20 aR21 lv_57 sg pd ac dd_57 u_44 le bd my lf pa kp)) (fun _ => rfl) (fun r_144 _ H locs hw_144 hP hD hS => ?_)
                    have hP : va_P δ vwCl (wR cI cJ cZ aR0 aR1 aR2 aR3 aR4 aR5 aR6 aR7 aR8 aR9 aR10 aR11 aR12 aR13 aR14 aR15 aR16 aR17 aR18 aR19 aR20 aR21 lv_57 sg pd ac dd_57 u_44 le bd my lf pa kp) H := hP
                    have hD : va_D A (wR cI cJ cZ aR0 aR1 aR2 aR3 aR4 aR5 aR6 aR7 aR8 aR9 aR10 aR11 aR12 aR13 aR14 aR15 aR16 aR17 aR18 aR19 aR20 aR21 lv_57 sg pd ac dd_57 u_44 le bd my lf pa kp) := hD
                    have hR := bnd_eq hR hw_144.symm
                    refine lv_if_ne (tgt := 164) hx hb dX6_reign_147 (by decide) (fun c_147 => ?_) (fun c_147 => ?_)
                    · have c_147 : ¬ (r_144 = 0) := c_147
                      have hR := hR.trans (if_neg c_147)
                      refine lv_iinc (v := (nI (i_57 + 1))) (lv' := [(5, .int (nI (i_57 + 1))), (8, .int ((y_78 / (24 : Int32)) - (y_78 / (24 : Int32)) / (24 : Int32) * (24 : Int32))), (7, .int (3 : Int32)), (6, .int ((y_78 / (6 : Int32)) - (y_78 / (6 : Int32)) / (4 : Int32) * (4 : Int32))), (4, .int y_78), (0, .ref aR0), (1, .int xs), (2, .int xm), (3, .int xw)]) hx hb dX6_reign_164 hl (k := 4) rfl (nI_1 i_57) (by decide) rfl (fun ls hl => ?_)
                      refine lv_goto (tgt := 57) hx hb dX6_reign_167 (by decide) ?_
                      exact ih_57 (i_57 + 1) y_78 lv_57 dd_57 _ _ _ (by omega) (by omega) (rn_rng hx_57 e_78) (by first | exact happen_rok hw_161 hrk_57 (mod24_in (rn_rng hx_57 e_78).1) | exact hrk_57) (by first | exact happen_deeds hw_161 (by omega) hdb_57 | exact dd_le hdb_57) hP hD hS (lv_sub hl [0, 4, 5, 6, 7, 8] rfl) (fun w_57 H locs ls he hP hD hS hl => kk w_57 H locs ls (hR.trans he) hP hD hS hl)
                    · have c_147 : (r_144 = 0) := c_147
                      have hR := hR.trans (if_pos c_147)
                      refine lv_aload_n hx hb dX6_reign_150 rfl (lv_at hl 5 rfl) ?_
                      refine lv_iload hx hb dX6_reign_151 (lv_at hl 1 rfl) ?_
                      refine lv_iload hx hb dX6_reign_153 (lv_at hl 3 rfl) ?_
                      refine lv_bipush (v := (6 : Int32)) hx hb dX6_reign_155 (by decide) ?_
                      refine lv_irem hx hb dX6_reign_157 (by decide) ?_
                      refine lv_iconst (v := (0 : Int32)) hx hb dX6_reign_158 (by decide) ?_
                      refine lv_iload hx hb dX6_reign_159 (lv_at hl 0 rfl) ?_
                      have hr := mrV (p := p) (e := e) (R := rm_X6_reign) (below := below) (meth := meth) (H := H) (locs := locs) (ls := ls) (As := [.int (3 : Int32), .int (y_78 - y_78 / (6 : Int32) * (6 : Int32)), .int (0 : Int32), .int ((y_78 / (24 : Int32)) - (y_78 / (24 : Int32)) / (24 : Int32) * (24 : Int32))]) (rest := []) (c_X6_happen l δ cI cJ cZ aR0 aR1 aR2 aR3 aR4 aR5 aR6 aR7 aR8 aR9 aR10 aR11 aR12 aR13 aR14 aR15 aR16 aR17 aR18 aR19 aR20 aR21 lv_57 sg pd ac dd_57 u_44 le bd my lf pa kp (3 : Int32) (y_78 - y_78 / (6 : Int32) * (6 : Int32)) (0 : Int32) ((y_78 / (24 : Int32)) - (y_78 / (24 : Int32)) / (24 : Int32) * (24 : Int32)) (hw_144.trans c_147) (mod24_in (rn_rng hx_57 e_78).1) hrk_57 (⟨hdb_57.1, by omega⟩)) hx hb hml hts hown hK hNW hP hD [0, 1, 2, 3, 4, 5, 6, 7, 8, 9, 10, 11, 12, 13, 14, 15, 16, 17, 18, 19, 20, 21] rfl rfl 6 0 rfl rfl (cwV 4 hts gX6_reign_X6_happen rfl rfl rfl (by decide +kernel) ⟨(Nat.le_of_ble_eq_true rfl), (Nat.le_of_ble_eq_true rfl)⟩) rfl hl.1 rfl (Nat.le_of_ble_eq_true rfl) dX6_reign_161
                      refine mc_v (wr := ([] : va_W)) hr hP hD hS hA [0, 1, 2, 3, 4, 5, 6, 7, 8, 9, 10, 11, 12, 13, 14, 15, 16, 17, 18, 19, 20, 21] [] [0, 1, 2, 3, 4, 5, 6, 7, 8, 9, 10, 11, 12, 13, 14, 15, 16, 17, 18, 19, 20, 21] rfl rfl rfl rfl rfl (wn := fun u_161 => (wR cI cJ cZ aR0 aR1 aR2 aR3 aR4 aR5 aR6 aR7 aR8 aR9 aR10 aR11 aR12 aR13 aR14 aR15 aR16 aR17 aR18 aR19 aR20 aR21 u_161.1 sg pd ac u_161.2 u_44 le bd my lf pa kp)) (fun _ => rfl) (fun u_161 H locs hw_161 hP hD hS => ?_)
                      have hP : va_P δ vwCl (wR cI cJ cZ aR0 aR1 aR2 aR3 aR4 aR5 aR6 aR7 aR8 aR9 aR10 aR11 aR12 aR13 aR14 aR15 aR16 aR17 aR18 aR19 aR20 aR21 u_161.1 sg pd ac u_161.2 u_44 le bd my lf pa kp) H := hP
                      have hD : va_D A (wR cI cJ cZ aR0 aR1 aR2 aR3 aR4 aR5 aR6 aR7 aR8 aR9 aR10 aR11 aR12 aR13 aR14 aR15 aR16 aR17 aR18 aR19 aR20 aR21 u_161.1 sg pd ac u_161.2 u_44 le bd my lf pa kp) := hD
                      have hR := bnd_eq hR hw_161.symm
                      refine lv_iinc (v := (nI (i_57 + 1))) (lv' := [(5, .int (nI (i_57 + 1))), (8, .int ((y_78 / (24 : Int32)) - (y_78 / (24 : Int32)) / (24 : Int32) * (24 : Int32))), (7, .int (3 : Int32)), (6, .int ((y_78 / (6 : Int32)) - (y_78 / (6 : Int32)) / (4 : Int32) * (4 : Int32))), (4, .int y_78), (0, .ref aR0), (1, .int xs), (2, .int xm), (3, .int xw)]) hx hb dX6_reign_164 hl (k := 4) rfl (nI_1 i_57) (by decide) rfl (fun ls hl => ?_)
                      refine lv_goto (tgt := 57) hx hb dX6_reign_167 (by decide) ?_
                      exact ih_57 (i_57 + 1) y_78 u_161.1 u_161.2 _ _ _ (by omega) (by omega) (rn_rng hx_57 e_78) (by first | exact happen_rok hw_161 hrk_57 (mod24_in (rn_rng hx_57 e_78).1) | exact hrk_57) (by first | exact happen_deeds hw_161 (by omega) hdb_57 | exact dd_le hdb_57) hP hD hS (lv_sub hl [0, 4, 5, 6, 7, 8] rfl) (fun w_57 H locs ls he hP hD hS hl => kk w_57 H locs ls (hR.trans he) hP hD hS hl)
                  · have c_113 : (((y_78 / (6 : Int32)) - (y_78 / (6 : Int32)) / (4 : Int32) * (4 : Int32)) = (2 : Int32)) := c_113
                    have hR := hR.trans (if_pos c_113)
                    refine lv_iconst (v := (0 : Int32)) hx hb dX6_reign_116 (by decide) ?_
                    refine lv_goto (tgt := 121) hx hb dX6_reign_117 (by decide) ?_
                    refine lv_istore (lv' := [(7, .int (0 : Int32)), (6, .int ((y_78 / (6 : Int32)) - (y_78 / (6 : Int32)) / (4 : Int32) * (4 : Int32))), (4, .int y_78), (5, .int (nI i_57)), (0, .ref aR0), (1, .int xs), (2, .int xm), (3, .int xw)]) hx hb dX6_reign_121 hl (by decide) rfl (fun ls hl => ?_)
                    refine lv_iload hx hb dX6_reign_123 (lv_at hl 2 rfl) ?_
                    refine lv_bipush (v := (24 : Int32)) hx hb dX6_reign_125 (by decide) ?_
                    refine lv_idiv hx hb dX6_reign_127 (by decide) ?_
                    refine lv_bipush (v := (24 : Int32)) hx hb dX6_reign_128 (by decide) ?_
                    refine lv_irem hx hb dX6_reign_130 (by decide) ?_
                    refine lv_istore (lv' := [(8, .int ((y_78 / (24 : Int32)) - (y_78 / (24 : Int32)) / (24 : Int32) * (24 : Int32))), (7, .int (0 : Int32)), (6, .int ((y_78 / (6 : Int32)) - (y_78 / (6 : Int32)) / (4 : Int32) * (4 : Int32))), (4, .int y_78), (5, .int (nI i_57)), (0, .ref aR0), (1, .int xs), (2, .int xm), (3, .int xw)]) hx hb dX6_reign_131 hl (by decide) rfl (fun ls hl => ?_)
                    refine lv_aload_n hx hb dX6_reign_133 rfl (lv_at hl 5 rfl) ?_
                    refine lv_iload hx hb dX6_reign_134 (lv_at hl 1 rfl) ?_
                    refine lv_iload hx hb dX6_reign_136 (lv_at hl 3 rfl) ?_
                    refine lv_bipush (v := (6 : Int32)) hx hb dX6_reign_138 (by decide) ?_
                    refine lv_irem hx hb dX6_reign_140 (by decide) ?_
                    refine lv_iconst (v := (0 : Int32)) hx hb dX6_reign_141 (by decide) ?_
                    refine lv_iload hx hb dX6_reign_142 (lv_at hl 0 rfl) ?_
                    have hr := mrV (p := p) (e := e) (R := rm_X6_reign) (below := below) (meth := meth) (H := H) (locs := locs) (ls := ls) (As := [.int (0 : Int32), .int (y_78 - y_78 / (6 : Int32) * (6 : Int32)), .int (0 : Int32), .int ((y_78 / (24 : Int32)) - (y_78 / (24 : Int32)) / (24 : Int32) * (24 : Int32))]) (rest := []) (c_X6_whyNot l δ cI cJ cZ aR0 aR1 aR2 aR3 aR4 aR5 aR6 aR7 aR8 aR9 aR10 aR11 aR12 aR13 aR14 aR15 aR16 aR17 aR18 aR19 aR20 aR21 lv_57 sg pd ac dd_57 u_44 le bd my lf pa kp (0 : Int32) (y_78 - y_78 / (6 : Int32) * (6 : Int32)) (0 : Int32) ((y_78 / (24 : Int32)) - (y_78 / (24 : Int32)) / (24 : Int32) * (24 : Int32)) (mod24_in (rn_rng hx_57 e_78).1)) hx hb hml hts hown hK hNW hP hD [0, 1, 2, 3, 4, 5, 6, 7, 8, 9, 10, 11, 12, 13, 14, 15, 16, 17, 18, 19, 20, 21] rfl rfl 6 0 rfl rfl (cwV 4 hts gX6_reign_X6_whyNot rfl rfl rfl (by decide +kernel) ⟨(Nat.le_of_ble_eq_true rfl), (Nat.le_of_ble_eq_true rfl)⟩) rfl hl.1 rfl (Nat.le_of_ble_eq_true rfl) dX6_reign_144
                    refine mc_i (wr := ([] : va_W)) hr hP hD hS hA [0, 1, 2, 3, 4, 5, 6, 7, 8, 9, 10, 11, 12, 13, 14, 15, 16, 17, 18, 19, 20, 21] [] [0, 1, 2, 3, 4, 5, 6, 7, 8, 9, 10, 11, 12, 13, 14, 15, 16, 17, 18, 19, 20, 21] rfl rfl rfl rfl rfl (wn := fun _ => (wR cI cJ cZ aR0 aR1 aR2 aR3 aR4 aR5 aR6 aR7 aR8 aR9 aR10 aR11 aR12 aR13 aR14 aR15 aR16 aR17 aR18 aR19 aR20 aR21 lv_57 sg pd ac dd_57 u_44 le bd my lf pa kp)) (fun _ => rfl) (fun r_144 _ H locs hw_144 hP hD hS => ?_)
                    have hP : va_P δ vwCl (wR cI cJ cZ aR0 aR1 aR2 aR3 aR4 aR5 aR6 aR7 aR8 aR9 aR10 aR11 aR12 aR13 aR14 aR15 aR16 aR17 aR18 aR19 aR20 aR21 lv_57 sg pd ac dd_57 u_44 le bd my lf pa kp) H := hP
                    have hD : va_D A (wR cI cJ cZ aR0 aR1 aR2 aR3 aR4 aR5 aR6 aR7 aR8 aR9 aR10 aR11 aR12 aR13 aR14 aR15 aR16 aR17 aR18 aR19 aR20 aR21 lv_57 sg pd ac dd_57 u_44 le bd my lf pa kp) := hD
                    have hR := bnd_eq hR hw_144.symm
                    refine lv_if_ne (tgt := 164) hx hb dX6_reign_147 (by decide) (fun c_147 => ?_) (fun c_147 => ?_)
                    · have c_147 : ¬ (r_144 = 0) := c_147
                      have hR := hR.trans (if_neg c_147)
                      refine lv_iinc (v := (nI (i_57 + 1))) (lv' := [(5, .int (nI (i_57 + 1))), (8, .int ((y_78 / (24 : Int32)) - (y_78 / (24 : Int32)) / (24 : Int32) * (24 : Int32))), (7, .int (0 : Int32)), (6, .int ((y_78 / (6 : Int32)) - (y_78 / (6 : Int32)) / (4 : Int32) * (4 : Int32))), (4, .int y_78), (0, .ref aR0), (1, .int xs), (2, .int xm), (3, .int xw)]) hx hb dX6_reign_164 hl (k := 4) rfl (nI_1 i_57) (by decide) rfl (fun ls hl => ?_)
                      refine lv_goto (tgt := 57) hx hb dX6_reign_167 (by decide) ?_
                      exact ih_57 (i_57 + 1) y_78 lv_57 dd_57 _ _ _ (by omega) (by omega) (rn_rng hx_57 e_78) (by first | exact happen_rok hw_161 hrk_57 (mod24_in (rn_rng hx_57 e_78).1) | exact hrk_57) (by first | exact happen_deeds hw_161 (by omega) hdb_57 | exact dd_le hdb_57) hP hD hS (lv_sub hl [0, 4, 5, 6, 7, 8] rfl) (fun w_57 H locs ls he hP hD hS hl => kk w_57 H locs ls (hR.trans he) hP hD hS hl)
                    · have c_147 : (r_144 = 0) := c_147
                      have hR := hR.trans (if_pos c_147)
                      refine lv_aload_n hx hb dX6_reign_150 rfl (lv_at hl 5 rfl) ?_
                      refine lv_iload hx hb dX6_reign_151 (lv_at hl 1 rfl) ?_
                      refine lv_iload hx hb dX6_reign_153 (lv_at hl 3 rfl) ?_
                      refine lv_bipush (v := (6 : Int32)) hx hb dX6_reign_155 (by decide) ?_
                      refine lv_irem hx hb dX6_reign_157 (by decide) ?_
                      refine lv_iconst (v := (0 : Int32)) hx hb dX6_reign_158 (by decide) ?_
                      refine lv_iload hx hb dX6_reign_159 (lv_at hl 0 rfl) ?_
                      have hr := mrV (p := p) (e := e) (R := rm_X6_reign) (below := below) (meth := meth) (H := H) (locs := locs) (ls := ls) (As := [.int (0 : Int32), .int (y_78 - y_78 / (6 : Int32) * (6 : Int32)), .int (0 : Int32), .int ((y_78 / (24 : Int32)) - (y_78 / (24 : Int32)) / (24 : Int32) * (24 : Int32))]) (rest := []) (c_X6_happen l δ cI cJ cZ aR0 aR1 aR2 aR3 aR4 aR5 aR6 aR7 aR8 aR9 aR10 aR11 aR12 aR13 aR14 aR15 aR16 aR17 aR18 aR19 aR20 aR21 lv_57 sg pd ac dd_57 u_44 le bd my lf pa kp (0 : Int32) (y_78 - y_78 / (6 : Int32) * (6 : Int32)) (0 : Int32) ((y_78 / (24 : Int32)) - (y_78 / (24 : Int32)) / (24 : Int32) * (24 : Int32)) (hw_144.trans c_147) (mod24_in (rn_rng hx_57 e_78).1) hrk_57 (⟨hdb_57.1, by omega⟩)) hx hb hml hts hown hK hNW hP hD [0, 1, 2, 3, 4, 5, 6, 7, 8, 9, 10, 11, 12, 13, 14, 15, 16, 17, 18, 19, 20, 21] rfl rfl 6 0 rfl rfl (cwV 4 hts gX6_reign_X6_happen rfl rfl rfl (by decide +kernel) ⟨(Nat.le_of_ble_eq_true rfl), (Nat.le_of_ble_eq_true rfl)⟩) rfl hl.1 rfl (Nat.le_of_ble_eq_true rfl) dX6_reign_161
                      refine mc_v (wr := ([] : va_W)) hr hP hD hS hA [0, 1, 2, 3, 4, 5, 6, 7, 8, 9, 10, 11, 12, 13, 14, 15, 16, 17, 18, 19, 20, 21] [] [0, 1, 2, 3, 4, 5, 6, 7, 8, 9, 10, 11, 12, 13, 14, 15, 16, 17, 18, 19, 20, 21] rfl rfl rfl rfl rfl (wn := fun u_161 => (wR cI cJ cZ aR0 aR1 aR2 aR3 aR4 aR5 aR6 aR7 aR8 aR9 aR10 aR11 aR12 aR13 aR14 aR15 aR16 aR17 aR18 aR19 aR20 aR21 u_161.1 sg pd ac u_161.2 u_44 le bd my lf pa kp)) (fun _ => rfl) (fun u_161 H locs hw_161 hP hD hS => ?_)
                      have hP : va_P δ vwCl (wR cI cJ cZ aR0 aR1 aR2 aR3 aR4 aR5 aR6 aR7 aR8 aR9 aR10 aR11 aR12 aR13 aR14 aR15 aR16 aR17 aR18 aR19 aR20 aR21 u_161.1 sg pd ac u_161.2 u_44 le bd my lf pa kp) H := hP
                      have hD : va_D A (wR cI cJ cZ aR0 aR1 aR2 aR3 aR4 aR5 aR6 aR7 aR8 aR9 aR10 aR11 aR12 aR13 aR14 aR15 aR16 aR17 aR18 aR19 aR20 aR21 u_161.1 sg pd ac u_161.2 u_44 le bd my lf pa kp) := hD
                      have hR := bnd_eq hR hw_161.symm
                      refine lv_iinc (v := (nI (i_57 + 1))) (lv' := [(5, .int (nI (i_57 + 1))), (8, .int ((y_78 / (24 : Int32)) - (y_78 / (24 : Int32)) / (24 : Int32) * (24 : Int32))), (7, .int (0 : Int32)), (6, .int ((y_78 / (6 : Int32)) - (y_78 / (6 : Int32)) / (4 : Int32) * (4 : Int32))), (4, .int y_78), (0, .ref aR0), (1, .int xs), (2, .int xm), (3, .int xw)]) hx hb dX6_reign_164 hl (k := 4) rfl (nI_1 i_57) (by decide) rfl (fun ls hl => ?_)
                      refine lv_goto (tgt := 57) hx hb dX6_reign_167 (by decide) ?_
                      exact ih_57 (i_57 + 1) y_78 u_161.1 u_161.2 _ _ _ (by omega) (by omega) (rn_rng hx_57 e_78) (by first | exact happen_rok hw_161 hrk_57 (mod24_in (rn_rng hx_57 e_78).1) | exact hrk_57) (by first | exact happen_deeds hw_161 (by omega) hdb_57 | exact dd_le hdb_57) hP hD hS (lv_sub hl [0, 4, 5, 6, 7, 8] rfl) (fun w_57 H locs ls he hP hD hS hl => kk w_57 H locs ls (hR.trans he) hP hD hS hl)
                · have c_103 : (((y_78 / (6 : Int32)) - (y_78 / (6 : Int32)) / (4 : Int32) * (4 : Int32)) = (1 : Int32)) := c_103
                  have hR := hR.trans (if_pos c_103)
                  refine lv_iconst (v := (1 : Int32)) hx hb dX6_reign_106 (by decide) ?_
                  refine lv_goto (tgt := 121) hx hb dX6_reign_107 (by decide) ?_
                  refine lv_istore (lv' := [(7, .int (1 : Int32)), (6, .int ((y_78 / (6 : Int32)) - (y_78 / (6 : Int32)) / (4 : Int32) * (4 : Int32))), (4, .int y_78), (5, .int (nI i_57)), (0, .ref aR0), (1, .int xs), (2, .int xm), (3, .int xw)]) hx hb dX6_reign_121 hl (by decide) rfl (fun ls hl => ?_)
                  refine lv_iload hx hb dX6_reign_123 (lv_at hl 2 rfl) ?_
                  refine lv_bipush (v := (24 : Int32)) hx hb dX6_reign_125 (by decide) ?_
                  refine lv_idiv hx hb dX6_reign_127 (by decide) ?_
                  refine lv_bipush (v := (24 : Int32)) hx hb dX6_reign_128 (by decide) ?_
                  refine lv_irem hx hb dX6_reign_130 (by decide) ?_
                  refine lv_istore (lv' := [(8, .int ((y_78 / (24 : Int32)) - (y_78 / (24 : Int32)) / (24 : Int32) * (24 : Int32))), (7, .int (1 : Int32)), (6, .int ((y_78 / (6 : Int32)) - (y_78 / (6 : Int32)) / (4 : Int32) * (4 : Int32))), (4, .int y_78), (5, .int (nI i_57)), (0, .ref aR0), (1, .int xs), (2, .int xm), (3, .int xw)]) hx hb dX6_reign_131 hl (by decide) rfl (fun ls hl => ?_)
                  refine lv_aload_n hx hb dX6_reign_133 rfl (lv_at hl 5 rfl) ?_
                  refine lv_iload hx hb dX6_reign_134 (lv_at hl 1 rfl) ?_
                  refine lv_iload hx hb dX6_reign_136 (lv_at hl 3 rfl) ?_
                  refine lv_bipush (v := (6 : Int32)) hx hb dX6_reign_138 (by decide) ?_
                  refine lv_irem hx hb dX6_reign_140 (by decide) ?_
                  refine lv_iconst (v := (0 : Int32)) hx hb dX6_reign_141 (by decide) ?_
                  refine lv_iload hx hb dX6_reign_142 (lv_at hl 0 rfl) ?_
                  have hr := mrV (p := p) (e := e) (R := rm_X6_reign) (below := below) (meth := meth) (H := H) (locs := locs) (ls := ls) (As := [.int (1 : Int32), .int (y_78 - y_78 / (6 : Int32) * (6 : Int32)), .int (0 : Int32), .int ((y_78 / (24 : Int32)) - (y_78 / (24 : Int32)) / (24 : Int32) * (24 : Int32))]) (rest := []) (c_X6_whyNot l δ cI cJ cZ aR0 aR1 aR2 aR3 aR4 aR5 aR6 aR7 aR8 aR9 aR10 aR11 aR12 aR13 aR14 aR15 aR16 aR17 aR18 aR19 aR20 aR21 lv_57 sg pd ac dd_57 u_44 le bd my lf pa kp (1 : Int32) (y_78 - y_78 / (6 : Int32) * (6 : Int32)) (0 : Int32) ((y_78 / (24 : Int32)) - (y_78 / (24 : Int32)) / (24 : Int32) * (24 : Int32)) (mod24_in (rn_rng hx_57 e_78).1)) hx hb hml hts hown hK hNW hP hD [0, 1, 2, 3, 4, 5, 6, 7, 8, 9, 10, 11, 12, 13, 14, 15, 16, 17, 18, 19, 20, 21] rfl rfl 6 0 rfl rfl (cwV 4 hts gX6_reign_X6_whyNot rfl rfl rfl (by decide +kernel) ⟨(Nat.le_of_ble_eq_true rfl), (Nat.le_of_ble_eq_true rfl)⟩) rfl hl.1 rfl (Nat.le_of_ble_eq_true rfl) dX6_reign_144
                  refine mc_i (wr := ([] : va_W)) hr hP hD hS hA [0, 1, 2, 3, 4, 5, 6, 7, 8, 9, 10, 11, 12, 13, 14, 15, 16, 17, 18, 19, 20, 21] [] [0, 1, 2, 3, 4, 5, 6, 7, 8, 9, 10, 11, 12, 13, 14, 15, 16, 17, 18, 19, 20, 21] rfl rfl rfl rfl rfl (wn := fun _ => (wR cI cJ cZ aR0 aR1 aR2 aR3 aR4 aR5 aR6 aR7 aR8 aR9 aR10 aR11 aR12 aR13 aR14 aR15 aR16 aR17 aR18 aR19 aR20 aR21 lv_57 sg pd ac dd_57 u_44 le bd my lf pa kp)) (fun _ => rfl) (fun r_144 _ H locs hw_144 hP hD hS => ?_)
                  have hP : va_P δ vwCl (wR cI cJ cZ aR0 aR1 aR2 aR3 aR4 aR5 aR6 aR7 aR8 aR9 aR10 aR11 aR12 aR13 aR14 aR15 aR16 aR17 aR18 aR19 aR20 aR21 lv_57 sg pd ac dd_57 u_44 le bd my lf pa kp) H := hP
                  have hD : va_D A (wR cI cJ cZ aR0 aR1 aR2 aR3 aR4 aR5 aR6 aR7 aR8 aR9 aR10 aR11 aR12 aR13 aR14 aR15 aR16 aR17 aR18 aR19 aR20 aR21 lv_57 sg pd ac dd_57 u_44 le bd my lf pa kp) := hD
                  have hR := bnd_eq hR hw_144.symm
                  refine lv_if_ne (tgt := 164) hx hb dX6_reign_147 (by decide) (fun c_147 => ?_) (fun c_147 => ?_)
                  · have c_147 : ¬ (r_144 = 0) := c_147
                    have hR := hR.trans (if_neg c_147)
                    refine lv_iinc (v := (nI (i_57 + 1))) (lv' := [(5, .int (nI (i_57 + 1))), (8, .int ((y_78 / (24 : Int32)) - (y_78 / (24 : Int32)) / (24 : Int32) * (24 : Int32))), (7, .int (1 : Int32)), (6, .int ((y_78 / (6 : Int32)) - (y_78 / (6 : Int32)) / (4 : Int32) * (4 : Int32))), (4, .int y_78), (0, .ref aR0), (1, .int xs), (2, .int xm), (3, .int xw)]) hx hb dX6_reign_164 hl (k := 4) rfl (nI_1 i_57) (by decide) rfl (fun ls hl => ?_)
                    refine lv_goto (tgt := 57) hx hb dX6_reign_167 (by decide) ?_
                    exact ih_57 (i_57 + 1) y_78 lv_57 dd_57 _ _ _ (by omega) (by omega) (rn_rng hx_57 e_78) (by first | exact happen_rok hw_161 hrk_57 (mod24_in (rn_rng hx_57 e_78).1) | exact hrk_57) (by first | exact happen_deeds hw_161 (by omega) hdb_57 | exact dd_le hdb_57) hP hD hS (lv_sub hl [0, 4, 5, 6, 7, 8] rfl) (fun w_57 H locs ls he hP hD hS hl => kk w_57 H locs ls (hR.trans he) hP hD hS hl)
                  · have c_147 : (r_144 = 0) := c_147
                    have hR := hR.trans (if_pos c_147)
                    refine lv_aload_n hx hb dX6_reign_150 rfl (lv_at hl 5 rfl) ?_
                    refine lv_iload hx hb dX6_reign_151 (lv_at hl 1 rfl) ?_
                    refine lv_iload hx hb dX6_reign_153 (lv_at hl 3 rfl) ?_
                    refine lv_bipush (v := (6 : Int32)) hx hb dX6_reign_155 (by decide) ?_
                    refine lv_irem hx hb dX6_reign_157 (by decide) ?_
                    refine lv_iconst (v := (0 : Int32)) hx hb dX6_reign_158 (by decide) ?_
                    refine lv_iload hx hb dX6_reign_159 (lv_at hl 0 rfl) ?_
                    have hr := mrV (p := p) (e := e) (R := rm_X6_reign) (below := below) (meth := meth) (H := H) (locs := locs) (ls := ls) (As := [.int (1 : Int32), .int (y_78 - y_78 / (6 : Int32) * (6 : Int32)), .int (0 : Int32), .int ((y_78 / (24 : Int32)) - (y_78 / (24 : Int32)) / (24 : Int32) * (24 : Int32))]) (rest := []) (c_X6_happen l δ cI cJ cZ aR0 aR1 aR2 aR3 aR4 aR5 aR6 aR7 aR8 aR9 aR10 aR11 aR12 aR13 aR14 aR15 aR16 aR17 aR18 aR19 aR20 aR21 lv_57 sg pd ac dd_57 u_44 le bd my lf pa kp (1 : Int32) (y_78 - y_78 / (6 : Int32) * (6 : Int32)) (0 : Int32) ((y_78 / (24 : Int32)) - (y_78 / (24 : Int32)) / (24 : Int32) * (24 : Int32)) (hw_144.trans c_147) (mod24_in (rn_rng hx_57 e_78).1) hrk_57 (⟨hdb_57.1, by omega⟩)) hx hb hml hts hown hK hNW hP hD [0, 1, 2, 3, 4, 5, 6, 7, 8, 9, 10, 11, 12, 13, 14, 15, 16, 17, 18, 19, 20, 21] rfl rfl 6 0 rfl rfl (cwV 4 hts gX6_reign_X6_happen rfl rfl rfl (by decide +kernel) ⟨(Nat.le_of_ble_eq_true rfl), (Nat.le_of_ble_eq_true rfl)⟩) rfl hl.1 rfl (Nat.le_of_ble_eq_true rfl) dX6_reign_161
                    refine mc_v (wr := ([] : va_W)) hr hP hD hS hA [0, 1, 2, 3, 4, 5, 6, 7, 8, 9, 10, 11, 12, 13, 14, 15, 16, 17, 18, 19, 20, 21] [] [0, 1, 2, 3, 4, 5, 6, 7, 8, 9, 10, 11, 12, 13, 14, 15, 16, 17, 18, 19, 20, 21] rfl rfl rfl rfl rfl (wn := fun u_161 => (wR cI cJ cZ aR0 aR1 aR2 aR3 aR4 aR5 aR6 aR7 aR8 aR9 aR10 aR11 aR12 aR13 aR14 aR15 aR16 aR17 aR18 aR19 aR20 aR21 u_161.1 sg pd ac u_161.2 u_44 le bd my lf pa kp)) (fun _ => rfl) (fun u_161 H locs hw_161 hP hD hS => ?_)
                    have hP : va_P δ vwCl (wR cI cJ cZ aR0 aR1 aR2 aR3 aR4 aR5 aR6 aR7 aR8 aR9 aR10 aR11 aR12 aR13 aR14 aR15 aR16 aR17 aR18 aR19 aR20 aR21 u_161.1 sg pd ac u_161.2 u_44 le bd my lf pa kp) H := hP
                    have hD : va_D A (wR cI cJ cZ aR0 aR1 aR2 aR3 aR4 aR5 aR6 aR7 aR8 aR9 aR10 aR11 aR12 aR13 aR14 aR15 aR16 aR17 aR18 aR19 aR20 aR21 u_161.1 sg pd ac u_161.2 u_44 le bd my lf pa kp) := hD
                    have hR := bnd_eq hR hw_161.symm
                    refine lv_iinc (v := (nI (i_57 + 1))) (lv' := [(5, .int (nI (i_57 + 1))), (8, .int ((y_78 / (24 : Int32)) - (y_78 / (24 : Int32)) / (24 : Int32) * (24 : Int32))), (7, .int (1 : Int32)), (6, .int ((y_78 / (6 : Int32)) - (y_78 / (6 : Int32)) / (4 : Int32) * (4 : Int32))), (4, .int y_78), (0, .ref aR0), (1, .int xs), (2, .int xm), (3, .int xw)]) hx hb dX6_reign_164 hl (k := 4) rfl (nI_1 i_57) (by decide) rfl (fun ls hl => ?_)
                    refine lv_goto (tgt := 57) hx hb dX6_reign_167 (by decide) ?_
                    exact ih_57 (i_57 + 1) y_78 u_161.1 u_161.2 _ _ _ (by omega) (by omega) (rn_rng hx_57 e_78) (by first | exact happen_rok hw_161 hrk_57 (mod24_in (rn_rng hx_57 e_78).1) | exact hrk_57) (by first | exact happen_deeds hw_161 (by omega) hdb_57 | exact dd_le hdb_57) hP hD hS (lv_sub hl [0, 4, 5, 6, 7, 8] rfl) (fun w_57 H locs ls he hP hD hS hl => kk w_57 H locs ls (hR.trans he) hP hD hS hl)
              · have c_92 : (((y_78 / (6 : Int32)) - (y_78 / (6 : Int32)) / (4 : Int32) * (4 : Int32)) = 0) := c_92
                have hR := hR.trans (if_pos c_92)
                refine lv_bipush (v := (6 : Int32)) hx hb dX6_reign_95 (by decide) ?_
                refine lv_goto (tgt := 121) hx hb dX6_reign_97 (by decide) ?_
                refine lv_istore (lv' := [(7, .int (6 : Int32)), (6, .int ((y_78 / (6 : Int32)) - (y_78 / (6 : Int32)) / (4 : Int32) * (4 : Int32))), (4, .int y_78), (5, .int (nI i_57)), (0, .ref aR0), (1, .int xs), (2, .int xm), (3, .int xw)]) hx hb dX6_reign_121 hl (by decide) rfl (fun ls hl => ?_)
                refine lv_iload hx hb dX6_reign_123 (lv_at hl 2 rfl) ?_
                refine lv_bipush (v := (24 : Int32)) hx hb dX6_reign_125 (by decide) ?_
                refine lv_idiv hx hb dX6_reign_127 (by decide) ?_
                refine lv_bipush (v := (24 : Int32)) hx hb dX6_reign_128 (by decide) ?_
                refine lv_irem hx hb dX6_reign_130 (by decide) ?_
                refine lv_istore (lv' := [(8, .int ((y_78 / (24 : Int32)) - (y_78 / (24 : Int32)) / (24 : Int32) * (24 : Int32))), (7, .int (6 : Int32)), (6, .int ((y_78 / (6 : Int32)) - (y_78 / (6 : Int32)) / (4 : Int32) * (4 : Int32))), (4, .int y_78), (5, .int (nI i_57)), (0, .ref aR0), (1, .int xs), (2, .int xm), (3, .int xw)]) hx hb dX6_reign_131 hl (by decide) rfl (fun ls hl => ?_)
                refine lv_aload_n hx hb dX6_reign_133 rfl (lv_at hl 5 rfl) ?_
                refine lv_iload hx hb dX6_reign_134 (lv_at hl 1 rfl) ?_
                refine lv_iload hx hb dX6_reign_136 (lv_at hl 3 rfl) ?_
                refine lv_bipush (v := (6 : Int32)) hx hb dX6_reign_138 (by decide) ?_
                refine lv_irem hx hb dX6_reign_140 (by decide) ?_
                refine lv_iconst (v := (0 : Int32)) hx hb dX6_reign_141 (by decide) ?_
                refine lv_iload hx hb dX6_reign_142 (lv_at hl 0 rfl) ?_
                have hr := mrV (p := p) (e := e) (R := rm_X6_reign) (below := below) (meth := meth) (H := H) (locs := locs) (ls := ls) (As := [.int (6 : Int32), .int (y_78 - y_78 / (6 : Int32) * (6 : Int32)), .int (0 : Int32), .int ((y_78 / (24 : Int32)) - (y_78 / (24 : Int32)) / (24 : Int32) * (24 : Int32))]) (rest := []) (c_X6_whyNot l δ cI cJ cZ aR0 aR1 aR2 aR3 aR4 aR5 aR6 aR7 aR8 aR9 aR10 aR11 aR12 aR13 aR14 aR15 aR16 aR17 aR18 aR19 aR20 aR21 lv_57 sg pd ac dd_57 u_44 le bd my lf pa kp (6 : Int32) (y_78 - y_78 / (6 : Int32) * (6 : Int32)) (0 : Int32) ((y_78 / (24 : Int32)) - (y_78 / (24 : Int32)) / (24 : Int32) * (24 : Int32)) (mod24_in (rn_rng hx_57 e_78).1)) hx hb hml hts hown hK hNW hP hD [0, 1, 2, 3, 4, 5, 6, 7, 8, 9, 10, 11, 12, 13, 14, 15, 16, 17, 18, 19, 20, 21] rfl rfl 6 0 rfl rfl (cwV 4 hts gX6_reign_X6_whyNot rfl rfl rfl (by decide +kernel) ⟨(Nat.le_of_ble_eq_true rfl), (Nat.le_of_ble_eq_true rfl)⟩) rfl hl.1 rfl (Nat.le_of_ble_eq_true rfl) dX6_reign_144
                refine mc_i (wr := ([] : va_W)) hr hP hD hS hA [0, 1, 2, 3, 4, 5, 6, 7, 8, 9, 10, 11, 12, 13, 14, 15, 16, 17, 18, 19, 20, 21] [] [0, 1, 2, 3, 4, 5, 6, 7, 8, 9, 10, 11, 12, 13, 14, 15, 16, 17, 18, 19, 20, 21] rfl rfl rfl rfl rfl (wn := fun _ => (wR cI cJ cZ aR0 aR1 aR2 aR3 aR4 aR5 aR6 aR7 aR8 aR9 aR10 aR11 aR12 aR13 aR14 aR15 aR16 aR17 aR18 aR19 aR20 aR21 lv_57 sg pd ac dd_57 u_44 le bd my lf pa kp)) (fun _ => rfl) (fun r_144 _ H locs hw_144 hP hD hS => ?_)
                have hP : va_P δ vwCl (wR cI cJ cZ aR0 aR1 aR2 aR3 aR4 aR5 aR6 aR7 aR8 aR9 aR10 aR11 aR12 aR13 aR14 aR15 aR16 aR17 aR18 aR19 aR20 aR21 lv_57 sg pd ac dd_57 u_44 le bd my lf pa kp) H := hP
                have hD : va_D A (wR cI cJ cZ aR0 aR1 aR2 aR3 aR4 aR5 aR6 aR7 aR8 aR9 aR10 aR11 aR12 aR13 aR14 aR15 aR16 aR17 aR18 aR19 aR20 aR21 lv_57 sg pd ac dd_57 u_44 le bd my lf pa kp) := hD
                have hR := bnd_eq hR hw_144.symm
                refine lv_if_ne (tgt := 164) hx hb dX6_reign_147 (by decide) (fun c_147 => ?_) (fun c_147 => ?_)
                · have c_147 : ¬ (r_144 = 0) := c_147
                  have hR := hR.trans (if_neg c_147)
                  refine lv_iinc (v := (nI (i_57 + 1))) (lv' := [(5, .int (nI (i_57 + 1))), (8, .int ((y_78 / (24 : Int32)) - (y_78 / (24 : Int32)) / (24 : Int32) * (24 : Int32))), (7, .int (6 : Int32)), (6, .int ((y_78 / (6 : Int32)) - (y_78 / (6 : Int32)) / (4 : Int32) * (4 : Int32))), (4, .int y_78), (0, .ref aR0), (1, .int xs), (2, .int xm), (3, .int xw)]) hx hb dX6_reign_164 hl (k := 4) rfl (nI_1 i_57) (by decide) rfl (fun ls hl => ?_)
                  refine lv_goto (tgt := 57) hx hb dX6_reign_167 (by decide) ?_
                  exact ih_57 (i_57 + 1) y_78 lv_57 dd_57 _ _ _ (by omega) (by omega) (rn_rng hx_57 e_78) (by first | exact happen_rok hw_161 hrk_57 (mod24_in (rn_rng hx_57 e_78).1) | exact hrk_57) (by first | exact happen_deeds hw_161 (by omega) hdb_57 | exact dd_le hdb_57) hP hD hS (lv_sub hl [0, 4, 5, 6, 7, 8] rfl) (fun w_57 H locs ls he hP hD hS hl => kk w_57 H locs ls (hR.trans he) hP hD hS hl)
                · have c_147 : (r_144 = 0) := c_147
                  have hR := hR.trans (if_pos c_147)
                  refine lv_aload_n hx hb dX6_reign_150 rfl (lv_at hl 5 rfl) ?_
                  refine lv_iload hx hb dX6_reign_151 (lv_at hl 1 rfl) ?_
                  refine lv_iload hx hb dX6_reign_153 (lv_at hl 3 rfl) ?_
                  refine lv_bipush (v := (6 : Int32)) hx hb dX6_reign_155 (by decide) ?_
                  refine lv_irem hx hb dX6_reign_157 (by decide) ?_
                  refine lv_iconst (v := (0 : Int32)) hx hb dX6_reign_158 (by decide) ?_
                  refine lv_iload hx hb dX6_reign_159 (lv_at hl 0 rfl) ?_
                  have hr := mrV (p := p) (e := e) (R := rm_X6_reign) (below := below) (meth := meth) (H := H) (locs := locs) (ls := ls) (As := [.int (6 : Int32), .int (y_78 - y_78 / (6 : Int32) * (6 : Int32)), .int (0 : Int32), .int ((y_78 / (24 : Int32)) - (y_78 / (24 : Int32)) / (24 : Int32) * (24 : Int32))]) (rest := []) (c_X6_happen l δ cI cJ cZ aR0 aR1 aR2 aR3 aR4 aR5 aR6 aR7 aR8 aR9 aR10 aR11 aR12 aR13 aR14 aR15 aR16 aR17 aR18 aR19 aR20 aR21 lv_57 sg pd ac dd_57 u_44 le bd my lf pa kp (6 : Int32) (y_78 - y_78 / (6 : Int32) * (6 : Int32)) (0 : Int32) ((y_78 / (24 : Int32)) - (y_78 / (24 : Int32)) / (24 : Int32) * (24 : Int32)) (hw_144.trans c_147) (mod24_in (rn_rng hx_57 e_78).1) hrk_57 (⟨hdb_57.1, by omega⟩)) hx hb hml hts hown hK hNW hP hD [0, 1, 2, 3, 4, 5, 6, 7, 8, 9, 10, 11, 12, 13, 14, 15, 16, 17, 18, 19, 20, 21] rfl rfl 6 0 rfl rfl (cwV 4 hts gX6_reign_X6_happen rfl rfl rfl (by decide +kernel) ⟨(Nat.le_of_ble_eq_true rfl), (Nat.le_of_ble_eq_true rfl)⟩) rfl hl.1 rfl (Nat.le_of_ble_eq_true rfl) dX6_reign_161
                  refine mc_v (wr := ([] : va_W)) hr hP hD hS hA [0, 1, 2, 3, 4, 5, 6, 7, 8, 9, 10, 11, 12, 13, 14, 15, 16, 17, 18, 19, 20, 21] [] [0, 1, 2, 3, 4, 5, 6, 7, 8, 9, 10, 11, 12, 13, 14, 15, 16, 17, 18, 19, 20, 21] rfl rfl rfl rfl rfl (wn := fun u_161 => (wR cI cJ cZ aR0 aR1 aR2 aR3 aR4 aR5 aR6 aR7 aR8 aR9 aR10 aR11 aR12 aR13 aR14 aR15 aR16 aR17 aR18 aR19 aR20 aR21 u_161.1 sg pd ac u_161.2 u_44 le bd my lf pa kp)) (fun _ => rfl) (fun u_161 H locs hw_161 hP hD hS => ?_)
                  have hP : va_P δ vwCl (wR cI cJ cZ aR0 aR1 aR2 aR3 aR4 aR5 aR6 aR7 aR8 aR9 aR10 aR11 aR12 aR13 aR14 aR15 aR16 aR17 aR18 aR19 aR20 aR21 u_161.1 sg pd ac u_161.2 u_44 le bd my lf pa kp) H := hP
                  have hD : va_D A (wR cI cJ cZ aR0 aR1 aR2 aR3 aR4 aR5 aR6 aR7 aR8 aR9 aR10 aR11 aR12 aR13 aR14 aR15 aR16 aR17 aR18 aR19 aR20 aR21 u_161.1 sg pd ac u_161.2 u_44 le bd my lf pa kp) := hD
                  have hR := bnd_eq hR hw_161.symm
                  refine lv_iinc (v := (nI (i_57 + 1))) (lv' := [(5, .int (nI (i_57 + 1))), (8, .int ((y_78 / (24 : Int32)) - (y_78 / (24 : Int32)) / (24 : Int32) * (24 : Int32))), (7, .int (6 : Int32)), (6, .int ((y_78 / (6 : Int32)) - (y_78 / (6 : Int32)) / (4 : Int32) * (4 : Int32))), (4, .int y_78), (0, .ref aR0), (1, .int xs), (2, .int xm), (3, .int xw)]) hx hb dX6_reign_164 hl (k := 4) rfl (nI_1 i_57) (by decide) rfl (fun ls hl => ?_)
                  refine lv_goto (tgt := 57) hx hb dX6_reign_167 (by decide) ?_
                  exact ih_57 (i_57 + 1) y_78 u_161.1 u_161.2 _ _ _ (by omega) (by omega) (rn_rng hx_57 e_78) (by first | exact happen_rok hw_161 hrk_57 (mod24_in (rn_rng hx_57 e_78).1) | exact hrk_57) (by first | exact happen_deeds hw_161 (by omega) hdb_57 | exact dd_le hdb_57) hP hD hS (lv_sub hl [0, 4, 5, 6, 7, 8] rfl) (fun w_57 H locs ls he hP hD hS hl => kk w_57 H locs ls (hR.trans he) hP hD hS hl)
        refine hloop_57 (xm.toNatClampNeg + 1) 0 xs lv u_48 _ _ _ (by omega) (by omega) (seed_in hw_6 c_9) hrk (bc_deeds hw_48) hP hD hS (lv_sub hl [0, 1, 2, 3, 4, 5] rfl) (fun w_57 H locs ls hw_57 hP hD hS hl => ?_)
        have hP : va_P δ vwCl (wR cI cJ cZ aR0 aR1 aR2 aR3 aR4 aR5 aR6 aR7 aR8 aR9 aR10 aR11 aR12 aR13 aR14 aR15 aR16 aR17 aR18 aR19 aR20 aR21 w_57.2.1 sg pd ac w_57.2.2 u_44 le bd my lf pa kp) H := hP
        have hD : va_D A (wR cI cJ cZ aR0 aR1 aR2 aR3 aR4 aR5 aR6 aR7 aR8 aR9 aR10 aR11 aR12 aR13 aR14 aR15 aR16 aR17 aR18 aR19 aR20 aR21 w_57.2.1 sg pd ac w_57.2.2 u_44 le bd my lf pa kp) := hD
        have hR := bnd_eq hR hw_57.symm
        refine lv_iconst (v := (0 : Int32)) hx hb dX6_reign_170 (by decide) ?_
        refine lv_istore (lv' := [(5, .int (0 : Int32)), (4, .int w_57.1), (0, .ref aR0), (1, .int xs), (2, .int xm), (3, .int xw)]) hx hb dX6_reign_171 hl (by decide) rfl (fun ls hl => ?_)
        refine lv_iconst (v := (0 : Int32)) hx hb dX6_reign_173 (by decide) ?_
        refine lv_istore (lv' := [(6, .int (0 : Int32)), (5, .int (0 : Int32)), (4, .int w_57.1), (0, .ref aR0), (1, .int xs), (2, .int xm), (3, .int xw)]) hx hb dX6_reign_174 hl (by decide) rfl (fun ls hl => ?_)
        have hloop_176 : ∀ (n_176 : Nat) (i_176 : Nat) (v5_176 : Int32) (H : Heap) (locs : List Loc) (ls : Array Slot), (hi_176 : i_176 ≤ 6) → (hn_176 : 6 < i_176 + n_176) → (hP : va_P δ vwCl (wR cI cJ cZ aR0 aR1 aR2 aR3 aR4 aR5 aR6 aR7 aR8 aR9 aR10 aR11 aR12 aR13 aR14 aR15 aR16 aR17 aR18 aR19 aR20 aR21 w_57.2.1 sg pd ac w_57.2.2 u_44 le bd my lf pa kp) H) → (hD : va_D A (wR cI cJ cZ aR0 aR1 aR2 aR3 aR4 aR5 aR6 aR7 aR8 aR9 aR10 aR11 aR12 aR13 aR14 aR15 aR16 aR17 aR18 aR19 aR20 aR21 w_57.2.1 sg pd ac w_57.2.2 u_44 le bd my lf pa kp)) → (hS : va_S A s.heap H locs) → (hl : lv_has ls 9 [(6, .int (nI i_176)), (5, .int v5_176), (4, .int w_57.1), (0, .ref aR0), (1, .int xs), (2, .int xm), (3, .int xw)]) → (kk : ∀ (w_176 : Int32) (H : Heap) (locs : List Loc) (ls : Array Slot), L_X6_reign_176 w_57 n_176 i_176 v5_176 = w_176 → va_P δ vwCl (wR cI cJ cZ aR0 aR1 aR2 aR3 aR4 aR5 aR6 aR7 aR8 aR9 aR10 aR11 aR12 aR13 aR14 aR15 aR16 aR17 aR18 aR19 aR20 aR21 w_57.2.1 sg pd ac w_57.2.2 u_44 le bd my lf pa kp) H → va_D A (wR cI cJ cZ aR0 aR1 aR2 aR3 aR4 aR5 aR6 aR7 aR8 aR9 aR10 aR11 aR12 aR13 aR14 aR15 aR16 aR17 aR18 aR19 aR20 aR21 w_57.2.1 sg pd ac w_57.2.2 u_44 le bd my lf pa kp) → va_S A s.heap H locs → lv_has ls 9 [(5, .int w_176), (4, .int w_57.1), (0, .ref aR0), (1, .int xs), (2, .int xm), (3, .int xw)] → W p l e rm_X6_reign s m args below meth c H locs 0 0 Q (F0 m 214 ls [])) → W p l e rm_X6_reign s m args below meth c H locs 0 0 Q (F0 m 176 ls []) := by
          intro n_176
          induction n_176 with
          | zero => intro i_176 v5_176 H locs ls hi_176 hn_176 hP hD hS hl kk; exact absurd hn_176 (by omega)
          | succ n_176 ih_176 =>
            intro i_176 v5_176 H locs ls hi_176 hn_176 hP hD hS hl kk
            have hR := L_X6_reign_176_s w_57 n_176 i_176 v5_176
            refine lv_iload hx hb dX6_reign_176 (lv_at hl 0 rfl) ?_
            refine lv_bipush (v := (6 : Int32)) hx hb dX6_reign_178 (by decide) ?_
            refine lv_icmp_ge (tgt := 214) hx hb dX6_reign_180 (by decide) (fun c_180 => ?_) (fun c_180 => ?_)
            · have c_180 : ((6 : Int32) ≤ (nI i_176)) := c_180
              have hR := hR.trans (if_pos c_180)
              exact kk v5_176 H locs ls hR hP hD hS (lv_sub hl [1, 2, 3, 4, 5, 6] rfl)
            · have c_180 : ¬ ((6 : Int32) ≤ (nI i_176)) := c_180
              have hR := hR.trans (if_neg c_180)
              have hlt_176 : i_176 < 6 := lt_g c_180 hi_176 (by decide)
              refine lv_iload hx hb dX6_reign_183 (lv_at hl 1 rfl) ?_
              refine lv_aload_n hx hb dX6_reign_185 rfl (lv_at hl 3 rfl) ?_
              refine lv_iload hx hb dX6_reign_186 (lv_at hl 0 rfl) ?_
              have hr := mrV (p := p) (e := e) (R := rm_X6_reign) (below := below) (meth := meth) (H := H) (locs := locs) (ls := ls) (As := [.int (nI i_176)]) (rest := [.int v5_176]) (c_X6_isCourtier l δ cI cJ cZ aR0 aR1 aR2 aR3 aR4 aR5 aR6 aR7 aR8 aR9 aR10 aR11 aR12 aR13 aR14 aR15 aR16 aR17 aR18 aR19 aR20 aR21 w_57.2.1 sg pd ac w_57.2.2 u_44 le bd my lf pa kp (nI i_176)) hx hb hml hts hown hK hNW hP hD [0, 1, 2, 3, 4, 5, 6, 7, 8, 9, 10, 11, 12, 13, 14, 15, 16, 17, 18, 19, 20, 21] rfl rfl 6 0 rfl rfl (cwV 1 hts gX6_reign_X6_isCourtier rfl rfl rfl (by decide +kernel) ⟨(Nat.le_of_ble_eq_true rfl), (Nat.le_of_ble_eq_true rfl)⟩) rfl hl.1 rfl (Nat.le_of_ble_eq_true rfl) dX6_reign_188
              refine mc_i (wr := ([] : va_W)) hr hP hD hS hA [0, 1, 2, 3, 4, 5, 6, 7, 8, 9, 10, 11, 12, 13, 14, 15, 16, 17, 18, 19, 20, 21] [] [0, 1, 2, 3, 4, 5, 6, 7, 8, 9, 10, 11, 12, 13, 14, 15, 16, 17, 18, 19, 20, 21] rfl rfl rfl rfl rfl (wn := fun _ => (wR cI cJ cZ aR0 aR1 aR2 aR3 aR4 aR5 aR6 aR7 aR8 aR9 aR10 aR11 aR12 aR13 aR14 aR15 aR16 aR17 aR18 aR19 aR20 aR21 w_57.2.1 sg pd ac w_57.2.2 u_44 le bd my lf pa kp)) (fun _ => rfl) (fun r_188 _ H locs hw_188 hP hD hS => ?_)
              obtain ⟨hw_188, z_188⟩ := hw_188
              have hP : va_P δ vwCl (wR cI cJ cZ aR0 aR1 aR2 aR3 aR4 aR5 aR6 aR7 aR8 aR9 aR10 aR11 aR12 aR13 aR14 aR15 aR16 aR17 aR18 aR19 aR20 aR21 w_57.2.1 sg pd ac w_57.2.2 u_44 le bd my lf pa kp) H := hP
              have hD : va_D A (wR cI cJ cZ aR0 aR1 aR2 aR3 aR4 aR5 aR6 aR7 aR8 aR9 aR10 aR11 aR12 aR13 aR14 aR15 aR16 aR17 aR18 aR19 aR20 aR21 w_57.2.1 sg pd ac w_57.2.2 u_44 le bd my lf pa kp) := hD
              have hR := bnd_eq hR hw_188.symm
              refine lv_if_eq (tgt := 204) hx hb dX6_reign_191 (by decide) (fun c_191 => ?_) (fun c_191 => ?_)
              · have c_191 : (r_188 = 0) := c_191
                have hR := hR.trans (if_pos c_191)
                refine lv_iconst (v := (0 : Int32)) hx hb dX6_reign_204 (by decide) ?_
                refine lv_iadd hx hb dX6_reign_205 ?_
                refine lv_istore (lv' := [(5, .int (v5_176 + (0 : Int32))), (6, .int (nI i_176)), (4, .int w_57.1), (0, .ref aR0), (1, .int xs), (2, .int xm), (3, .int xw)]) hx hb dX6_reign_206 hl (by decide) rfl (fun ls hl => ?_)
                refine lv_iinc (v := (nI (i_176 + 1))) (lv' := [(6, .int (nI (i_176 + 1))), (5, .int (v5_176 + (0 : Int32))), (4, .int w_57.1), (0, .ref aR0), (1, .int xs), (2, .int xm), (3, .int xw)]) hx hb dX6_reign_208 hl (k := 1) rfl (nI_1 i_176) (by decide) rfl (fun ls hl => ?_)
                refine lv_goto (tgt := 176) hx hb dX6_reign_211 (by decide) ?_
                exact ih_176 (i_176 + 1) (v5_176 + (0 : Int32)) _ _ _ (by omega) (by omega) hP hD hS (lv_sub hl [0, 1, 2, 3, 4, 5, 6] rfl) (fun w_176 H locs ls he hP hD hS hl => kk w_176 H locs ls (hR.trans he) hP hD hS hl)
              · have c_191 : ¬ (r_188 = 0) := c_191
                have hR := hR.trans (if_neg c_191)
                refine lv_aload_n hx hb dX6_reign_194 rfl (lv_at hl 3 rfl) ?_
                refine va_get (D := δ) (ci := 6) (v := .ref aR3) (C := RX6) (T := TX6) (N := 34) hx hb hts hinX6 hown hK hP 0 rfl rfl 5 (by decide) (hts (.fieldLink RX6 16 "GloveHoursModel" "scandals" "[I") (List.mem_of_getElem? (i := 8) rfl)) (fun _ h9 => h9) rfl dX6_reign_195 ?_
                refine lv_iload hx hb dX6_reign_198 (lv_at hl 0 rfl) ?_
                refine va_iald hx hb hK hP 3 0 rfl rfl (vp_in_nI (by omega) (by decide)) dX6_reign_200 ?_
                refine lv_goto (tgt := 205) hx hb dX6_reign_201 (by decide) ?_
                refine lv_iadd hx hb dX6_reign_205 ?_
                refine lv_istore (lv' := [(5, .int (v5_176 + ((vScandals w_57.2.1) (nI i_176).toNatClampNeg))), (6, .int (nI i_176)), (4, .int w_57.1), (0, .ref aR0), (1, .int xs), (2, .int xm), (3, .int xw)]) hx hb dX6_reign_206 hl (by decide) rfl (fun ls hl => ?_)
                refine lv_iinc (v := (nI (i_176 + 1))) (lv' := [(6, .int (nI (i_176 + 1))), (5, .int (v5_176 + ((vScandals w_57.2.1) (nI i_176).toNatClampNeg))), (4, .int w_57.1), (0, .ref aR0), (1, .int xs), (2, .int xm), (3, .int xw)]) hx hb dX6_reign_208 hl (k := 1) rfl (nI_1 i_176) (by decide) rfl (fun ls hl => ?_)
                refine lv_goto (tgt := 176) hx hb dX6_reign_211 (by decide) ?_
                exact ih_176 (i_176 + 1) (v5_176 + ((vScandals w_57.2.1) (nI i_176).toNatClampNeg)) _ _ _ (by omega) (by omega) hP hD hS (lv_sub hl [0, 1, 2, 3, 4, 5, 6] rfl) (fun w_176 H locs ls he hP hD hS hl => kk w_176 H locs ls (hR.trans he) hP hD hS hl)
        refine hloop_176 (6 + 1) 0 (0 : Int32) _ _ _ (by omega) (by omega) hP hD hS (lv_sub hl [0, 1, 2, 3, 4, 5, 6] rfl) (fun w_176 H locs ls hw_176 hP hD hS hl => ?_)
        have hP : va_P δ vwCl (wR cI cJ cZ aR0 aR1 aR2 aR3 aR4 aR5 aR6 aR7 aR8 aR9 aR10 aR11 aR12 aR13 aR14 aR15 aR16 aR17 aR18 aR19 aR20 aR21 w_57.2.1 sg pd ac w_57.2.2 u_44 le bd my lf pa kp) H := hP
        have hD : va_D A (wR cI cJ cZ aR0 aR1 aR2 aR3 aR4 aR5 aR6 aR7 aR8 aR9 aR10 aR11 aR12 aR13 aR14 aR15 aR16 aR17 aR18 aR19 aR20 aR21 w_57.2.1 sg pd ac w_57.2.2 u_44 le bd my lf pa kp) := hD
        have hR := bnd_eq hR hw_176.symm
        refine lv_aload_n hx hb dX6_reign_214 rfl (lv_at hl 2 rfl) ?_
        refine lv_aload_n hx hb dX6_reign_215 rfl (lv_at hl 2 rfl) ?_
        refine va_get (D := δ) (ci := 6) (v := .ref aR15) (C := RX6) (T := TX6) (N := 34) hx hb hts hinX6 hown hK hP 0 rfl rfl 23 (by decide) (hts (.fieldLink RX6 52 "GloveHoursModel" "had" "[I") (List.mem_of_getElem? (i := 4) rfl)) (fun _ h9 => h9) rfl dX6_reign_216 ?_
        have hr := mrV (p := p) (e := e) (R := rm_X6_reign) (below := below) (meth := meth) (H := H) (locs := locs) (ls := ls) (As := [.ref aR15]) (rest := []) (c_X6_lay_had l δ cI cJ cZ aR0 aR1 aR2 aR3 aR4 aR5 aR6 aR7 aR8 aR9 aR10 aR11 aR12 aR13 aR14 aR15 aR16 aR17 aR18 aR19 aR20 aR21 w_57.2.1 sg pd ac w_57.2.2 u_44 le bd my lf pa kp) hx hb hml hts hown hK hNW hP hD [0, 1, 2, 3, 4, 5, 6, 7, 8, 9, 10, 11, 12, 13, 14, 15, 16, 17, 18, 19, 20, 21] rfl rfl 6 0 rfl rfl (cwV 1 hts gX6_reign_X6_lay rfl rfl rfl (by decide +kernel) ⟨(Nat.le_of_ble_eq_true rfl), (Nat.le_of_ble_eq_true rfl)⟩) rfl hl.1 rfl (Nat.le_of_ble_eq_true rfl) dX6_reign_219
        refine mc_v (wr := ([] : va_W)) hr hP hD hS hA [0, 1, 2, 3, 4, 5, 6, 7, 8, 9, 10, 11, 12, 13, 14, 15, 16, 17, 18, 19, 20, 21] [] [0, 1, 2, 3, 4, 5, 6, 7, 8, 9, 10, 11, 12, 13, 14, 15, 16, 17, 18, 19, 20, 21] rfl rfl rfl rfl rfl (wn := fun u_219 => (wR cI cJ cZ aR0 aR1 aR2 aR3 aR4 aR5 aR6 aR7 aR8 aR9 aR10 aR11 aR12 aR13 aR14 aR15 aR16 aR17 aR18 aR19 aR20 aR21 u_219 sg pd ac w_57.2.2 u_44 le bd my lf pa kp)) (fun _ => rfl) (fun u_219 H locs hw_219 hP hD hS => ?_)
        have hP : va_P δ vwCl (wR cI cJ cZ aR0 aR1 aR2 aR3 aR4 aR5 aR6 aR7 aR8 aR9 aR10 aR11 aR12 aR13 aR14 aR15 aR16 aR17 aR18 aR19 aR20 aR21 u_219 sg pd ac w_57.2.2 u_44 le bd my lf pa kp) H := hP
        have hD : va_D A (wR cI cJ cZ aR0 aR1 aR2 aR3 aR4 aR5 aR6 aR7 aR8 aR9 aR10 aR11 aR12 aR13 aR14 aR15 aR16 aR17 aR18 aR19 aR20 aR21 u_219 sg pd ac w_57.2.2 u_44 le bd my lf pa kp) := hD
        have hR := bnd_eq hR hw_219.symm
        refine lv_iload_n hx hb dX6_reign_222 rfl (lv_at hl 5 rfl) ?_
        refine lv_if_ne (tgt := 233) hx hb dX6_reign_223 (by decide) (fun c_223 => ?_) (fun c_223 => ?_)
        · have c_223 : ¬ (xw = 0) := c_223
          have hR := hR.trans (if_neg c_223)
          refine lv_iload_n hx hb dX6_reign_233 rfl (lv_at hl 5 rfl) ?_
          refine lv_iconst (v := (1 : Int32)) hx hb dX6_reign_234 (by decide) ?_
          refine lv_icmp_ne (tgt := 245) hx hb dX6_reign_235 (by decide) (fun c_235 => ?_) (fun c_235 => ?_)
          · have c_235 : ¬ (xw = (1 : Int32)) := c_235
            have hR := hR.trans (if_neg c_235)
            refine lv_iload hx hb dX6_reign_245 (lv_at hl 0 rfl) ?_
            exact hret _ _ w_176 (u_219, w_57.2.2, u_44) _ _ hR hP hD hS dX6_reign_247
          · have c_235 : (xw = (1 : Int32)) := c_235
            have hR := hR.trans (if_pos c_235)
            refine lv_aload_n hx hb dX6_reign_238 rfl (lv_at hl 2 rfl) ?_
            refine va_get (D := δ) (ci := 6) (v := .int (eLateMany w_57.2.2)) (C := RX6) (T := TX6) (N := 34) hx hb hts hinX6 hown hK hP 0 rfl rfl 22 (by decide) (hts (.fieldLink RX6 160 "GloveHoursModel" "lateMany" "I") (List.mem_of_getElem? (i := 10) rfl)) (fun _ h9 => h9) rfl dX6_reign_239 ?_
            refine lv_goto (tgt := 247) hx hb dX6_reign_242 (by decide) ?_
            exact hret _ _ (eLateMany w_57.2.2) (u_219, w_57.2.2, u_44) _ _ hR hP hD hS dX6_reign_247
        · have c_223 : (xw = 0) := c_223
          have hR := hR.trans (if_pos c_223)
          refine lv_aload_n hx hb dX6_reign_226 rfl (lv_at hl 2 rfl) ?_
          refine va_get (D := δ) (ci := 6) (v := .int (eDeeds w_57.2.2)) (C := RX6) (T := TX6) (N := 34) hx hb hts hinX6 hown hK hP 0 rfl rfl 20 (by decide) (hts (.fieldLink RX6 154 "GloveHoursModel" "deeds" "I") (List.mem_of_getElem? (i := 9) rfl)) (fun _ h9 => h9) rfl dX6_reign_227 ?_
          refine lv_goto (tgt := 247) hx hb dX6_reign_230 (by decide) ?_
          exact hret _ _ (eDeeds w_57.2.2) (u_219, w_57.2.2, u_44) _ _ hR hP hD hS dX6_reign_247
      · have c_33 : (r_30 = 0) := c_33
        have hR := hR.trans (if_pos c_33)
        refine lv_bipush (v := (-2 : Int32)) hx hb dX6_reign_36 (by decide) ?_
        exact hret _ _ (-2 : Int32) (lv, dd, hd) _ _ hR hP hD hS dX6_reign_38

abbrev rm_X6_pass : Room := { frames := 0, cells := 0, slots := 0, locals := 0 }
set_option maxHeartbeats 4000000 in
set_option maxRecDepth 100000 in
theorem c_X6_pass (l : Launch) (δ : va_G) (cI cJ cZ : ClassId) (aR0 aR1 aR2 aR3 aR4 aR5 aR6 aR7 aR8 aR9 aR10 aR11 aR12 aR13 aR14 aR15 aR16 aR17 aR18 aR19 aR20 aR21 : Nat) (lv : LV) (sg : SG) (pd : PD) (ac : AC) (dd : DD) (hd : HD) (le : LE) (bd : BD) (my : MY) (lf : LF) (pa : PA) (kp : KP) (xv : Int32) (hk : vp_in (iKeptAt kp) 380) : mMi l δ (mTy cI cJ cZ) yX6_pass wsX6_pass rm_X6_pass [.ref aR0, .int xv] (wR cI cJ cZ aR0 aR1 aR2 aR3 aR4 aR5 aR6 aR7 aR8 aR9 aR10 aR11 aR12 aR13 aR14 aR15 aR16 aR17 aR18 aR19 aR20 aR21 lv sg pd ac dd hd le bd my lf pa kp) (S := KP) (fun r u => F_X6_pass kp xv = (r, u)) (fun u => (wR cI cJ cZ aR0 aR1 aR2 aR3 aR4 aR5 aR6 aR7 aR8 aR9 aR10 aR11 aR12 aR13 aR14 aR15 aR16 aR17 aR18 aR19 aR20 aR21 lv sg pd ac dd hd le bd my lf pa u)) := by
  refine mk_i (cc := cX6_pass) (maxL := 3) (by decide) rfl (Nat.le_of_ble_eq_true rfl) ?_
  intro p e s m args below meth c A Q ls H locs hx hb hml hts hown hK hNW hA hP hD hS hl hret
  have hown : s.vm.findClass RX6 = some m.cls := hown
  have hl : lv_has ls 3 [(0, .ref aR0), (1, .int xv)] := hl
  have hinX6 : ∀ w ∈ u_ws RX6 TX6 34, w ∈ wsX6_pass := (fun _ h => List.mem_cons_of_mem _ (List.mem_append_right _ (h)))
  have hR := F_X6_pass.eq_1 kp xv
  refine lv_aload_n hx hb dX6_pass_0 rfl (lv_at hl 0 rfl) ?_
  refine va_get (D := δ) (ci := 6) (v := .int (iIsWriting kp)) (C := RX6) (T := TX6) (N := 34) hx hb hts hinX6 hown hK hP 0 rfl rfl 33 (by decide) (hts (.fieldLink RX6 280 "GloveHoursModel" "isWriting" "Z") (List.mem_of_getElem? (i := 1) rfl)) (fun _ h9 => h9) rfl dX6_pass_1 ?_
  refine lv_if_eq (tgt := 11) hx hb dX6_pass_4 (by decide) (fun c_4 => ?_) (fun c_4 => ?_)
  · have c_4 : ((iIsWriting kp) = 0) := c_4
    have hR := hR.trans (if_pos c_4)
    refine lv_aload_n hx hb dX6_pass_11 rfl (lv_at hl 0 rfl) ?_
    refine va_get (D := δ) (ci := 6) (v := .ref aR20) (C := RX6) (T := TX6) (N := 34) hx hb hts hinX6 hown hK hP 0 rfl rfl 30 (by decide) (hts (.fieldLink RX6 68 "GloveHoursModel" "kept" "[I") (List.mem_of_getElem? (i := 2) rfl)) (fun _ h9 => h9) rfl dX6_pass_12 ?_
    refine lv_aload_n hx hb dX6_pass_15 rfl (lv_at hl 0 rfl) ?_
    refine va_get (D := δ) (ci := 6) (v := .int (iKeptAt kp)) (C := RX6) (T := TX6) (N := 34) hx hb hts hinX6 hown hK hP 0 rfl rfl 32 (by decide) (hts (.fieldLink RX6 284 "GloveHoursModel" "keptAt" "I") (List.mem_of_getElem? (i := 3) rfl)) (fun _ h9 => h9) rfl dX6_pass_16 ?_
    refine va_iald hx hb hK hP 20 0 rfl rfl hk dX6_pass_19 ?_
    refine lv_istore_n (lv' := [(2, .int ((iKept kp) (iKeptAt kp).toNatClampNeg)), (0, .ref aR0), (1, .int xv)]) hx hb dX6_pass_20 rfl hl (by decide) rfl (fun ls hl => ?_)
    refine lv_aload_n hx hb dX6_pass_21 rfl (lv_at hl 1 rfl) ?_
    refine va_get (D := δ) (ci := 6) (v := .ref aR20) (C := RX6) (T := TX6) (N := 34) hx hb hts hinX6 hown hK hP 0 rfl rfl 30 (by decide) (hts (.fieldLink RX6 68 "GloveHoursModel" "kept" "[I") (List.mem_of_getElem? (i := 2) rfl)) (fun _ h9 => h9) rfl dX6_pass_22 ?_
    refine lv_aload_n hx hb dX6_pass_25 rfl (lv_at hl 1 rfl) ?_
    refine va_get (D := δ) (ci := 6) (v := .int (iKeptAt kp)) (C := RX6) (T := TX6) (N := 34) hx hb hts hinX6 hown hK hP 0 rfl rfl 32 (by decide) (hts (.fieldLink RX6 284 "GloveHoursModel" "keptAt" "I") (List.mem_of_getElem? (i := 3) rfl)) (fun _ h9 => h9) rfl dX6_pass_26 ?_
    refine lv_iload_n hx hb dX6_pass_29 rfl (lv_at hl 0 rfl) ?_
    refine va_iast hx hb hK hP hD hS 20 0 rfl rfl hk dX6_pass_30 (fun H locs hP hD hS => ?_)
    have hP : va_P δ vwCl (wR cI cJ cZ aR0 aR1 aR2 aR3 aR4 aR5 aR6 aR7 aR8 aR9 aR10 aR11 aR12 aR13 aR14 aR15 aR16 aR17 aR18 aR19 aR20 aR21 lv sg pd ac dd hd le bd my lf pa (iKeptAt kp, iIsWriting kp, (upd (iKept kp) (iKeptAt kp).toNatClampNeg ((iKept kp) (iKeptAt kp).toNatClampNeg)), iIsKept kp)) H := hP
    have hD : va_D A (wR cI cJ cZ aR0 aR1 aR2 aR3 aR4 aR5 aR6 aR7 aR8 aR9 aR10 aR11 aR12 aR13 aR14 aR15 aR16 aR17 aR18 aR19 aR20 aR21 lv sg pd ac dd hd le bd my lf pa (iKeptAt kp, iIsWriting kp, (upd (iKept kp) (iKeptAt kp).toNatClampNeg ((iKept kp) (iKeptAt kp).toNatClampNeg)), iIsKept kp)) := hD
    refine lv_aload_n hx hb dX6_pass_31 rfl (lv_at hl 1 rfl) ?_
    refine lv_dup hx hb dX6_pass_32 rfl ?_
    refine va_get (D := δ) (ci := 6) (v := .int (iKeptAt kp)) (C := RX6) (T := TX6) (N := 34) hx hb hts hinX6 hown hK hP 0 rfl rfl 32 (by decide) (hts (.fieldLink RX6 284 "GloveHoursModel" "keptAt" "I") (List.mem_of_getElem? (i := 3) rfl)) (fun _ h9 => h9) rfl dX6_pass_33 ?_
    refine lv_iconst (v := (1 : Int32)) hx hb dX6_pass_36 (by decide) ?_
    refine lv_iadd hx hb dX6_pass_37 ?_
    refine va_put (D := δ) (ci := 6) (v := .int ((iKeptAt kp) + (1 : Int32))) (ty := .int) (C := RX6) (T := TX6) (N := 34) hx hb hts hinX6 tyX6 tyX6_ok nmX6 hown hK hP hD hS 0 rfl rfl 32 (by decide) (hts (.fieldLink RX6 284 "GloveHoursModel" "keptAt" "I") (List.mem_of_getElem? (i := 3) rfl)) (fun _ h9 => h9) rfl (by decide +kernel) rfl rfl (Nat.le_of_ble_eq_true rfl) dX6_pass_38 (fun H locs hP hD hS => ?_)
    have hP : va_P δ vwCl (wR cI cJ cZ aR0 aR1 aR2 aR3 aR4 aR5 aR6 aR7 aR8 aR9 aR10 aR11 aR12 aR13 aR14 aR15 aR16 aR17 aR18 aR19 aR20 aR21 lv sg pd ac dd hd le bd my lf pa (((iKeptAt kp) + (1 : Int32)), iIsWriting kp, (upd (iKept kp) (iKeptAt kp).toNatClampNeg ((iKept kp) (iKeptAt kp).toNatClampNeg)), iIsKept kp)) H := hP
    have hD : va_D A (wR cI cJ cZ aR0 aR1 aR2 aR3 aR4 aR5 aR6 aR7 aR8 aR9 aR10 aR11 aR12 aR13 aR14 aR15 aR16 aR17 aR18 aR19 aR20 aR21 lv sg pd ac dd hd le bd my lf pa (((iKeptAt kp) + (1 : Int32)), iIsWriting kp, (upd (iKept kp) (iKeptAt kp).toNatClampNeg ((iKept kp) (iKeptAt kp).toNatClampNeg)), iIsKept kp)) := hD
    refine lv_iload_n hx hb dX6_pass_41 rfl (lv_at hl 0 rfl) ?_
    exact hret _ _ ((iKept kp) (iKeptAt kp).toNatClampNeg) (((iKeptAt kp) + (1 : Int32)), iIsWriting kp, (upd (iKept kp) (iKeptAt kp).toNatClampNeg ((iKept kp) (iKeptAt kp).toNatClampNeg)), iIsKept kp) _ _ hR hP hD hS dX6_pass_42
  · have c_4 : ¬ ((iIsWriting kp) = 0) := c_4
    have hR := hR.trans (if_neg c_4)
    refine lv_iload_n hx hb dX6_pass_7 rfl (lv_at hl 1 rfl) ?_
    refine lv_goto (tgt := 20) hx hb dX6_pass_8 (by decide) ?_
    refine lv_istore_n (lv' := [(2, .int xv), (0, .ref aR0), (1, .int xv)]) hx hb dX6_pass_20 rfl hl (by decide) rfl (fun ls hl => ?_)
    refine lv_aload_n hx hb dX6_pass_21 rfl (lv_at hl 1 rfl) ?_
    refine va_get (D := δ) (ci := 6) (v := .ref aR20) (C := RX6) (T := TX6) (N := 34) hx hb hts hinX6 hown hK hP 0 rfl rfl 30 (by decide) (hts (.fieldLink RX6 68 "GloveHoursModel" "kept" "[I") (List.mem_of_getElem? (i := 2) rfl)) (fun _ h9 => h9) rfl dX6_pass_22 ?_
    refine lv_aload_n hx hb dX6_pass_25 rfl (lv_at hl 1 rfl) ?_
    refine va_get (D := δ) (ci := 6) (v := .int (iKeptAt kp)) (C := RX6) (T := TX6) (N := 34) hx hb hts hinX6 hown hK hP 0 rfl rfl 32 (by decide) (hts (.fieldLink RX6 284 "GloveHoursModel" "keptAt" "I") (List.mem_of_getElem? (i := 3) rfl)) (fun _ h9 => h9) rfl dX6_pass_26 ?_
    refine lv_iload_n hx hb dX6_pass_29 rfl (lv_at hl 0 rfl) ?_
    refine va_iast hx hb hK hP hD hS 20 0 rfl rfl hk dX6_pass_30 (fun H locs hP hD hS => ?_)
    have hP : va_P δ vwCl (wR cI cJ cZ aR0 aR1 aR2 aR3 aR4 aR5 aR6 aR7 aR8 aR9 aR10 aR11 aR12 aR13 aR14 aR15 aR16 aR17 aR18 aR19 aR20 aR21 lv sg pd ac dd hd le bd my lf pa (iKeptAt kp, iIsWriting kp, (upd (iKept kp) (iKeptAt kp).toNatClampNeg xv), iIsKept kp)) H := hP
    have hD : va_D A (wR cI cJ cZ aR0 aR1 aR2 aR3 aR4 aR5 aR6 aR7 aR8 aR9 aR10 aR11 aR12 aR13 aR14 aR15 aR16 aR17 aR18 aR19 aR20 aR21 lv sg pd ac dd hd le bd my lf pa (iKeptAt kp, iIsWriting kp, (upd (iKept kp) (iKeptAt kp).toNatClampNeg xv), iIsKept kp)) := hD
    refine lv_aload_n hx hb dX6_pass_31 rfl (lv_at hl 1 rfl) ?_
    refine lv_dup hx hb dX6_pass_32 rfl ?_
    refine va_get (D := δ) (ci := 6) (v := .int (iKeptAt kp)) (C := RX6) (T := TX6) (N := 34) hx hb hts hinX6 hown hK hP 0 rfl rfl 32 (by decide) (hts (.fieldLink RX6 284 "GloveHoursModel" "keptAt" "I") (List.mem_of_getElem? (i := 3) rfl)) (fun _ h9 => h9) rfl dX6_pass_33 ?_
    refine lv_iconst (v := (1 : Int32)) hx hb dX6_pass_36 (by decide) ?_
    refine lv_iadd hx hb dX6_pass_37 ?_
    refine va_put (D := δ) (ci := 6) (v := .int ((iKeptAt kp) + (1 : Int32))) (ty := .int) (C := RX6) (T := TX6) (N := 34) hx hb hts hinX6 tyX6 tyX6_ok nmX6 hown hK hP hD hS 0 rfl rfl 32 (by decide) (hts (.fieldLink RX6 284 "GloveHoursModel" "keptAt" "I") (List.mem_of_getElem? (i := 3) rfl)) (fun _ h9 => h9) rfl (by decide +kernel) rfl rfl (Nat.le_of_ble_eq_true rfl) dX6_pass_38 (fun H locs hP hD hS => ?_)
    have hP : va_P δ vwCl (wR cI cJ cZ aR0 aR1 aR2 aR3 aR4 aR5 aR6 aR7 aR8 aR9 aR10 aR11 aR12 aR13 aR14 aR15 aR16 aR17 aR18 aR19 aR20 aR21 lv sg pd ac dd hd le bd my lf pa (((iKeptAt kp) + (1 : Int32)), iIsWriting kp, (upd (iKept kp) (iKeptAt kp).toNatClampNeg xv), iIsKept kp)) H := hP
    have hD : va_D A (wR cI cJ cZ aR0 aR1 aR2 aR3 aR4 aR5 aR6 aR7 aR8 aR9 aR10 aR11 aR12 aR13 aR14 aR15 aR16 aR17 aR18 aR19 aR20 aR21 lv sg pd ac dd hd le bd my lf pa (((iKeptAt kp) + (1 : Int32)), iIsWriting kp, (upd (iKept kp) (iKeptAt kp).toNatClampNeg xv), iIsKept kp)) := hD
    refine lv_iload_n hx hb dX6_pass_41 rfl (lv_at hl 0 rfl) ?_
    exact hret _ _ xv (((iKeptAt kp) + (1 : Int32)), iIsWriting kp, (upd (iKept kp) (iKeptAt kp).toNatClampNeg xv), iIsKept kp) _ _ hR hP hD hS dX6_pass_42

abbrev rm_X6_passAll : Room := { frames := 1, cells := 0, slots := 0, locals := 22 }
set_option maxHeartbeats 4000000 in
set_option maxRecDepth 100000 in
theorem c_X6_passAll (l : Launch) (δ : va_G) (cI cJ cZ : ClassId) (aR0 aR1 aR2 aR3 aR4 aR5 aR6 aR7 aR8 aR9 aR10 aR11 aR12 aR13 aR14 aR15 aR16 aR17 aR18 aR19 aR20 aR21 : Nat) (lv : LV) (sg : SG) (pd : PD) (ac : AC) (dd : DD) (hd : HD) (le : LE) (bd : BD) (my : MY) (lf : LF) (pa : PA) (kp : KP) (nb : Nat) (hkb : iKeptAt kp = nI nb) (hnb : nb + 182 ≤ 380) : mMv l δ (mTy cI cJ cZ) yX6_passAll wsX6_passAll rm_X6_passAll [.ref aR0] (wR cI cJ cZ aR0 aR1 aR2 aR3 aR4 aR5 aR6 aR7 aR8 aR9 aR10 aR11 aR12 aR13 aR14 aR15 aR16 aR17 aR18 aR19 aR20 aR21 lv sg pd ac dd hd le bd my lf pa kp) (S := LV × SG × KP) (fun u => F_X6_passAll lv sg kp = u) (fun u => (wR cI cJ cZ aR0 aR1 aR2 aR3 aR4 aR5 aR6 aR7 aR8 aR9 aR10 aR11 aR12 aR13 aR14 aR15 aR16 aR17 aR18 aR19 aR20 aR21 u.1 u.2.1 pd ac dd hd le bd my lf pa u.2.2)) := by
  refine mk_v (cc := cX6_passAll) (maxL := 2) (by decide) rfl (Nat.le_of_ble_eq_true rfl) ?_
  intro p e s m args below meth c A Q ls H locs hx hb hml hts hown hK hNW hA hP hD hS hl hret
  have hown : s.vm.findClass RX6 = some m.cls := hown
  have hl : lv_has ls 2 [(0, .ref aR0)] := hl
  have hinX6 : ∀ w ∈ u_ws RX6 TX6 34, w ∈ wsX6_passAll := (fun _ h => List.mem_cons_of_mem _ (List.mem_append_right _ (h)))
  have hR := F_X6_passAll.eq_1 lv sg kp
  refine lv_aload_n hx hb dX6_passAll_0 rfl (lv_at hl 0 rfl) ?_
  refine lv_aload_n hx hb dX6_passAll_1 rfl (lv_at hl 0 rfl) ?_
  refine lv_aload_n hx hb dX6_passAll_2 rfl (lv_at hl 0 rfl) ?_
  refine va_get (D := δ) (ci := 6) (v := .int (vCourtiers lv)) (C := RX6) (T := TX6) (N := 34) hx hb hts hinX6 hown hK hP 0 rfl rfl 0 (by decide) (hts (.fieldLink RX6 87 "GloveHoursModel" "courtiers" "I") (List.mem_of_getElem? (i := 1) rfl)) (fun _ h9 => h9) rfl dX6_passAll_3 ?_
  have hr := mrV (p := p) (e := e) (R := rm_X6_passAll) (below := below) (meth := meth) (H := H) (locs := locs) (ls := ls) (As := [.int (vCourtiers lv)]) (rest := [.ref aR0]) (c_X6_pass l δ cI cJ cZ aR0 aR1 aR2 aR3 aR4 aR5 aR6 aR7 aR8 aR9 aR10 aR11 aR12 aR13 aR14 aR15 aR16 aR17 aR18 aR19 aR20 aR21 lv sg pd ac dd hd le bd my lf pa kp (vCourtiers lv) (vp_in_nIe hkb (by omega) (by decide))) hx hb hml hts hown hK hNW hP hD [0, 1, 2, 3, 4, 5, 6, 7, 8, 9, 10, 11, 12, 13, 14, 15, 16, 17, 18, 19, 20, 21] rfl rfl 6 0 rfl rfl (cwV 1 hts gX6_passAll_X6_pass rfl rfl rfl (by decide +kernel) ⟨(Nat.le_of_ble_eq_true rfl), (Nat.le_of_ble_eq_true rfl)⟩) rfl hl.1 rfl (Nat.le_of_ble_eq_true rfl) dX6_passAll_6
  refine mc_i (wr := ([] : va_W)) hr hP hD hS hA [0, 1, 2, 3, 4, 5, 6, 7, 8, 9, 10, 11, 12, 13, 14, 15, 16, 17, 18, 19, 20, 21] [] [0, 1, 2, 3, 4, 5, 6, 7, 8, 9, 10, 11, 12, 13, 14, 15, 16, 17, 18, 19, 20, 21] rfl rfl rfl rfl rfl (wn := fun u_6 => (wR cI cJ cZ aR0 aR1 aR2 aR3 aR4 aR5 aR6 aR7 aR8 aR9 aR10 aR11 aR12 aR13 aR14 aR15 aR16 aR17 aR18 aR19 aR20 aR21 lv sg pd ac dd hd le bd my lf pa u_6)) (fun _ => rfl) (fun r_6 u_6 H locs hw_6 hP hD hS => ?_)
  have hP : va_P δ vwCl (wR cI cJ cZ aR0 aR1 aR2 aR3 aR4 aR5 aR6 aR7 aR8 aR9 aR10 aR11 aR12 aR13 aR14 aR15 aR16 aR17 aR18 aR19 aR20 aR21 lv sg pd ac dd hd le bd my lf pa u_6) H := hP
  have hD : va_D A (wR cI cJ cZ aR0 aR1 aR2 aR3 aR4 aR5 aR6 aR7 aR8 aR9 aR10 aR11 aR12 aR13 aR14 aR15 aR16 aR17 aR18 aR19 aR20 aR21 lv sg pd ac dd hd le bd my lf pa u_6) := hD
  have h1 := pass_at hw_6 hkb
  have hR := bnd_eq hR hw_6.symm
  refine va_put (D := δ) (ci := 6) (v := .int r_6) (ty := .int) (C := RX6) (T := TX6) (N := 34) hx hb hts hinX6 tyX6 tyX6_ok nmX6 hown hK hP hD hS 0 rfl rfl 0 (by decide) (hts (.fieldLink RX6 87 "GloveHoursModel" "courtiers" "I") (List.mem_of_getElem? (i := 1) rfl)) (fun _ h9 => h9) rfl (by decide +kernel) rfl rfl (Nat.le_of_ble_eq_true rfl) dX6_passAll_9 (fun H locs hP hD hS => ?_)
  have hP : va_P δ vwCl (wR cI cJ cZ aR0 aR1 aR2 aR3 aR4 aR5 aR6 aR7 aR8 aR9 aR10 aR11 aR12 aR13 aR14 aR15 aR16 aR17 aR18 aR19 aR20 aR21 (r_6, vClock lv, vTears lv, vLeft lv, vRight lv, vScandals lv, vWearOf lv) sg pd ac dd hd le bd my lf pa u_6) H := hP
  have hD : va_D A (wR cI cJ cZ aR0 aR1 aR2 aR3 aR4 aR5 aR6 aR7 aR8 aR9 aR10 aR11 aR12 aR13 aR14 aR15 aR16 aR17 aR18 aR19 aR20 aR21 (r_6, vClock lv, vTears lv, vLeft lv, vRight lv, vScandals lv, vWearOf lv) sg pd ac dd hd le bd my lf pa u_6) := hD
  refine lv_aload_n hx hb dX6_passAll_12 rfl (lv_at hl 0 rfl) ?_
  refine lv_aload_n hx hb dX6_passAll_13 rfl (lv_at hl 0 rfl) ?_
  refine lv_aload_n hx hb dX6_passAll_14 rfl (lv_at hl 0 rfl) ?_
  refine va_get (D := δ) (ci := 6) (v := .int (vClock lv)) (C := RX6) (T := TX6) (N := 34) hx hb hts hinX6 hown hK hP 0 rfl rfl 1 (by decide) (hts (.fieldLink RX6 110 "GloveHoursModel" "clock" "I") (List.mem_of_getElem? (i := 2) rfl)) (fun _ h9 => h9) rfl dX6_passAll_15 ?_
  have hr := mrV (p := p) (e := e) (R := rm_X6_passAll) (below := below) (meth := meth) (H := H) (locs := locs) (ls := ls) (As := [.int (vClock lv)]) (rest := [.ref aR0]) (c_X6_pass l δ cI cJ cZ aR0 aR1 aR2 aR3 aR4 aR5 aR6 aR7 aR8 aR9 aR10 aR11 aR12 aR13 aR14 aR15 aR16 aR17 aR18 aR19 aR20 aR21 (r_6, vClock lv, vTears lv, vLeft lv, vRight lv, vScandals lv, vWearOf lv) sg pd ac dd hd le bd my lf pa u_6 (vClock lv) (vp_in_nIe h1 (by omega) (by decide))) hx hb hml hts hown hK hNW hP hD [0, 1, 2, 3, 4, 5, 6, 7, 8, 9, 10, 11, 12, 13, 14, 15, 16, 17, 18, 19, 20, 21] rfl rfl 6 0 rfl rfl (cwV 1 hts gX6_passAll_X6_pass rfl rfl rfl (by decide +kernel) ⟨(Nat.le_of_ble_eq_true rfl), (Nat.le_of_ble_eq_true rfl)⟩) rfl hl.1 rfl (Nat.le_of_ble_eq_true rfl) dX6_passAll_18
  refine mc_i (wr := ([] : va_W)) hr hP hD hS hA [0, 1, 2, 3, 4, 5, 6, 7, 8, 9, 10, 11, 12, 13, 14, 15, 16, 17, 18, 19, 20, 21] [] [0, 1, 2, 3, 4, 5, 6, 7, 8, 9, 10, 11, 12, 13, 14, 15, 16, 17, 18, 19, 20, 21] rfl rfl rfl rfl rfl (wn := fun u_18 => (wR cI cJ cZ aR0 aR1 aR2 aR3 aR4 aR5 aR6 aR7 aR8 aR9 aR10 aR11 aR12 aR13 aR14 aR15 aR16 aR17 aR18 aR19 aR20 aR21 (r_6, vClock lv, vTears lv, vLeft lv, vRight lv, vScandals lv, vWearOf lv) sg pd ac dd hd le bd my lf pa u_18)) (fun _ => rfl) (fun r_18 u_18 H locs hw_18 hP hD hS => ?_)
  have hP : va_P δ vwCl (wR cI cJ cZ aR0 aR1 aR2 aR3 aR4 aR5 aR6 aR7 aR8 aR9 aR10 aR11 aR12 aR13 aR14 aR15 aR16 aR17 aR18 aR19 aR20 aR21 (r_6, vClock lv, vTears lv, vLeft lv, vRight lv, vScandals lv, vWearOf lv) sg pd ac dd hd le bd my lf pa u_18) H := hP
  have hD : va_D A (wR cI cJ cZ aR0 aR1 aR2 aR3 aR4 aR5 aR6 aR7 aR8 aR9 aR10 aR11 aR12 aR13 aR14 aR15 aR16 aR17 aR18 aR19 aR20 aR21 (r_6, vClock lv, vTears lv, vLeft lv, vRight lv, vScandals lv, vWearOf lv) sg pd ac dd hd le bd my lf pa u_18) := hD
  have h2 := pass_at hw_18 h1
  have hR := bnd_eq hR hw_18.symm
  refine va_put (D := δ) (ci := 6) (v := .int r_18) (ty := .int) (C := RX6) (T := TX6) (N := 34) hx hb hts hinX6 tyX6 tyX6_ok nmX6 hown hK hP hD hS 0 rfl rfl 1 (by decide) (hts (.fieldLink RX6 110 "GloveHoursModel" "clock" "I") (List.mem_of_getElem? (i := 2) rfl)) (fun _ h9 => h9) rfl (by decide +kernel) rfl rfl (Nat.le_of_ble_eq_true rfl) dX6_passAll_21 (fun H locs hP hD hS => ?_)
  have hP : va_P δ vwCl (wR cI cJ cZ aR0 aR1 aR2 aR3 aR4 aR5 aR6 aR7 aR8 aR9 aR10 aR11 aR12 aR13 aR14 aR15 aR16 aR17 aR18 aR19 aR20 aR21 (r_6, r_18, vTears lv, vLeft lv, vRight lv, vScandals lv, vWearOf lv) sg pd ac dd hd le bd my lf pa u_18) H := hP
  have hD : va_D A (wR cI cJ cZ aR0 aR1 aR2 aR3 aR4 aR5 aR6 aR7 aR8 aR9 aR10 aR11 aR12 aR13 aR14 aR15 aR16 aR17 aR18 aR19 aR20 aR21 (r_6, r_18, vTears lv, vLeft lv, vRight lv, vScandals lv, vWearOf lv) sg pd ac dd hd le bd my lf pa u_18) := hD
  refine lv_aload_n hx hb dX6_passAll_24 rfl (lv_at hl 0 rfl) ?_
  refine lv_aload_n hx hb dX6_passAll_25 rfl (lv_at hl 0 rfl) ?_
  refine lv_aload_n hx hb dX6_passAll_26 rfl (lv_at hl 0 rfl) ?_
  refine va_get (D := δ) (ci := 6) (v := .int (vTears lv)) (C := RX6) (T := TX6) (N := 34) hx hb hts hinX6 hown hK hP 0 rfl rfl 2 (by decide) (hts (.fieldLink RX6 75 "GloveHoursModel" "tears" "I") (List.mem_of_getElem? (i := 3) rfl)) (fun _ h9 => h9) rfl dX6_passAll_27 ?_
  have hr := mrV (p := p) (e := e) (R := rm_X6_passAll) (below := below) (meth := meth) (H := H) (locs := locs) (ls := ls) (As := [.int (vTears lv)]) (rest := [.ref aR0]) (c_X6_pass l δ cI cJ cZ aR0 aR1 aR2 aR3 aR4 aR5 aR6 aR7 aR8 aR9 aR10 aR11 aR12 aR13 aR14 aR15 aR16 aR17 aR18 aR19 aR20 aR21 (r_6, r_18, vTears lv, vLeft lv, vRight lv, vScandals lv, vWearOf lv) sg pd ac dd hd le bd my lf pa u_18 (vTears lv) (vp_in_nIe h2 (by omega) (by decide))) hx hb hml hts hown hK hNW hP hD [0, 1, 2, 3, 4, 5, 6, 7, 8, 9, 10, 11, 12, 13, 14, 15, 16, 17, 18, 19, 20, 21] rfl rfl 6 0 rfl rfl (cwV 1 hts gX6_passAll_X6_pass rfl rfl rfl (by decide +kernel) ⟨(Nat.le_of_ble_eq_true rfl), (Nat.le_of_ble_eq_true rfl)⟩) rfl hl.1 rfl (Nat.le_of_ble_eq_true rfl) dX6_passAll_30
  refine mc_i (wr := ([] : va_W)) hr hP hD hS hA [0, 1, 2, 3, 4, 5, 6, 7, 8, 9, 10, 11, 12, 13, 14, 15, 16, 17, 18, 19, 20, 21] [] [0, 1, 2, 3, 4, 5, 6, 7, 8, 9, 10, 11, 12, 13, 14, 15, 16, 17, 18, 19, 20, 21] rfl rfl rfl rfl rfl (wn := fun u_30 => (wR cI cJ cZ aR0 aR1 aR2 aR3 aR4 aR5 aR6 aR7 aR8 aR9 aR10 aR11 aR12 aR13 aR14 aR15 aR16 aR17 aR18 aR19 aR20 aR21 (r_6, r_18, vTears lv, vLeft lv, vRight lv, vScandals lv, vWearOf lv) sg pd ac dd hd le bd my lf pa u_30)) (fun _ => rfl) (fun r_30 u_30 H locs hw_30 hP hD hS => ?_)
  have hP : va_P δ vwCl (wR cI cJ cZ aR0 aR1 aR2 aR3 aR4 aR5 aR6 aR7 aR8 aR9 aR10 aR11 aR12 aR13 aR14 aR15 aR16 aR17 aR18 aR19 aR20 aR21 (r_6, r_18, vTears lv, vLeft lv, vRight lv, vScandals lv, vWearOf lv) sg pd ac dd hd le bd my lf pa u_30) H := hP
  have hD : va_D A (wR cI cJ cZ aR0 aR1 aR2 aR3 aR4 aR5 aR6 aR7 aR8 aR9 aR10 aR11 aR12 aR13 aR14 aR15 aR16 aR17 aR18 aR19 aR20 aR21 (r_6, r_18, vTears lv, vLeft lv, vRight lv, vScandals lv, vWearOf lv) sg pd ac dd hd le bd my lf pa u_30) := hD
  have h3 := pass_at hw_30 h2
  have hR := bnd_eq hR hw_30.symm
  refine va_put (D := δ) (ci := 6) (v := .int r_30) (ty := .int) (C := RX6) (T := TX6) (N := 34) hx hb hts hinX6 tyX6 tyX6_ok nmX6 hown hK hP hD hS 0 rfl rfl 2 (by decide) (hts (.fieldLink RX6 75 "GloveHoursModel" "tears" "I") (List.mem_of_getElem? (i := 3) rfl)) (fun _ h9 => h9) rfl (by decide +kernel) rfl rfl (Nat.le_of_ble_eq_true rfl) dX6_passAll_33 (fun H locs hP hD hS => ?_)
  have hP : va_P δ vwCl (wR cI cJ cZ aR0 aR1 aR2 aR3 aR4 aR5 aR6 aR7 aR8 aR9 aR10 aR11 aR12 aR13 aR14 aR15 aR16 aR17 aR18 aR19 aR20 aR21 (r_6, r_18, r_30, vLeft lv, vRight lv, vScandals lv, vWearOf lv) sg pd ac dd hd le bd my lf pa u_30) H := hP
  have hD : va_D A (wR cI cJ cZ aR0 aR1 aR2 aR3 aR4 aR5 aR6 aR7 aR8 aR9 aR10 aR11 aR12 aR13 aR14 aR15 aR16 aR17 aR18 aR19 aR20 aR21 (r_6, r_18, r_30, vLeft lv, vRight lv, vScandals lv, vWearOf lv) sg pd ac dd hd le bd my lf pa u_30) := hD
  refine lv_aload_n hx hb dX6_passAll_36 rfl (lv_at hl 0 rfl) ?_
  refine lv_aload_n hx hb dX6_passAll_37 rfl (lv_at hl 0 rfl) ?_
  refine lv_aload_n hx hb dX6_passAll_38 rfl (lv_at hl 0 rfl) ?_
  refine va_get (D := δ) (ci := 6) (v := .int (sSights sg)) (C := RX6) (T := TX6) (N := 34) hx hb hts hinX6 hown hK hP 0 rfl rfl 9 (by decide) (hts (.fieldLink RX6 252 "GloveHoursModel" "sights" "I") (List.mem_of_getElem? (i := 4) rfl)) (fun _ h9 => h9) rfl dX6_passAll_39 ?_
  have hr := mrV (p := p) (e := e) (R := rm_X6_passAll) (below := below) (meth := meth) (H := H) (locs := locs) (ls := ls) (As := [.int (sSights sg)]) (rest := [.ref aR0]) (c_X6_pass l δ cI cJ cZ aR0 aR1 aR2 aR3 aR4 aR5 aR6 aR7 aR8 aR9 aR10 aR11 aR12 aR13 aR14 aR15 aR16 aR17 aR18 aR19 aR20 aR21 (r_6, r_18, r_30, vLeft lv, vRight lv, vScandals lv, vWearOf lv) sg pd ac dd hd le bd my lf pa u_30 (sSights sg) (vp_in_nIe h3 (by omega) (by decide))) hx hb hml hts hown hK hNW hP hD [0, 1, 2, 3, 4, 5, 6, 7, 8, 9, 10, 11, 12, 13, 14, 15, 16, 17, 18, 19, 20, 21] rfl rfl 6 0 rfl rfl (cwV 1 hts gX6_passAll_X6_pass rfl rfl rfl (by decide +kernel) ⟨(Nat.le_of_ble_eq_true rfl), (Nat.le_of_ble_eq_true rfl)⟩) rfl hl.1 rfl (Nat.le_of_ble_eq_true rfl) dX6_passAll_42
  refine mc_i (wr := ([] : va_W)) hr hP hD hS hA [0, 1, 2, 3, 4, 5, 6, 7, 8, 9, 10, 11, 12, 13, 14, 15, 16, 17, 18, 19, 20, 21] [] [0, 1, 2, 3, 4, 5, 6, 7, 8, 9, 10, 11, 12, 13, 14, 15, 16, 17, 18, 19, 20, 21] rfl rfl rfl rfl rfl (wn := fun u_42 => (wR cI cJ cZ aR0 aR1 aR2 aR3 aR4 aR5 aR6 aR7 aR8 aR9 aR10 aR11 aR12 aR13 aR14 aR15 aR16 aR17 aR18 aR19 aR20 aR21 (r_6, r_18, r_30, vLeft lv, vRight lv, vScandals lv, vWearOf lv) sg pd ac dd hd le bd my lf pa u_42)) (fun _ => rfl) (fun r_42 u_42 H locs hw_42 hP hD hS => ?_)
  have hP : va_P δ vwCl (wR cI cJ cZ aR0 aR1 aR2 aR3 aR4 aR5 aR6 aR7 aR8 aR9 aR10 aR11 aR12 aR13 aR14 aR15 aR16 aR17 aR18 aR19 aR20 aR21 (r_6, r_18, r_30, vLeft lv, vRight lv, vScandals lv, vWearOf lv) sg pd ac dd hd le bd my lf pa u_42) H := hP
  have hD : va_D A (wR cI cJ cZ aR0 aR1 aR2 aR3 aR4 aR5 aR6 aR7 aR8 aR9 aR10 aR11 aR12 aR13 aR14 aR15 aR16 aR17 aR18 aR19 aR20 aR21 (r_6, r_18, r_30, vLeft lv, vRight lv, vScandals lv, vWearOf lv) sg pd ac dd hd le bd my lf pa u_42) := hD
  have hR := bnd_eq hR hw_42.symm
  refine va_put (D := δ) (ci := 6) (v := .int r_42) (ty := .int) (C := RX6) (T := TX6) (N := 34) hx hb hts hinX6 tyX6 tyX6_ok nmX6 hown hK hP hD hS 0 rfl rfl 9 (by decide) (hts (.fieldLink RX6 252 "GloveHoursModel" "sights" "I") (List.mem_of_getElem? (i := 4) rfl)) (fun _ h9 => h9) rfl (by decide +kernel) rfl rfl (Nat.le_of_ble_eq_true rfl) dX6_passAll_45 (fun H locs hP hD hS => ?_)
  have hP : va_P δ vwCl (wR cI cJ cZ aR0 aR1 aR2 aR3 aR4 aR5 aR6 aR7 aR8 aR9 aR10 aR11 aR12 aR13 aR14 aR15 aR16 aR17 aR18 aR19 aR20 aR21 (r_6, r_18, r_30, vLeft lv, vRight lv, vScandals lv, vWearOf lv) (r_42, sSightHour sg, sSightOwned sg) pd ac dd hd le bd my lf pa u_42) H := hP
  have hD : va_D A (wR cI cJ cZ aR0 aR1 aR2 aR3 aR4 aR5 aR6 aR7 aR8 aR9 aR10 aR11 aR12 aR13 aR14 aR15 aR16 aR17 aR18 aR19 aR20 aR21 (r_6, r_18, r_30, vLeft lv, vRight lv, vScandals lv, vWearOf lv) (r_42, sSightHour sg, sSightOwned sg) pd ac dd hd le bd my lf pa u_42) := hD
  refine lv_iconst (v := (0 : Int32)) hx hb dX6_passAll_48 (by decide) ?_
  refine lv_istore_n (lv' := [(1, .int (0 : Int32)), (0, .ref aR0)]) hx hb dX6_passAll_49 rfl hl (by decide) rfl (fun ls hl => ?_)
  have hloop_50 : ∀ (n_50 : Nat) (i_50 : Nat) (lv_50 : LV) (kp_50 : KP) (H : Heap) (locs : List Loc) (ls : Array Slot), (hi_50 : i_50 ≤ 6) → (hn_50 : 6 < i_50 + n_50) → (hk_50 : iKeptAt kp_50 = nI (nb + 4 + 3 * i_50)) → (hP : va_P δ vwCl (wR cI cJ cZ aR0 aR1 aR2 aR3 aR4 aR5 aR6 aR7 aR8 aR9 aR10 aR11 aR12 aR13 aR14 aR15 aR16 aR17 aR18 aR19 aR20 aR21 lv_50 (r_42, sSightHour sg, sSightOwned sg) pd ac dd hd le bd my lf pa kp_50) H) → (hD : va_D A (wR cI cJ cZ aR0 aR1 aR2 aR3 aR4 aR5 aR6 aR7 aR8 aR9 aR10 aR11 aR12 aR13 aR14 aR15 aR16 aR17 aR18 aR19 aR20 aR21 lv_50 (r_42, sSightHour sg, sSightOwned sg) pd ac dd hd le bd my lf pa kp_50)) → (hS : va_S A s.heap H locs) → (hl : lv_has ls 2 [(1, .int (nI i_50)), (0, .ref aR0)]) → (kk : ∀ (w_50 : LV × KP) (H : Heap) (locs : List Loc) (ls : Array Slot), L_X6_passAll_50  n_50 i_50 lv_50 kp_50 = w_50 → va_P δ vwCl (wR cI cJ cZ aR0 aR1 aR2 aR3 aR4 aR5 aR6 aR7 aR8 aR9 aR10 aR11 aR12 aR13 aR14 aR15 aR16 aR17 aR18 aR19 aR20 aR21 w_50.1 (r_42, sSightHour sg, sSightOwned sg) pd ac dd hd le bd my lf pa w_50.2) H → va_D A (wR cI cJ cZ aR0 aR1 aR2 aR3 aR4 aR5 aR6 aR7 aR8 aR9 aR10 aR11 aR12 aR13 aR14 aR15 aR16 aR17 aR18 aR19 aR20 aR21 w_50.1 (r_42, sSightHour sg, sSightOwned sg) pd ac dd hd le bd my lf pa w_50.2) → va_S A s.heap H locs → lv_has ls 2 [(0, .ref aR0)] → W p l e rm_X6_passAll s m args below meth c H locs 0 0 Q (F0 m 110 ls [])) → W p l e rm_X6_passAll s m args below meth c H locs 0 0 Q (F0 m 50 ls []) := by
    intro n_50
    induction n_50 with
    | zero => intro i_50 lv_50 kp_50 H locs ls hi_50 hn_50 hk_50 hP hD hS hl kk; exact absurd hn_50 (by omega)
    | succ n_50 ih_50 =>
      intro i_50 lv_50 kp_50 H locs ls hi_50 hn_50 hk_50 hP hD hS hl kk
      have hR := L_X6_passAll_50_s  n_50 i_50 lv_50 kp_50
      refine lv_iload_n hx hb dX6_passAll_50 rfl (lv_at hl 0 rfl) ?_
      refine lv_bipush (v := (6 : Int32)) hx hb dX6_passAll_51 (by decide) ?_
      refine lv_icmp_ge (tgt := 110) hx hb dX6_passAll_53 (by decide) (fun c_53 => ?_) (fun c_53 => ?_)
      · have c_53 : ((6 : Int32) ≤ (nI i_50)) := c_53
        have hR := hR.trans (if_pos c_53)
        exact kk (lv_50, kp_50) H locs ls hR hP hD hS (lv_sub hl [1] rfl)
      · have c_53 : ¬ ((6 : Int32) ≤ (nI i_50)) := c_53
        have hR := hR.trans (if_neg c_53)
        have hlt_50 : i_50 < 6 := lt_g c_53 hi_50 (by decide)
        refine lv_aload_n hx hb dX6_passAll_56 rfl (lv_at hl 1 rfl) ?_
        refine va_get (D := δ) (ci := 6) (v := .ref aR1) (C := RX6) (T := TX6) (N := 34) hx hb hts hinX6 hown hK hP 0 rfl rfl 3 (by decide) (hts (.fieldLink RX6 7 "GloveHoursModel" "left" "[I") (List.mem_of_getElem? (i := 5) rfl)) (fun _ h9 => h9) rfl dX6_passAll_57 ?_
        refine lv_iload_n hx hb dX6_passAll_60 rfl (lv_at hl 0 rfl) ?_
        refine lv_aload_n hx hb dX6_passAll_61 rfl (lv_at hl 1 rfl) ?_
        refine lv_aload_n hx hb dX6_passAll_62 rfl (lv_at hl 1 rfl) ?_
        refine va_get (D := δ) (ci := 6) (v := .ref aR1) (C := RX6) (T := TX6) (N := 34) hx hb hts hinX6 hown hK hP 0 rfl rfl 3 (by decide) (hts (.fieldLink RX6 7 "GloveHoursModel" "left" "[I") (List.mem_of_getElem? (i := 5) rfl)) (fun _ h9 => h9) rfl dX6_passAll_63 ?_
        refine lv_iload_n hx hb dX6_passAll_66 rfl (lv_at hl 0 rfl) ?_
        refine va_iald hx hb hK hP 1 0 rfl rfl (vp_in_nI (by omega) (by decide)) dX6_passAll_67 ?_
        have hr := mrV (p := p) (e := e) (R := rm_X6_passAll) (below := below) (meth := meth) (H := H) (locs := locs) (ls := ls) (As := [.int ((vLeft lv_50) (nI i_50).toNatClampNeg)]) (rest := [.int (nI i_50), .ref aR1]) (c_X6_pass l δ cI cJ cZ aR0 aR1 aR2 aR3 aR4 aR5 aR6 aR7 aR8 aR9 aR10 aR11 aR12 aR13 aR14 aR15 aR16 aR17 aR18 aR19 aR20 aR21 lv_50 (r_42, sSightHour sg, sSightOwned sg) pd ac dd hd le bd my lf pa kp_50 ((vLeft lv_50) (nI i_50).toNatClampNeg) (vp_in_nIe hk_50 (by omega) (by decide))) hx hb hml hts hown hK hNW hP hD [0, 1, 2, 3, 4, 5, 6, 7, 8, 9, 10, 11, 12, 13, 14, 15, 16, 17, 18, 19, 20, 21] rfl rfl 6 0 rfl rfl (cwV 1 hts gX6_passAll_X6_pass rfl rfl rfl (by decide +kernel) ⟨(Nat.le_of_ble_eq_true rfl), (Nat.le_of_ble_eq_true rfl)⟩) rfl hl.1 rfl (Nat.le_of_ble_eq_true rfl) dX6_passAll_68
        refine mc_i (wr := ([] : va_W)) hr hP hD hS hA [0, 1, 2, 3, 4, 5, 6, 7, 8, 9, 10, 11, 12, 13, 14, 15, 16, 17, 18, 19, 20, 21] [] [0, 1, 2, 3, 4, 5, 6, 7, 8, 9, 10, 11, 12, 13, 14, 15, 16, 17, 18, 19, 20, 21] rfl rfl rfl rfl rfl (wn := fun u_68 => (wR cI cJ cZ aR0 aR1 aR2 aR3 aR4 aR5 aR6 aR7 aR8 aR9 aR10 aR11 aR12 aR13 aR14 aR15 aR16 aR17 aR18 aR19 aR20 aR21 lv_50 (r_42, sSightHour sg, sSightOwned sg) pd ac dd hd le bd my lf pa u_68)) (fun _ => rfl) (fun r_68 u_68 H locs hw_68 hP hD hS => ?_)
        have hP : va_P δ vwCl (wR cI cJ cZ aR0 aR1 aR2 aR3 aR4 aR5 aR6 aR7 aR8 aR9 aR10 aR11 aR12 aR13 aR14 aR15 aR16 aR17 aR18 aR19 aR20 aR21 lv_50 (r_42, sSightHour sg, sSightOwned sg) pd ac dd hd le bd my lf pa u_68) H := hP
        have hD : va_D A (wR cI cJ cZ aR0 aR1 aR2 aR3 aR4 aR5 aR6 aR7 aR8 aR9 aR10 aR11 aR12 aR13 aR14 aR15 aR16 aR17 aR18 aR19 aR20 aR21 lv_50 (r_42, sSightHour sg, sSightOwned sg) pd ac dd hd le bd my lf pa u_68) := hD
        have hR := bnd_eq hR hw_68.symm
        refine va_iast hx hb hK hP hD hS 1 0 rfl rfl (vp_in_nI (by omega) (by decide)) dX6_passAll_71 (fun H locs hP hD hS => ?_)
        have hP : va_P δ vwCl (wR cI cJ cZ aR0 aR1 aR2 aR3 aR4 aR5 aR6 aR7 aR8 aR9 aR10 aR11 aR12 aR13 aR14 aR15 aR16 aR17 aR18 aR19 aR20 aR21 (vCourtiers lv_50, vClock lv_50, vTears lv_50, (upd (vLeft lv_50) (nI i_50).toNatClampNeg r_68), vRight lv_50, vScandals lv_50, vWearOf lv_50) (r_42, sSightHour sg, sSightOwned sg) pd ac dd hd le bd my lf pa u_68) H := hP
        have hD : va_D A (wR cI cJ cZ aR0 aR1 aR2 aR3 aR4 aR5 aR6 aR7 aR8 aR9 aR10 aR11 aR12 aR13 aR14 aR15 aR16 aR17 aR18 aR19 aR20 aR21 (vCourtiers lv_50, vClock lv_50, vTears lv_50, (upd (vLeft lv_50) (nI i_50).toNatClampNeg r_68), vRight lv_50, vScandals lv_50, vWearOf lv_50) (r_42, sSightHour sg, sSightOwned sg) pd ac dd hd le bd my lf pa u_68) := hD
        refine lv_aload_n hx hb dX6_passAll_72 rfl (lv_at hl 1 rfl) ?_
        refine va_get (D := δ) (ci := 6) (v := .ref aR2) (C := RX6) (T := TX6) (N := 34) hx hb hts hinX6 hown hK hP 0 rfl rfl 4 (by decide) (hts (.fieldLink RX6 13 "GloveHoursModel" "right" "[I") (List.mem_of_getElem? (i := 6) rfl)) (fun _ h9 => h9) rfl dX6_passAll_73 ?_
        refine lv_iload_n hx hb dX6_passAll_76 rfl (lv_at hl 0 rfl) ?_
        refine lv_aload_n hx hb dX6_passAll_77 rfl (lv_at hl 1 rfl) ?_
        refine lv_aload_n hx hb dX6_passAll_78 rfl (lv_at hl 1 rfl) ?_
        refine va_get (D := δ) (ci := 6) (v := .ref aR2) (C := RX6) (T := TX6) (N := 34) hx hb hts hinX6 hown hK hP 0 rfl rfl 4 (by decide) (hts (.fieldLink RX6 13 "GloveHoursModel" "right" "[I") (List.mem_of_getElem? (i := 6) rfl)) (fun _ h9 => h9) rfl dX6_passAll_79 ?_
        refine lv_iload_n hx hb dX6_passAll_82 rfl (lv_at hl 0 rfl) ?_
        refine va_iald hx hb hK hP 2 0 rfl rfl (vp_in_nI (by omega) (by decide)) dX6_passAll_83 ?_
        have hr := mrV (p := p) (e := e) (R := rm_X6_passAll) (below := below) (meth := meth) (H := H) (locs := locs) (ls := ls) (As := [.int ((vRight lv_50) (nI i_50).toNatClampNeg)]) (rest := [.int (nI i_50), .ref aR2]) (c_X6_pass l δ cI cJ cZ aR0 aR1 aR2 aR3 aR4 aR5 aR6 aR7 aR8 aR9 aR10 aR11 aR12 aR13 aR14 aR15 aR16 aR17 aR18 aR19 aR20 aR21 (vCourtiers lv_50, vClock lv_50, vTears lv_50, (upd (vLeft lv_50) (nI i_50).toNatClampNeg r_68), vRight lv_50, vScandals lv_50, vWearOf lv_50) (r_42, sSightHour sg, sSightOwned sg) pd ac dd hd le bd my lf pa u_68 ((vRight lv_50) (nI i_50).toNatClampNeg) (vp_in_nIe (pass_at hw_68 hk_50) (by omega) (by decide))) hx hb hml hts hown hK hNW hP hD [0, 1, 2, 3, 4, 5, 6, 7, 8, 9, 10, 11, 12, 13, 14, 15, 16, 17, 18, 19, 20, 21] rfl rfl 6 0 rfl rfl (cwV 1 hts gX6_passAll_X6_pass rfl rfl rfl (by decide +kernel) ⟨(Nat.le_of_ble_eq_true rfl), (Nat.le_of_ble_eq_true rfl)⟩) rfl hl.1 rfl (Nat.le_of_ble_eq_true rfl) dX6_passAll_84
        refine mc_i (wr := ([] : va_W)) hr hP hD hS hA [0, 1, 2, 3, 4, 5, 6, 7, 8, 9, 10, 11, 12, 13, 14, 15, 16, 17, 18, 19, 20, 21] [] [0, 1, 2, 3, 4, 5, 6, 7, 8, 9, 10, 11, 12, 13, 14, 15, 16, 17, 18, 19, 20, 21] rfl rfl rfl rfl rfl (wn := fun u_84 => (wR cI cJ cZ aR0 aR1 aR2 aR3 aR4 aR5 aR6 aR7 aR8 aR9 aR10 aR11 aR12 aR13 aR14 aR15 aR16 aR17 aR18 aR19 aR20 aR21 (vCourtiers lv_50, vClock lv_50, vTears lv_50, (upd (vLeft lv_50) (nI i_50).toNatClampNeg r_68), vRight lv_50, vScandals lv_50, vWearOf lv_50) (r_42, sSightHour sg, sSightOwned sg) pd ac dd hd le bd my lf pa u_84)) (fun _ => rfl) (fun r_84 u_84 H locs hw_84 hP hD hS => ?_)
        have hP : va_P δ vwCl (wR cI cJ cZ aR0 aR1 aR2 aR3 aR4 aR5 aR6 aR7 aR8 aR9 aR10 aR11 aR12 aR13 aR14 aR15 aR16 aR17 aR18 aR19 aR20 aR21 (vCourtiers lv_50, vClock lv_50, vTears lv_50, (upd (vLeft lv_50) (nI i_50).toNatClampNeg r_68), vRight lv_50, vScandals lv_50, vWearOf lv_50) (r_42, sSightHour sg, sSightOwned sg) pd ac dd hd le bd my lf pa u_84) H := hP
        have hD : va_D A (wR cI cJ cZ aR0 aR1 aR2 aR3 aR4 aR5 aR6 aR7 aR8 aR9 aR10 aR11 aR12 aR13 aR14 aR15 aR16 aR17 aR18 aR19 aR20 aR21 (vCourtiers lv_50, vClock lv_50, vTears lv_50, (upd (vLeft lv_50) (nI i_50).toNatClampNeg r_68), vRight lv_50, vScandals lv_50, vWearOf lv_50) (r_42, sSightHour sg, sSightOwned sg) pd ac dd hd le bd my lf pa u_84) := hD
        have hR := bnd_eq hR hw_84.symm
        refine va_iast hx hb hK hP hD hS 2 0 rfl rfl (vp_in_nI (by omega) (by decide)) dX6_passAll_87 (fun H locs hP hD hS => ?_)
        have hP : va_P δ vwCl (wR cI cJ cZ aR0 aR1 aR2 aR3 aR4 aR5 aR6 aR7 aR8 aR9 aR10 aR11 aR12 aR13 aR14 aR15 aR16 aR17 aR18 aR19 aR20 aR21 (vCourtiers lv_50, vClock lv_50, vTears lv_50, (upd (vLeft lv_50) (nI i_50).toNatClampNeg r_68), (upd (vRight lv_50) (nI i_50).toNatClampNeg r_84), vScandals lv_50, vWearOf lv_50) (r_42, sSightHour sg, sSightOwned sg) pd ac dd hd le bd my lf pa u_84) H := hP
        have hD : va_D A (wR cI cJ cZ aR0 aR1 aR2 aR3 aR4 aR5 aR6 aR7 aR8 aR9 aR10 aR11 aR12 aR13 aR14 aR15 aR16 aR17 aR18 aR19 aR20 aR21 (vCourtiers lv_50, vClock lv_50, vTears lv_50, (upd (vLeft lv_50) (nI i_50).toNatClampNeg r_68), (upd (vRight lv_50) (nI i_50).toNatClampNeg r_84), vScandals lv_50, vWearOf lv_50) (r_42, sSightHour sg, sSightOwned sg) pd ac dd hd le bd my lf pa u_84) := hD
        refine lv_aload_n hx hb dX6_passAll_88 rfl (lv_at hl 1 rfl) ?_
        refine va_get (D := δ) (ci := 6) (v := .ref aR3) (C := RX6) (T := TX6) (N := 34) hx hb hts hinX6 hown hK hP 0 rfl rfl 5 (by decide) (hts (.fieldLink RX6 16 "GloveHoursModel" "scandals" "[I") (List.mem_of_getElem? (i := 7) rfl)) (fun _ h9 => h9) rfl dX6_passAll_89 ?_
        refine lv_iload_n hx hb dX6_passAll_92 rfl (lv_at hl 0 rfl) ?_
        refine lv_aload_n hx hb dX6_passAll_93 rfl (lv_at hl 1 rfl) ?_
        refine lv_aload_n hx hb dX6_passAll_94 rfl (lv_at hl 1 rfl) ?_
        refine va_get (D := δ) (ci := 6) (v := .ref aR3) (C := RX6) (T := TX6) (N := 34) hx hb hts hinX6 hown hK hP 0 rfl rfl 5 (by decide) (hts (.fieldLink RX6 16 "GloveHoursModel" "scandals" "[I") (List.mem_of_getElem? (i := 7) rfl)) (fun _ h9 => h9) rfl dX6_passAll_95 ?_
        refine lv_iload_n hx hb dX6_passAll_98 rfl (lv_at hl 0 rfl) ?_
        refine va_iald hx hb hK hP 3 0 rfl rfl (vp_in_nI (by omega) (by decide)) dX6_passAll_99 ?_
        have hr := mrV (p := p) (e := e) (R := rm_X6_passAll) (below := below) (meth := meth) (H := H) (locs := locs) (ls := ls) (As := [.int ((vScandals lv_50) (nI i_50).toNatClampNeg)]) (rest := [.int (nI i_50), .ref aR3]) (c_X6_pass l δ cI cJ cZ aR0 aR1 aR2 aR3 aR4 aR5 aR6 aR7 aR8 aR9 aR10 aR11 aR12 aR13 aR14 aR15 aR16 aR17 aR18 aR19 aR20 aR21 (vCourtiers lv_50, vClock lv_50, vTears lv_50, (upd (vLeft lv_50) (nI i_50).toNatClampNeg r_68), (upd (vRight lv_50) (nI i_50).toNatClampNeg r_84), vScandals lv_50, vWearOf lv_50) (r_42, sSightHour sg, sSightOwned sg) pd ac dd hd le bd my lf pa u_84 ((vScandals lv_50) (nI i_50).toNatClampNeg) (vp_in_nIe (pass_at hw_84 (pass_at hw_68 hk_50)) (by omega) (by decide))) hx hb hml hts hown hK hNW hP hD [0, 1, 2, 3, 4, 5, 6, 7, 8, 9, 10, 11, 12, 13, 14, 15, 16, 17, 18, 19, 20, 21] rfl rfl 6 0 rfl rfl (cwV 1 hts gX6_passAll_X6_pass rfl rfl rfl (by decide +kernel) ⟨(Nat.le_of_ble_eq_true rfl), (Nat.le_of_ble_eq_true rfl)⟩) rfl hl.1 rfl (Nat.le_of_ble_eq_true rfl) dX6_passAll_100
        refine mc_i (wr := ([] : va_W)) hr hP hD hS hA [0, 1, 2, 3, 4, 5, 6, 7, 8, 9, 10, 11, 12, 13, 14, 15, 16, 17, 18, 19, 20, 21] [] [0, 1, 2, 3, 4, 5, 6, 7, 8, 9, 10, 11, 12, 13, 14, 15, 16, 17, 18, 19, 20, 21] rfl rfl rfl rfl rfl (wn := fun u_100 => (wR cI cJ cZ aR0 aR1 aR2 aR3 aR4 aR5 aR6 aR7 aR8 aR9 aR10 aR11 aR12 aR13 aR14 aR15 aR16 aR17 aR18 aR19 aR20 aR21 (vCourtiers lv_50, vClock lv_50, vTears lv_50, (upd (vLeft lv_50) (nI i_50).toNatClampNeg r_68), (upd (vRight lv_50) (nI i_50).toNatClampNeg r_84), vScandals lv_50, vWearOf lv_50) (r_42, sSightHour sg, sSightOwned sg) pd ac dd hd le bd my lf pa u_100)) (fun _ => rfl) (fun r_100 u_100 H locs hw_100 hP hD hS => ?_)
        have hP : va_P δ vwCl (wR cI cJ cZ aR0 aR1 aR2 aR3 aR4 aR5 aR6 aR7 aR8 aR9 aR10 aR11 aR12 aR13 aR14 aR15 aR16 aR17 aR18 aR19 aR20 aR21 (vCourtiers lv_50, vClock lv_50, vTears lv_50, (upd (vLeft lv_50) (nI i_50).toNatClampNeg r_68), (upd (vRight lv_50) (nI i_50).toNatClampNeg r_84), vScandals lv_50, vWearOf lv_50) (r_42, sSightHour sg, sSightOwned sg) pd ac dd hd le bd my lf pa u_100) H := hP
        have hD : va_D A (wR cI cJ cZ aR0 aR1 aR2 aR3 aR4 aR5 aR6 aR7 aR8 aR9 aR10 aR11 aR12 aR13 aR14 aR15 aR16 aR17 aR18 aR19 aR20 aR21 (vCourtiers lv_50, vClock lv_50, vTears lv_50, (upd (vLeft lv_50) (nI i_50).toNatClampNeg r_68), (upd (vRight lv_50) (nI i_50).toNatClampNeg r_84), vScandals lv_50, vWearOf lv_50) (r_42, sSightHour sg, sSightOwned sg) pd ac dd hd le bd my lf pa u_100) := hD
        have hR := bnd_eq hR hw_100.symm
        refine va_iast hx hb hK hP hD hS 3 0 rfl rfl (vp_in_nI (by omega) (by decide)) dX6_passAll_103 (fun H locs hP hD hS => ?_)
        have hP : va_P δ vwCl (wR cI cJ cZ aR0 aR1 aR2 aR3 aR4 aR5 aR6 aR7 aR8 aR9 aR10 aR11 aR12 aR13 aR14 aR15 aR16 aR17 aR18 aR19 aR20 aR21 (vCourtiers lv_50, vClock lv_50, vTears lv_50, (upd (vLeft lv_50) (nI i_50).toNatClampNeg r_68), (upd (vRight lv_50) (nI i_50).toNatClampNeg r_84), (upd (vScandals lv_50) (nI i_50).toNatClampNeg r_100), vWearOf lv_50) (r_42, sSightHour sg, sSightOwned sg) pd ac dd hd le bd my lf pa u_100) H := hP
        have hD : va_D A (wR cI cJ cZ aR0 aR1 aR2 aR3 aR4 aR5 aR6 aR7 aR8 aR9 aR10 aR11 aR12 aR13 aR14 aR15 aR16 aR17 aR18 aR19 aR20 aR21 (vCourtiers lv_50, vClock lv_50, vTears lv_50, (upd (vLeft lv_50) (nI i_50).toNatClampNeg r_68), (upd (vRight lv_50) (nI i_50).toNatClampNeg r_84), (upd (vScandals lv_50) (nI i_50).toNatClampNeg r_100), vWearOf lv_50) (r_42, sSightHour sg, sSightOwned sg) pd ac dd hd le bd my lf pa u_100) := hD
        refine lv_iinc (v := (nI (i_50 + 1))) (lv' := [(1, .int (nI (i_50 + 1))), (0, .ref aR0)]) hx hb dX6_passAll_104 hl (k := 0) rfl (nI_1 i_50) (by decide) rfl (fun ls hl => ?_)
        refine lv_goto (tgt := 50) hx hb dX6_passAll_107 (by decide) ?_
        exact ih_50 (i_50 + 1) (vCourtiers lv_50, vClock lv_50, vTears lv_50, (upd (vLeft lv_50) (nI i_50).toNatClampNeg r_68), (upd (vRight lv_50) (nI i_50).toNatClampNeg r_84), (upd (vScandals lv_50) (nI i_50).toNatClampNeg r_100), vWearOf lv_50) u_100 _ _ _ (by omega) (by omega) (pass_3 hk_50 hw_68 hw_84 hw_100) hP hD hS (lv_sub hl [0, 1] rfl) (fun w_50 H locs ls he hP hD hS hl => kk w_50 H locs ls (hR.trans he) hP hD hS hl)
  refine hloop_50 (6 + 1) 0 (r_6, r_18, r_30, vLeft lv, vRight lv, vScandals lv, vWearOf lv) u_42 _ _ _ (by omega) (by omega) (pass_at hw_42 h3) hP hD hS (lv_sub hl [0, 1] rfl) (fun w_50 H locs ls hw_50 hP hD hS hl => ?_)
  have hP : va_P δ vwCl (wR cI cJ cZ aR0 aR1 aR2 aR3 aR4 aR5 aR6 aR7 aR8 aR9 aR10 aR11 aR12 aR13 aR14 aR15 aR16 aR17 aR18 aR19 aR20 aR21 w_50.1 (r_42, sSightHour sg, sSightOwned sg) pd ac dd hd le bd my lf pa w_50.2) H := hP
  have hD : va_D A (wR cI cJ cZ aR0 aR1 aR2 aR3 aR4 aR5 aR6 aR7 aR8 aR9 aR10 aR11 aR12 aR13 aR14 aR15 aR16 aR17 aR18 aR19 aR20 aR21 w_50.1 (r_42, sSightHour sg, sSightOwned sg) pd ac dd hd le bd my lf pa w_50.2) := hD
  have hR := bnd_eq hR hw_50.symm
  refine lv_iconst (v := (0 : Int32)) hx hb dX6_passAll_110 (by decide) ?_
  refine lv_istore_n (lv' := [(1, .int (0 : Int32)), (0, .ref aR0)]) hx hb dX6_passAll_111 rfl hl (by decide) rfl (fun ls hl => ?_)
  have hloop_112 : ∀ (n_112 : Nat) (i_112 : Nat) (lv_112 : LV) (kp_112 : KP) (H : Heap) (locs : List Loc) (ls : Array Slot), (hi_112 : i_112 ≤ 144) → (hn_112 : 144 < i_112 + n_112) → (hk_112 : iKeptAt kp_112 = nI (nb + 22 + i_112)) → (hP : va_P δ vwCl (wR cI cJ cZ aR0 aR1 aR2 aR3 aR4 aR5 aR6 aR7 aR8 aR9 aR10 aR11 aR12 aR13 aR14 aR15 aR16 aR17 aR18 aR19 aR20 aR21 lv_112 (r_42, sSightHour sg, sSightOwned sg) pd ac dd hd le bd my lf pa kp_112) H) → (hD : va_D A (wR cI cJ cZ aR0 aR1 aR2 aR3 aR4 aR5 aR6 aR7 aR8 aR9 aR10 aR11 aR12 aR13 aR14 aR15 aR16 aR17 aR18 aR19 aR20 aR21 lv_112 (r_42, sSightHour sg, sSightOwned sg) pd ac dd hd le bd my lf pa kp_112)) → (hS : va_S A s.heap H locs) → (hl : lv_has ls 2 [(1, .int (nI i_112)), (0, .ref aR0)]) → (kk : ∀ (w_112 : LV × KP) (H : Heap) (locs : List Loc) (ls : Array Slot), L_X6_passAll_112  n_112 i_112 lv_112 kp_112 = w_112 → va_P δ vwCl (wR cI cJ cZ aR0 aR1 aR2 aR3 aR4 aR5 aR6 aR7 aR8 aR9 aR10 aR11 aR12 aR13 aR14 aR15 aR16 aR17 aR18 aR19 aR20 aR21 w_112.1 (r_42, sSightHour sg, sSightOwned sg) pd ac dd hd le bd my lf pa w_112.2) H → va_D A (wR cI cJ cZ aR0 aR1 aR2 aR3 aR4 aR5 aR6 aR7 aR8 aR9 aR10 aR11 aR12 aR13 aR14 aR15 aR16 aR17 aR18 aR19 aR20 aR21 w_112.1 (r_42, sSightHour sg, sSightOwned sg) pd ac dd hd le bd my lf pa w_112.2) → va_S A s.heap H locs → lv_has ls 2 [(0, .ref aR0)] → W p l e rm_X6_passAll s m args below meth c H locs 0 0 Q (F0 m 141 ls [])) → W p l e rm_X6_passAll s m args below meth c H locs 0 0 Q (F0 m 112 ls []) := by
    intro n_112
    induction n_112 with
    | zero => intro i_112 lv_112 kp_112 H locs ls hi_112 hn_112 hk_112 hP hD hS hl kk; exact absurd hn_112 (by omega)
    | succ n_112 ih_112 =>
      intro i_112 lv_112 kp_112 H locs ls hi_112 hn_112 hk_112 hP hD hS hl kk
      have hR := L_X6_passAll_112_s  n_112 i_112 lv_112 kp_112
      refine lv_iload_n hx hb dX6_passAll_112 rfl (lv_at hl 0 rfl) ?_
      refine lv_sipush (v := (144 : Int32)) hx hb dX6_passAll_113 (by decide) ?_
      refine lv_icmp_ge (tgt := 141) hx hb dX6_passAll_116 (by decide) (fun c_116 => ?_) (fun c_116 => ?_)
      · have c_116 : ((144 : Int32) ≤ (nI i_112)) := c_116
        have hR := hR.trans (if_pos c_116)
        exact kk (lv_112, kp_112) H locs ls hR hP hD hS (lv_sub hl [1] rfl)
      · have c_116 : ¬ ((144 : Int32) ≤ (nI i_112)) := c_116
        have hR := hR.trans (if_neg c_116)
        have hlt_112 : i_112 < 144 := lt_g c_116 hi_112 (by decide)
        refine lv_aload_n hx hb dX6_passAll_119 rfl (lv_at hl 1 rfl) ?_
        refine va_get (D := δ) (ci := 6) (v := .ref aR4) (C := RX6) (T := TX6) (N := 34) hx hb hts hinX6 hown hK hP 0 rfl rfl 6 (by decide) (hts (.fieldLink RX6 19 "GloveHoursModel" "wearOf" "[I") (List.mem_of_getElem? (i := 8) rfl)) (fun _ h9 => h9) rfl dX6_passAll_120 ?_
        refine lv_iload_n hx hb dX6_passAll_123 rfl (lv_at hl 0 rfl) ?_
        refine lv_aload_n hx hb dX6_passAll_124 rfl (lv_at hl 1 rfl) ?_
        refine lv_aload_n hx hb dX6_passAll_125 rfl (lv_at hl 1 rfl) ?_
        refine va_get (D := δ) (ci := 6) (v := .ref aR4) (C := RX6) (T := TX6) (N := 34) hx hb hts hinX6 hown hK hP 0 rfl rfl 6 (by decide) (hts (.fieldLink RX6 19 "GloveHoursModel" "wearOf" "[I") (List.mem_of_getElem? (i := 8) rfl)) (fun _ h9 => h9) rfl dX6_passAll_126 ?_
        refine lv_iload_n hx hb dX6_passAll_129 rfl (lv_at hl 0 rfl) ?_
        refine va_iald hx hb hK hP 4 0 rfl rfl (vp_in_nI (by omega) (by decide)) dX6_passAll_130 ?_
        have hr := mrV (p := p) (e := e) (R := rm_X6_passAll) (below := below) (meth := meth) (H := H) (locs := locs) (ls := ls) (As := [.int ((vWearOf lv_112) (nI i_112).toNatClampNeg)]) (rest := [.int (nI i_112), .ref aR4]) (c_X6_pass l δ cI cJ cZ aR0 aR1 aR2 aR3 aR4 aR5 aR6 aR7 aR8 aR9 aR10 aR11 aR12 aR13 aR14 aR15 aR16 aR17 aR18 aR19 aR20 aR21 lv_112 (r_42, sSightHour sg, sSightOwned sg) pd ac dd hd le bd my lf pa kp_112 ((vWearOf lv_112) (nI i_112).toNatClampNeg) (vp_in_nIe hk_112 (by omega) (by decide))) hx hb hml hts hown hK hNW hP hD [0, 1, 2, 3, 4, 5, 6, 7, 8, 9, 10, 11, 12, 13, 14, 15, 16, 17, 18, 19, 20, 21] rfl rfl 6 0 rfl rfl (cwV 1 hts gX6_passAll_X6_pass rfl rfl rfl (by decide +kernel) ⟨(Nat.le_of_ble_eq_true rfl), (Nat.le_of_ble_eq_true rfl)⟩) rfl hl.1 rfl (Nat.le_of_ble_eq_true rfl) dX6_passAll_131
        refine mc_i (wr := ([] : va_W)) hr hP hD hS hA [0, 1, 2, 3, 4, 5, 6, 7, 8, 9, 10, 11, 12, 13, 14, 15, 16, 17, 18, 19, 20, 21] [] [0, 1, 2, 3, 4, 5, 6, 7, 8, 9, 10, 11, 12, 13, 14, 15, 16, 17, 18, 19, 20, 21] rfl rfl rfl rfl rfl (wn := fun u_131 => (wR cI cJ cZ aR0 aR1 aR2 aR3 aR4 aR5 aR6 aR7 aR8 aR9 aR10 aR11 aR12 aR13 aR14 aR15 aR16 aR17 aR18 aR19 aR20 aR21 lv_112 (r_42, sSightHour sg, sSightOwned sg) pd ac dd hd le bd my lf pa u_131)) (fun _ => rfl) (fun r_131 u_131 H locs hw_131 hP hD hS => ?_)
        have hP : va_P δ vwCl (wR cI cJ cZ aR0 aR1 aR2 aR3 aR4 aR5 aR6 aR7 aR8 aR9 aR10 aR11 aR12 aR13 aR14 aR15 aR16 aR17 aR18 aR19 aR20 aR21 lv_112 (r_42, sSightHour sg, sSightOwned sg) pd ac dd hd le bd my lf pa u_131) H := hP
        have hD : va_D A (wR cI cJ cZ aR0 aR1 aR2 aR3 aR4 aR5 aR6 aR7 aR8 aR9 aR10 aR11 aR12 aR13 aR14 aR15 aR16 aR17 aR18 aR19 aR20 aR21 lv_112 (r_42, sSightHour sg, sSightOwned sg) pd ac dd hd le bd my lf pa u_131) := hD
        have hR := bnd_eq hR hw_131.symm
        refine va_iast hx hb hK hP hD hS 4 0 rfl rfl (vp_in_nI (by omega) (by decide)) dX6_passAll_134 (fun H locs hP hD hS => ?_)
        have hP : va_P δ vwCl (wR cI cJ cZ aR0 aR1 aR2 aR3 aR4 aR5 aR6 aR7 aR8 aR9 aR10 aR11 aR12 aR13 aR14 aR15 aR16 aR17 aR18 aR19 aR20 aR21 (vCourtiers lv_112, vClock lv_112, vTears lv_112, vLeft lv_112, vRight lv_112, vScandals lv_112, (upd (vWearOf lv_112) (nI i_112).toNatClampNeg r_131)) (r_42, sSightHour sg, sSightOwned sg) pd ac dd hd le bd my lf pa u_131) H := hP
        have hD : va_D A (wR cI cJ cZ aR0 aR1 aR2 aR3 aR4 aR5 aR6 aR7 aR8 aR9 aR10 aR11 aR12 aR13 aR14 aR15 aR16 aR17 aR18 aR19 aR20 aR21 (vCourtiers lv_112, vClock lv_112, vTears lv_112, vLeft lv_112, vRight lv_112, vScandals lv_112, (upd (vWearOf lv_112) (nI i_112).toNatClampNeg r_131)) (r_42, sSightHour sg, sSightOwned sg) pd ac dd hd le bd my lf pa u_131) := hD
        refine lv_iinc (v := (nI (i_112 + 1))) (lv' := [(1, .int (nI (i_112 + 1))), (0, .ref aR0)]) hx hb dX6_passAll_135 hl (k := 0) rfl (nI_1 i_112) (by decide) rfl (fun ls hl => ?_)
        refine lv_goto (tgt := 112) hx hb dX6_passAll_138 (by decide) ?_
        exact ih_112 (i_112 + 1) (vCourtiers lv_112, vClock lv_112, vTears lv_112, vLeft lv_112, vRight lv_112, vScandals lv_112, (upd (vWearOf lv_112) (nI i_112).toNatClampNeg r_131)) u_131 _ _ _ (by omega) (by omega) (pass_at hw_131 hk_112) hP hD hS (lv_sub hl [0, 1] rfl) (fun w_112 H locs ls he hP hD hS hl => kk w_112 H locs ls (hR.trans he) hP hD hS hl)
  refine hloop_112 (144 + 1) 0 w_50.1 w_50.2 _ _ _ (by omega) (by omega) (pa50 hw_50 (pass_at hw_42 h3)) hP hD hS (lv_sub hl [0, 1] rfl) (fun w_112 H locs ls hw_112 hP hD hS hl => ?_)
  have hP : va_P δ vwCl (wR cI cJ cZ aR0 aR1 aR2 aR3 aR4 aR5 aR6 aR7 aR8 aR9 aR10 aR11 aR12 aR13 aR14 aR15 aR16 aR17 aR18 aR19 aR20 aR21 w_112.1 (r_42, sSightHour sg, sSightOwned sg) pd ac dd hd le bd my lf pa w_112.2) H := hP
  have hD : va_D A (wR cI cJ cZ aR0 aR1 aR2 aR3 aR4 aR5 aR6 aR7 aR8 aR9 aR10 aR11 aR12 aR13 aR14 aR15 aR16 aR17 aR18 aR19 aR20 aR21 w_112.1 (r_42, sSightHour sg, sSightOwned sg) pd ac dd hd le bd my lf pa w_112.2) := hD
  have hR := bnd_eq hR hw_112.symm
  refine lv_iconst (v := (0 : Int32)) hx hb dX6_passAll_141 (by decide) ?_
  refine lv_istore_n (lv' := [(1, .int (0 : Int32)), (0, .ref aR0)]) hx hb dX6_passAll_142 rfl hl (by decide) rfl (fun ls hl => ?_)
  have hloop_143 : ∀ (n_143 : Nat) (i_143 : Nat) (sg_143 : SG) (kp_143 : KP) (H : Heap) (locs : List Loc) (ls : Array Slot), (hi_143 : i_143 ≤ 8) → (hn_143 : 8 < i_143 + n_143) → (hk_143 : iKeptAt kp_143 = nI (nb + 166 + 2 * i_143)) → (hP : va_P δ vwCl (wR cI cJ cZ aR0 aR1 aR2 aR3 aR4 aR5 aR6 aR7 aR8 aR9 aR10 aR11 aR12 aR13 aR14 aR15 aR16 aR17 aR18 aR19 aR20 aR21 w_112.1 sg_143 pd ac dd hd le bd my lf pa kp_143) H) → (hD : va_D A (wR cI cJ cZ aR0 aR1 aR2 aR3 aR4 aR5 aR6 aR7 aR8 aR9 aR10 aR11 aR12 aR13 aR14 aR15 aR16 aR17 aR18 aR19 aR20 aR21 w_112.1 sg_143 pd ac dd hd le bd my lf pa kp_143)) → (hS : va_S A s.heap H locs) → (hl : lv_has ls 2 [(1, .int (nI i_143)), (0, .ref aR0)]) → (kk : ∀ (w_143 : SG × KP) (H : Heap) (locs : List Loc) (ls : Array Slot), L_X6_passAll_143  n_143 i_143 sg_143 kp_143 = w_143 → va_P δ vwCl (wR cI cJ cZ aR0 aR1 aR2 aR3 aR4 aR5 aR6 aR7 aR8 aR9 aR10 aR11 aR12 aR13 aR14 aR15 aR16 aR17 aR18 aR19 aR20 aR21 w_112.1 w_143.1 pd ac dd hd le bd my lf pa w_143.2) H → va_D A (wR cI cJ cZ aR0 aR1 aR2 aR3 aR4 aR5 aR6 aR7 aR8 aR9 aR10 aR11 aR12 aR13 aR14 aR15 aR16 aR17 aR18 aR19 aR20 aR21 w_112.1 w_143.1 pd ac dd hd le bd my lf pa w_143.2) → va_S A s.heap H locs → lv_has ls 2 [(0, .ref aR0)] → W p l e rm_X6_passAll s m args below meth c H locs 0 0 Q (F0 m 187 ls [])) → W p l e rm_X6_passAll s m args below meth c H locs 0 0 Q (F0 m 143 ls []) := by
    intro n_143
    induction n_143 with
    | zero => intro i_143 sg_143 kp_143 H locs ls hi_143 hn_143 hk_143 hP hD hS hl kk; exact absurd hn_143 (by omega)
    | succ n_143 ih_143 =>
      intro i_143 sg_143 kp_143 H locs ls hi_143 hn_143 hk_143 hP hD hS hl kk
      have hR := L_X6_passAll_143_s  n_143 i_143 sg_143 kp_143
      refine lv_iload_n hx hb dX6_passAll_143 rfl (lv_at hl 0 rfl) ?_
      refine lv_bipush (v := (8 : Int32)) hx hb dX6_passAll_144 (by decide) ?_
      refine lv_icmp_ge (tgt := 187) hx hb dX6_passAll_146 (by decide) (fun c_146 => ?_) (fun c_146 => ?_)
      · have c_146 : ((8 : Int32) ≤ (nI i_143)) := c_146
        have hR := hR.trans (if_pos c_146)
        exact kk (sg_143, kp_143) H locs ls hR hP hD hS (lv_sub hl [1] rfl)
      · have c_146 : ¬ ((8 : Int32) ≤ (nI i_143)) := c_146
        have hR := hR.trans (if_neg c_146)
        have hlt_143 : i_143 < 8 := lt_g c_146 hi_143 (by decide)
        refine lv_aload_n hx hb dX6_passAll_149 rfl (lv_at hl 1 rfl) ?_
        refine va_get (D := δ) (ci := 6) (v := .ref aR5) (C := RX6) (T := TX6) (N := 34) hx hb hts hinX6 hown hK hP 0 rfl rfl 7 (by decide) (hts (.fieldLink RX6 22 "GloveHoursModel" "sightHour" "[I") (List.mem_of_getElem? (i := 9) rfl)) (fun _ h9 => h9) rfl dX6_passAll_150 ?_
        refine lv_iload_n hx hb dX6_passAll_153 rfl (lv_at hl 0 rfl) ?_
        refine lv_aload_n hx hb dX6_passAll_154 rfl (lv_at hl 1 rfl) ?_
        refine lv_aload_n hx hb dX6_passAll_155 rfl (lv_at hl 1 rfl) ?_
        refine va_get (D := δ) (ci := 6) (v := .ref aR5) (C := RX6) (T := TX6) (N := 34) hx hb hts hinX6 hown hK hP 0 rfl rfl 7 (by decide) (hts (.fieldLink RX6 22 "GloveHoursModel" "sightHour" "[I") (List.mem_of_getElem? (i := 9) rfl)) (fun _ h9 => h9) rfl dX6_passAll_156 ?_
        refine lv_iload_n hx hb dX6_passAll_159 rfl (lv_at hl 0 rfl) ?_
        refine va_iald hx hb hK hP 5 0 rfl rfl (vp_in_nI (by omega) (by decide)) dX6_passAll_160 ?_
        have hr := mrV (p := p) (e := e) (R := rm_X6_passAll) (below := below) (meth := meth) (H := H) (locs := locs) (ls := ls) (As := [.int ((sSightHour sg_143) (nI i_143).toNatClampNeg)]) (rest := [.int (nI i_143), .ref aR5]) (c_X6_pass l δ cI cJ cZ aR0 aR1 aR2 aR3 aR4 aR5 aR6 aR7 aR8 aR9 aR10 aR11 aR12 aR13 aR14 aR15 aR16 aR17 aR18 aR19 aR20 aR21 w_112.1 sg_143 pd ac dd hd le bd my lf pa kp_143 ((sSightHour sg_143) (nI i_143).toNatClampNeg) (vp_in_nIe hk_143 (by omega) (by decide))) hx hb hml hts hown hK hNW hP hD [0, 1, 2, 3, 4, 5, 6, 7, 8, 9, 10, 11, 12, 13, 14, 15, 16, 17, 18, 19, 20, 21] rfl rfl 6 0 rfl rfl (cwV 1 hts gX6_passAll_X6_pass rfl rfl rfl (by decide +kernel) ⟨(Nat.le_of_ble_eq_true rfl), (Nat.le_of_ble_eq_true rfl)⟩) rfl hl.1 rfl (Nat.le_of_ble_eq_true rfl) dX6_passAll_161
        refine mc_i (wr := ([] : va_W)) hr hP hD hS hA [0, 1, 2, 3, 4, 5, 6, 7, 8, 9, 10, 11, 12, 13, 14, 15, 16, 17, 18, 19, 20, 21] [] [0, 1, 2, 3, 4, 5, 6, 7, 8, 9, 10, 11, 12, 13, 14, 15, 16, 17, 18, 19, 20, 21] rfl rfl rfl rfl rfl (wn := fun u_161 => (wR cI cJ cZ aR0 aR1 aR2 aR3 aR4 aR5 aR6 aR7 aR8 aR9 aR10 aR11 aR12 aR13 aR14 aR15 aR16 aR17 aR18 aR19 aR20 aR21 w_112.1 sg_143 pd ac dd hd le bd my lf pa u_161)) (fun _ => rfl) (fun r_161 u_161 H locs hw_161 hP hD hS => ?_)
        have hP : va_P δ vwCl (wR cI cJ cZ aR0 aR1 aR2 aR3 aR4 aR5 aR6 aR7 aR8 aR9 aR10 aR11 aR12 aR13 aR14 aR15 aR16 aR17 aR18 aR19 aR20 aR21 w_112.1 sg_143 pd ac dd hd le bd my lf pa u_161) H := hP
        have hD : va_D A (wR cI cJ cZ aR0 aR1 aR2 aR3 aR4 aR5 aR6 aR7 aR8 aR9 aR10 aR11 aR12 aR13 aR14 aR15 aR16 aR17 aR18 aR19 aR20 aR21 w_112.1 sg_143 pd ac dd hd le bd my lf pa u_161) := hD
        have hR := bnd_eq hR hw_161.symm
        refine va_iast hx hb hK hP hD hS 5 0 rfl rfl (vp_in_nI (by omega) (by decide)) dX6_passAll_164 (fun H locs hP hD hS => ?_)
        have hP : va_P δ vwCl (wR cI cJ cZ aR0 aR1 aR2 aR3 aR4 aR5 aR6 aR7 aR8 aR9 aR10 aR11 aR12 aR13 aR14 aR15 aR16 aR17 aR18 aR19 aR20 aR21 w_112.1 (sSights sg_143, (upd (sSightHour sg_143) (nI i_143).toNatClampNeg r_161), sSightOwned sg_143) pd ac dd hd le bd my lf pa u_161) H := hP
        have hD : va_D A (wR cI cJ cZ aR0 aR1 aR2 aR3 aR4 aR5 aR6 aR7 aR8 aR9 aR10 aR11 aR12 aR13 aR14 aR15 aR16 aR17 aR18 aR19 aR20 aR21 w_112.1 (sSights sg_143, (upd (sSightHour sg_143) (nI i_143).toNatClampNeg r_161), sSightOwned sg_143) pd ac dd hd le bd my lf pa u_161) := hD
        refine lv_aload_n hx hb dX6_passAll_165 rfl (lv_at hl 1 rfl) ?_
        refine va_get (D := δ) (ci := 6) (v := .ref aR6) (C := RX6) (T := TX6) (N := 34) hx hb hts hinX6 hown hK hP 0 rfl rfl 8 (by decide) (hts (.fieldLink RX6 25 "GloveHoursModel" "sightOwned" "[I") (List.mem_of_getElem? (i := 10) rfl)) (fun _ h9 => h9) rfl dX6_passAll_166 ?_
        refine lv_iload_n hx hb dX6_passAll_169 rfl (lv_at hl 0 rfl) ?_
        refine lv_aload_n hx hb dX6_passAll_170 rfl (lv_at hl 1 rfl) ?_
        refine lv_aload_n hx hb dX6_passAll_171 rfl (lv_at hl 1 rfl) ?_
        refine va_get (D := δ) (ci := 6) (v := .ref aR6) (C := RX6) (T := TX6) (N := 34) hx hb hts hinX6 hown hK hP 0 rfl rfl 8 (by decide) (hts (.fieldLink RX6 25 "GloveHoursModel" "sightOwned" "[I") (List.mem_of_getElem? (i := 10) rfl)) (fun _ h9 => h9) rfl dX6_passAll_172 ?_
        refine lv_iload_n hx hb dX6_passAll_175 rfl (lv_at hl 0 rfl) ?_
        refine va_iald hx hb hK hP 6 0 rfl rfl (vp_in_nI (by omega) (by decide)) dX6_passAll_176 ?_
        have hr := mrV (p := p) (e := e) (R := rm_X6_passAll) (below := below) (meth := meth) (H := H) (locs := locs) (ls := ls) (As := [.int ((sSightOwned sg_143) (nI i_143).toNatClampNeg)]) (rest := [.int (nI i_143), .ref aR6]) (c_X6_pass l δ cI cJ cZ aR0 aR1 aR2 aR3 aR4 aR5 aR6 aR7 aR8 aR9 aR10 aR11 aR12 aR13 aR14 aR15 aR16 aR17 aR18 aR19 aR20 aR21 w_112.1 (sSights sg_143, (upd (sSightHour sg_143) (nI i_143).toNatClampNeg r_161), sSightOwned sg_143) pd ac dd hd le bd my lf pa u_161 ((sSightOwned sg_143) (nI i_143).toNatClampNeg) (vp_in_nIe (pass_at hw_161 hk_143) (by omega) (by decide))) hx hb hml hts hown hK hNW hP hD [0, 1, 2, 3, 4, 5, 6, 7, 8, 9, 10, 11, 12, 13, 14, 15, 16, 17, 18, 19, 20, 21] rfl rfl 6 0 rfl rfl (cwV 1 hts gX6_passAll_X6_pass rfl rfl rfl (by decide +kernel) ⟨(Nat.le_of_ble_eq_true rfl), (Nat.le_of_ble_eq_true rfl)⟩) rfl hl.1 rfl (Nat.le_of_ble_eq_true rfl) dX6_passAll_177
        refine mc_i (wr := ([] : va_W)) hr hP hD hS hA [0, 1, 2, 3, 4, 5, 6, 7, 8, 9, 10, 11, 12, 13, 14, 15, 16, 17, 18, 19, 20, 21] [] [0, 1, 2, 3, 4, 5, 6, 7, 8, 9, 10, 11, 12, 13, 14, 15, 16, 17, 18, 19, 20, 21] rfl rfl rfl rfl rfl (wn := fun u_177 => (wR cI cJ cZ aR0 aR1 aR2 aR3 aR4 aR5 aR6 aR7 aR8 aR9 aR10 aR11 aR12 aR13 aR14 aR15 aR16 aR17 aR18 aR19 aR20 aR21 w_112.1 (sSights sg_143, (upd (sSightHour sg_143) (nI i_143).toNatClampNeg r_161), sSightOwned sg_143) pd ac dd hd le bd my lf pa u_177)) (fun _ => rfl) (fun r_177 u_177 H locs hw_177 hP hD hS => ?_)
        have hP : va_P δ vwCl (wR cI cJ cZ aR0 aR1 aR2 aR3 aR4 aR5 aR6 aR7 aR8 aR9 aR10 aR11 aR12 aR13 aR14 aR15 aR16 aR17 aR18 aR19 aR20 aR21 w_112.1 (sSights sg_143, (upd (sSightHour sg_143) (nI i_143).toNatClampNeg r_161), sSightOwned sg_143) pd ac dd hd le bd my lf pa u_177) H := hP
        have hD : va_D A (wR cI cJ cZ aR0 aR1 aR2 aR3 aR4 aR5 aR6 aR7 aR8 aR9 aR10 aR11 aR12 aR13 aR14 aR15 aR16 aR17 aR18 aR19 aR20 aR21 w_112.1 (sSights sg_143, (upd (sSightHour sg_143) (nI i_143).toNatClampNeg r_161), sSightOwned sg_143) pd ac dd hd le bd my lf pa u_177) := hD
        have hR := bnd_eq hR hw_177.symm
        refine va_iast hx hb hK hP hD hS 6 0 rfl rfl (vp_in_nI (by omega) (by decide)) dX6_passAll_180 (fun H locs hP hD hS => ?_)
        have hP : va_P δ vwCl (wR cI cJ cZ aR0 aR1 aR2 aR3 aR4 aR5 aR6 aR7 aR8 aR9 aR10 aR11 aR12 aR13 aR14 aR15 aR16 aR17 aR18 aR19 aR20 aR21 w_112.1 (sSights sg_143, (upd (sSightHour sg_143) (nI i_143).toNatClampNeg r_161), (upd (sSightOwned sg_143) (nI i_143).toNatClampNeg r_177)) pd ac dd hd le bd my lf pa u_177) H := hP
        have hD : va_D A (wR cI cJ cZ aR0 aR1 aR2 aR3 aR4 aR5 aR6 aR7 aR8 aR9 aR10 aR11 aR12 aR13 aR14 aR15 aR16 aR17 aR18 aR19 aR20 aR21 w_112.1 (sSights sg_143, (upd (sSightHour sg_143) (nI i_143).toNatClampNeg r_161), (upd (sSightOwned sg_143) (nI i_143).toNatClampNeg r_177)) pd ac dd hd le bd my lf pa u_177) := hD
        refine lv_iinc (v := (nI (i_143 + 1))) (lv' := [(1, .int (nI (i_143 + 1))), (0, .ref aR0)]) hx hb dX6_passAll_181 hl (k := 0) rfl (nI_1 i_143) (by decide) rfl (fun ls hl => ?_)
        refine lv_goto (tgt := 143) hx hb dX6_passAll_184 (by decide) ?_
        exact ih_143 (i_143 + 1) (sSights sg_143, (upd (sSightHour sg_143) (nI i_143).toNatClampNeg r_161), (upd (sSightOwned sg_143) (nI i_143).toNatClampNeg r_177)) u_177 _ _ _ (by omega) (by omega) (pass_2 hk_143 hw_161 hw_177) hP hD hS (lv_sub hl [0, 1] rfl) (fun w_143 H locs ls he hP hD hS hl => kk w_143 H locs ls (hR.trans he) hP hD hS hl)
  refine hloop_143 (8 + 1) 0 (r_42, sSightHour sg, sSightOwned sg) w_112.2 _ _ _ (by omega) (by omega) (pa112 hw_112 (pa50 hw_50 (pass_at hw_42 h3))) hP hD hS (lv_sub hl [0, 1] rfl) (fun w_143 H locs ls hw_143 hP hD hS hl => ?_)
  have hP : va_P δ vwCl (wR cI cJ cZ aR0 aR1 aR2 aR3 aR4 aR5 aR6 aR7 aR8 aR9 aR10 aR11 aR12 aR13 aR14 aR15 aR16 aR17 aR18 aR19 aR20 aR21 w_112.1 w_143.1 pd ac dd hd le bd my lf pa w_143.2) H := hP
  have hD : va_D A (wR cI cJ cZ aR0 aR1 aR2 aR3 aR4 aR5 aR6 aR7 aR8 aR9 aR10 aR11 aR12 aR13 aR14 aR15 aR16 aR17 aR18 aR19 aR20 aR21 w_112.1 w_143.1 pd ac dd hd le bd my lf pa w_143.2) := hD
  have hR := bnd_eq hR hw_143.symm
  exact hret _ _ (w_112.1, w_143.1, w_143.2) _ _ hR hP hD hS dX6_passAll_187

abbrev rm_X6_image : Room := { frames := 2, cells := 0, slots := 0, locals := 43 }
set_option maxHeartbeats 4000000 in
set_option maxRecDepth 100000 in
theorem c_X6_image (l : Launch) (δ : va_G) (cI cJ cZ : ClassId) (aR0 aR1 aR2 aR3 aR4 aR5 aR6 aR7 aR8 aR9 aR10 aR11 aR12 aR13 aR14 aR15 aR16 aR17 aR18 aR19 aR20 aR21 : Nat) (lv : LV) (sg : SG) (pd : PD) (ac : AC) (dd : DD) (hd : HD) (le : LE) (bd : BD) (my : MY) (lf : LF) (pa : PA) (kp : KP) (xk : Int32) : mMi l δ (mTy cI cJ cZ) yX6_image wsX6_image rm_X6_image [.ref aR0, .int xk] (wR cI cJ cZ aR0 aR1 aR2 aR3 aR4 aR5 aR6 aR7 aR8 aR9 aR10 aR11 aR12 aR13 aR14 aR15 aR16 aR17 aR18 aR19 aR20 aR21 lv sg pd ac dd hd le bd my lf pa kp) (S := LV × SG × KP) (fun r u => F_X6_image lv sg kp xk = (r, u)) (fun u => (wR cI cJ cZ aR0 aR1 aR2 aR3 aR4 aR5 aR6 aR7 aR8 aR9 aR10 aR11 aR12 aR13 aR14 aR15 aR16 aR17 aR18 aR19 aR20 aR21 u.1 u.2.1 pd ac dd hd le bd my lf pa u.2.2)) := by
  refine mk_i (cc := cX6_image) (maxL := 2) (by decide) rfl (Nat.le_of_ble_eq_true rfl) ?_
  intro p e s m args below meth c A Q ls H locs hx hb hml hts hown hK hNW hA hP hD hS hl hret
  have hown : s.vm.findClass RX6 = some m.cls := hown
  have hl : lv_has ls 2 [(0, .ref aR0), (1, .int xk)] := hl
  have hinX6 : ∀ w ∈ u_ws RX6 TX6 34, w ∈ wsX6_image := (fun _ h => List.mem_cons_of_mem _ (List.mem_append_right _ (h)))
  have hR := F_X6_image.eq_1 lv sg kp xk
  refine lv_iload_n hx hb dX6_image_0 rfl (lv_at hl 1 rfl) ?_
  refine lv_i2l (v := (xk.toInt64)) hx hb dX6_image_1 rfl ?_
  refine lv_lconst (v := (0 : Int64)) hx hb dX6_image_2 (by decide) ?_
  refine lv_lconst (v := (1 : Int64)) hx hb dX6_image_3 (by decide) ?_
  have hr := mrS (p := p) (e := e) (R := rm_X6_image) (below := below) (meth := meth) (H := H) (locs := locs) (ls := ls) (As := [.long (xk.toInt64), .long (0 : Int64), .long (1 : Int64)]) (rest := []) (c_X6_in l δ cI cJ cZ (xk.toInt64) (0 : Int64) (1 : Int64)) hx hb hml hts hown hK hNW hP hD [] rfl rfl (va_cwS 3 hts gX6_image_X6_in rfl rfl rfl (by decide +kernel) ⟨(Nat.le_of_ble_eq_true rfl), (Nat.le_of_ble_eq_true rfl)⟩) rfl hl.1 rfl (Nat.le_of_ble_eq_true rfl) dX6_image_4
  refine mc_i (wr := (wR cI cJ cZ aR0 aR1 aR2 aR3 aR4 aR5 aR6 aR7 aR8 aR9 aR10 aR11 aR12 aR13 aR14 aR15 aR16 aR17 aR18 aR19 aR20 aR21 lv sg pd ac dd hd le bd my lf pa kp)) hr hP hD hS hA [] [0, 1, 2, 3, 4, 5, 6, 7, 8, 9, 10, 11, 12, 13, 14, 15, 16, 17, 18, 19, 20, 21] [0, 1, 2, 3, 4, 5, 6, 7, 8, 9, 10, 11, 12, 13, 14, 15, 16, 17, 18, 19, 20, 21] rfl rfl rfl rfl rfl (wn := fun _ => (wR cI cJ cZ aR0 aR1 aR2 aR3 aR4 aR5 aR6 aR7 aR8 aR9 aR10 aR11 aR12 aR13 aR14 aR15 aR16 aR17 aR18 aR19 aR20 aR21 lv sg pd ac dd hd le bd my lf pa kp)) (fun _ => rfl) (fun r_4 _ H locs hw_4 hP hD hS => ?_)
  obtain ⟨hw_4, z_4⟩ := hw_4
  have hP : va_P δ vwCl (wR cI cJ cZ aR0 aR1 aR2 aR3 aR4 aR5 aR6 aR7 aR8 aR9 aR10 aR11 aR12 aR13 aR14 aR15 aR16 aR17 aR18 aR19 aR20 aR21 lv sg pd ac dd hd le bd my lf pa kp) H := hP
  have hD : va_D A (wR cI cJ cZ aR0 aR1 aR2 aR3 aR4 aR5 aR6 aR7 aR8 aR9 aR10 aR11 aR12 aR13 aR14 aR15 aR16 aR17 aR18 aR19 aR20 aR21 lv sg pd ac dd hd le bd my lf pa kp) := hD
  have hR := bnd_eq hR hw_4.symm
  refine lv_if_ne (tgt := 13) hx hb dX6_image_7 (by decide) (fun c_7 => ?_) (fun c_7 => ?_)
  · have c_7 : ¬ (r_4 = 0) := c_7
    have hR := hR.trans (if_neg c_7)
    refine lv_aload_n hx hb dX6_image_13 rfl (lv_at hl 0 rfl) ?_
    refine lv_sipush (v := (190 : Int32)) hx hb dX6_image_14 (by decide) ?_
    refine lv_iload_n hx hb dX6_image_17 rfl (lv_at hl 1 rfl) ?_
    refine lv_imul hx hb dX6_image_18 ?_
    refine va_put (D := δ) (ci := 6) (v := .int ((190 : Int32) * xk)) (ty := .int) (C := RX6) (T := TX6) (N := 34) hx hb hts hinX6 tyX6 tyX6_ok nmX6 hown hK hP hD hS 0 rfl rfl 32 (by decide) (hts (.fieldLink RX6 284 "GloveHoursModel" "keptAt" "I") (List.mem_of_getElem? (i := 1) rfl)) (fun _ h9 => h9) rfl (by decide +kernel) rfl rfl (Nat.le_of_ble_eq_true rfl) dX6_image_19 (fun H locs hP hD hS => ?_)
    have hP : va_P δ vwCl (wR cI cJ cZ aR0 aR1 aR2 aR3 aR4 aR5 aR6 aR7 aR8 aR9 aR10 aR11 aR12 aR13 aR14 aR15 aR16 aR17 aR18 aR19 aR20 aR21 lv sg pd ac dd hd le bd my lf pa (((190 : Int32) * xk), iIsWriting kp, iKept kp, iIsKept kp)) H := hP
    have hD : va_D A (wR cI cJ cZ aR0 aR1 aR2 aR3 aR4 aR5 aR6 aR7 aR8 aR9 aR10 aR11 aR12 aR13 aR14 aR15 aR16 aR17 aR18 aR19 aR20 aR21 lv sg pd ac dd hd le bd my lf pa (((190 : Int32) * xk), iIsWriting kp, iKept kp, iIsKept kp)) := hD
    refine lv_aload_n hx hb dX6_image_22 rfl (lv_at hl 0 rfl) ?_
    refine lv_iconst (v := (1 : Int32)) hx hb dX6_image_23 (by decide) ?_
    refine va_put (D := δ) (ci := 6) (v := .int (1 : Int32)) (ty := .boolean) (C := RX6) (T := TX6) (N := 34) hx hb hts hinX6 tyX6 tyX6_ok nmX6 hown hK hP hD hS 0 rfl rfl 33 (by decide) (hts (.fieldLink RX6 280 "GloveHoursModel" "isWriting" "Z") (List.mem_of_getElem? (i := 2) rfl)) (fun _ h9 => h9) rfl (by decide +kernel) rfl rfl (Nat.le_of_ble_eq_true rfl) dX6_image_24 (fun H locs hP hD hS => ?_)
    have hP : va_P δ vwCl (wR cI cJ cZ aR0 aR1 aR2 aR3 aR4 aR5 aR6 aR7 aR8 aR9 aR10 aR11 aR12 aR13 aR14 aR15 aR16 aR17 aR18 aR19 aR20 aR21 lv sg pd ac dd hd le bd my lf pa (((190 : Int32) * xk), (1 : Int32), iKept kp, iIsKept kp)) H := hP
    have hD : va_D A (wR cI cJ cZ aR0 aR1 aR2 aR3 aR4 aR5 aR6 aR7 aR8 aR9 aR10 aR11 aR12 aR13 aR14 aR15 aR16 aR17 aR18 aR19 aR20 aR21 lv sg pd ac dd hd le bd my lf pa (((190 : Int32) * xk), (1 : Int32), iKept kp, iIsKept kp)) := hD
    refine lv_aload_n hx hb dX6_image_27 rfl (lv_at hl 0 rfl) ?_
    have hr := mrV (p := p) (e := e) (R := rm_X6_image) (below := below) (meth := meth) (H := H) (locs := locs) (ls := ls) (As := []) (rest := []) (c_X6_passAll l δ cI cJ cZ aR0 aR1 aR2 aR3 aR4 aR5 aR6 aR7 aR8 aR9 aR10 aR11 aR12 aR13 aR14 aR15 aR16 aR17 aR18 aR19 aR20 aR21 lv sg pd ac dd hd le bd my lf pa (((190 : Int32) * xk), (1 : Int32), iKept kp, iIsKept kp) (190 * xk.toNatClampNeg) (im_at (in_in hw_4 c_7 (by decide))) (im_le (in_in hw_4 c_7 (by decide)))) hx hb hml hts hown hK hNW hP hD [0, 1, 2, 3, 4, 5, 6, 7, 8, 9, 10, 11, 12, 13, 14, 15, 16, 17, 18, 19, 20, 21] rfl rfl 6 0 rfl rfl (cwV 0 hts gX6_image_X6_passAll rfl rfl rfl (by decide +kernel) ⟨(Nat.le_of_ble_eq_true rfl), (Nat.le_of_ble_eq_true rfl)⟩) rfl hl.1 rfl (Nat.le_of_ble_eq_true rfl) dX6_image_28
    refine mc_v (wr := ([] : va_W)) hr hP hD hS hA [0, 1, 2, 3, 4, 5, 6, 7, 8, 9, 10, 11, 12, 13, 14, 15, 16, 17, 18, 19, 20, 21] [] [0, 1, 2, 3, 4, 5, 6, 7, 8, 9, 10, 11, 12, 13, 14, 15, 16, 17, 18, 19, 20, 21] rfl rfl rfl rfl rfl (wn := fun u_28 => (wR cI cJ cZ aR0 aR1 aR2 aR3 aR4 aR5 aR6 aR7 aR8 aR9 aR10 aR11 aR12 aR13 aR14 aR15 aR16 aR17 aR18 aR19 aR20 aR21 u_28.1 u_28.2.1 pd ac dd hd le bd my lf pa u_28.2.2)) (fun _ => rfl) (fun u_28 H locs hw_28 hP hD hS => ?_)
    have hP : va_P δ vwCl (wR cI cJ cZ aR0 aR1 aR2 aR3 aR4 aR5 aR6 aR7 aR8 aR9 aR10 aR11 aR12 aR13 aR14 aR15 aR16 aR17 aR18 aR19 aR20 aR21 u_28.1 u_28.2.1 pd ac dd hd le bd my lf pa u_28.2.2) H := hP
    have hD : va_D A (wR cI cJ cZ aR0 aR1 aR2 aR3 aR4 aR5 aR6 aR7 aR8 aR9 aR10 aR11 aR12 aR13 aR14 aR15 aR16 aR17 aR18 aR19 aR20 aR21 u_28.1 u_28.2.1 pd ac dd hd le bd my lf pa u_28.2.2) := hD
    have hR := bnd_eq hR hw_28.symm
    refine lv_aload_n hx hb dX6_image_31 rfl (lv_at hl 0 rfl) ?_
    refine va_get (D := δ) (ci := 6) (v := .ref aR21) (C := RX6) (T := TX6) (N := 34) hx hb hts hinX6 hown hK hP 0 rfl rfl 31 (by decide) (hts (.fieldLink RX6 71 "GloveHoursModel" "isKept" "[Z") (List.mem_of_getElem? (i := 3) rfl)) (fun _ h9 => h9) rfl dX6_image_32 ?_
    refine lv_iload_n hx hb dX6_image_35 rfl (lv_at hl 1 rfl) ?_
    refine lv_iconst (v := (1 : Int32)) hx hb dX6_image_36 (by decide) ?_
    refine va_zast hx hb hK hP hD hS 21 2 rfl rfl (in_in hw_4 c_7 (by decide)) dX6_image_37 (fun H locs hP hD hS => ?_)
    have hP : va_P δ vwCl (wR cI cJ cZ aR0 aR1 aR2 aR3 aR4 aR5 aR6 aR7 aR8 aR9 aR10 aR11 aR12 aR13 aR14 aR15 aR16 aR17 aR18 aR19 aR20 aR21 u_28.1 u_28.2.1 pd ac dd hd le bd my lf pa (iKeptAt u_28.2.2, iIsWriting u_28.2.2, iKept u_28.2.2, (upd (iIsKept u_28.2.2) xk.toNatClampNeg (1 : Int32)))) H := hP
    have hD : va_D A (wR cI cJ cZ aR0 aR1 aR2 aR3 aR4 aR5 aR6 aR7 aR8 aR9 aR10 aR11 aR12 aR13 aR14 aR15 aR16 aR17 aR18 aR19 aR20 aR21 u_28.1 u_28.2.1 pd ac dd hd le bd my lf pa (iKeptAt u_28.2.2, iIsWriting u_28.2.2, iKept u_28.2.2, (upd (iIsKept u_28.2.2) xk.toNatClampNeg (1 : Int32)))) := hD
    refine lv_iconst (v := (1 : Int32)) hx hb dX6_image_38 (by decide) ?_
    exact hret _ _ (1 : Int32) (u_28.1, u_28.2.1, (iKeptAt u_28.2.2, iIsWriting u_28.2.2, iKept u_28.2.2, (upd (iIsKept u_28.2.2) xk.toNatClampNeg (1 : Int32)))) _ _ hR hP hD hS dX6_image_39
  · have c_7 : (r_4 = 0) := c_7
    have hR := hR.trans (if_pos c_7)
    refine lv_bipush (v := (-2 : Int32)) hx hb dX6_image_10 (by decide) ?_
    exact hret _ _ (-2 : Int32) (lv, sg, kp) _ _ hR hP hD hS dX6_image_12

abbrev rm_X6_restore : Room := { frames := 2, cells := 0, slots := 0, locals := 43 }
set_option maxHeartbeats 4000000 in
set_option maxRecDepth 100000 in
theorem c_X6_restore (l : Launch) (δ : va_G) (cI cJ cZ : ClassId) (aR0 aR1 aR2 aR3 aR4 aR5 aR6 aR7 aR8 aR9 aR10 aR11 aR12 aR13 aR14 aR15 aR16 aR17 aR18 aR19 aR20 aR21 : Nat) (lv : LV) (sg : SG) (pd : PD) (ac : AC) (dd : DD) (hd : HD) (le : LE) (bd : BD) (my : MY) (lf : LF) (pa : PA) (kp : KP) (xk : Int32) : mMi l δ (mTy cI cJ cZ) yX6_restore wsX6_restore rm_X6_restore [.ref aR0, .int xk] (wR cI cJ cZ aR0 aR1 aR2 aR3 aR4 aR5 aR6 aR7 aR8 aR9 aR10 aR11 aR12 aR13 aR14 aR15 aR16 aR17 aR18 aR19 aR20 aR21 lv sg pd ac dd hd le bd my lf pa kp) (S := LV × SG × KP) (fun r u => F_X6_restore lv sg kp xk = (r, u)) (fun u => (wR cI cJ cZ aR0 aR1 aR2 aR3 aR4 aR5 aR6 aR7 aR8 aR9 aR10 aR11 aR12 aR13 aR14 aR15 aR16 aR17 aR18 aR19 aR20 aR21 u.1 u.2.1 pd ac dd hd le bd my lf pa u.2.2)) := by
  refine mk_i (cc := cX6_restore) (maxL := 2) (by decide) rfl (Nat.le_of_ble_eq_true rfl) ?_
  intro p e s m args below meth c A Q ls H locs hx hb hml hts hown hK hNW hA hP hD hS hl hret
  have hown : s.vm.findClass RX6 = some m.cls := hown
  have hl : lv_has ls 2 [(0, .ref aR0), (1, .int xk)] := hl
  have hinX6 : ∀ w ∈ u_ws RX6 TX6 34, w ∈ wsX6_restore := (fun _ h => List.mem_cons_of_mem _ (List.mem_append_right _ (h)))
  have hR := F_X6_restore.eq_1 lv sg kp xk
  refine lv_iload_n hx hb dX6_restore_0 rfl (lv_at hl 1 rfl) ?_
  refine lv_i2l (v := (xk.toInt64)) hx hb dX6_restore_1 rfl ?_
  refine lv_lconst (v := (0 : Int64)) hx hb dX6_restore_2 (by decide) ?_
  refine lv_lconst (v := (1 : Int64)) hx hb dX6_restore_3 (by decide) ?_
  have hr := mrS (p := p) (e := e) (R := rm_X6_restore) (below := below) (meth := meth) (H := H) (locs := locs) (ls := ls) (As := [.long (xk.toInt64), .long (0 : Int64), .long (1 : Int64)]) (rest := []) (c_X6_in l δ cI cJ cZ (xk.toInt64) (0 : Int64) (1 : Int64)) hx hb hml hts hown hK hNW hP hD [] rfl rfl (va_cwS 3 hts gX6_restore_X6_in rfl rfl rfl (by decide +kernel) ⟨(Nat.le_of_ble_eq_true rfl), (Nat.le_of_ble_eq_true rfl)⟩) rfl hl.1 rfl (Nat.le_of_ble_eq_true rfl) dX6_restore_4
  refine mc_i (wr := (wR cI cJ cZ aR0 aR1 aR2 aR3 aR4 aR5 aR6 aR7 aR8 aR9 aR10 aR11 aR12 aR13 aR14 aR15 aR16 aR17 aR18 aR19 aR20 aR21 lv sg pd ac dd hd le bd my lf pa kp)) hr hP hD hS hA [] [0, 1, 2, 3, 4, 5, 6, 7, 8, 9, 10, 11, 12, 13, 14, 15, 16, 17, 18, 19, 20, 21] [0, 1, 2, 3, 4, 5, 6, 7, 8, 9, 10, 11, 12, 13, 14, 15, 16, 17, 18, 19, 20, 21] rfl rfl rfl rfl rfl (wn := fun _ => (wR cI cJ cZ aR0 aR1 aR2 aR3 aR4 aR5 aR6 aR7 aR8 aR9 aR10 aR11 aR12 aR13 aR14 aR15 aR16 aR17 aR18 aR19 aR20 aR21 lv sg pd ac dd hd le bd my lf pa kp)) (fun _ => rfl) (fun r_4 _ H locs hw_4 hP hD hS => ?_)
  obtain ⟨hw_4, z_4⟩ := hw_4
  have hP : va_P δ vwCl (wR cI cJ cZ aR0 aR1 aR2 aR3 aR4 aR5 aR6 aR7 aR8 aR9 aR10 aR11 aR12 aR13 aR14 aR15 aR16 aR17 aR18 aR19 aR20 aR21 lv sg pd ac dd hd le bd my lf pa kp) H := hP
  have hD : va_D A (wR cI cJ cZ aR0 aR1 aR2 aR3 aR4 aR5 aR6 aR7 aR8 aR9 aR10 aR11 aR12 aR13 aR14 aR15 aR16 aR17 aR18 aR19 aR20 aR21 lv sg pd ac dd hd le bd my lf pa kp) := hD
  have hR := bnd_eq hR hw_4.symm
  refine lv_if_ne (tgt := 13) hx hb dX6_restore_7 (by decide) (fun c_7 => ?_) (fun c_7 => ?_)
  · have c_7 : ¬ (r_4 = 0) := c_7
    have hR := hR.trans (if_neg c_7)
    refine lv_aload_n hx hb dX6_restore_13 rfl (lv_at hl 0 rfl) ?_
    refine va_get (D := δ) (ci := 6) (v := .ref aR21) (C := RX6) (T := TX6) (N := 34) hx hb hts hinX6 hown hK hP 0 rfl rfl 31 (by decide) (hts (.fieldLink RX6 71 "GloveHoursModel" "isKept" "[Z") (List.mem_of_getElem? (i := 1) rfl)) (fun _ h9 => h9) rfl dX6_restore_14 ?_
    refine lv_iload_n hx hb dX6_restore_17 rfl (lv_at hl 1 rfl) ?_
    refine va_zald hx hb hK hP 21 2 rfl rfl (in_in hw_4 c_7 (by decide)) dX6_restore_18 ?_
    refine lv_if_ne (tgt := 25) hx hb dX6_restore_19 (by decide) (fun c_19 => ?_) (fun c_19 => ?_)
    · have c_19 : ¬ (((iIsKept kp) xk.toNatClampNeg) = 0) := c_19
      have hR := hR.trans (if_neg c_19)
      refine lv_aload_n hx hb dX6_restore_25 rfl (lv_at hl 0 rfl) ?_
      refine lv_sipush (v := (190 : Int32)) hx hb dX6_restore_26 (by decide) ?_
      refine lv_iload_n hx hb dX6_restore_29 rfl (lv_at hl 1 rfl) ?_
      refine lv_imul hx hb dX6_restore_30 ?_
      refine va_put (D := δ) (ci := 6) (v := .int ((190 : Int32) * xk)) (ty := .int) (C := RX6) (T := TX6) (N := 34) hx hb hts hinX6 tyX6 tyX6_ok nmX6 hown hK hP hD hS 0 rfl rfl 32 (by decide) (hts (.fieldLink RX6 284 "GloveHoursModel" "keptAt" "I") (List.mem_of_getElem? (i := 2) rfl)) (fun _ h9 => h9) rfl (by decide +kernel) rfl rfl (Nat.le_of_ble_eq_true rfl) dX6_restore_31 (fun H locs hP hD hS => ?_)
      have hP : va_P δ vwCl (wR cI cJ cZ aR0 aR1 aR2 aR3 aR4 aR5 aR6 aR7 aR8 aR9 aR10 aR11 aR12 aR13 aR14 aR15 aR16 aR17 aR18 aR19 aR20 aR21 lv sg pd ac dd hd le bd my lf pa (((190 : Int32) * xk), iIsWriting kp, iKept kp, iIsKept kp)) H := hP
      have hD : va_D A (wR cI cJ cZ aR0 aR1 aR2 aR3 aR4 aR5 aR6 aR7 aR8 aR9 aR10 aR11 aR12 aR13 aR14 aR15 aR16 aR17 aR18 aR19 aR20 aR21 lv sg pd ac dd hd le bd my lf pa (((190 : Int32) * xk), iIsWriting kp, iKept kp, iIsKept kp)) := hD
      refine lv_aload_n hx hb dX6_restore_34 rfl (lv_at hl 0 rfl) ?_
      refine lv_iconst (v := (0 : Int32)) hx hb dX6_restore_35 (by decide) ?_
      refine va_put (D := δ) (ci := 6) (v := .int (0 : Int32)) (ty := .boolean) (C := RX6) (T := TX6) (N := 34) hx hb hts hinX6 tyX6 tyX6_ok nmX6 hown hK hP hD hS 0 rfl rfl 33 (by decide) (hts (.fieldLink RX6 280 "GloveHoursModel" "isWriting" "Z") (List.mem_of_getElem? (i := 3) rfl)) (fun _ h9 => h9) rfl (by decide +kernel) rfl rfl (Nat.le_of_ble_eq_true rfl) dX6_restore_36 (fun H locs hP hD hS => ?_)
      have hP : va_P δ vwCl (wR cI cJ cZ aR0 aR1 aR2 aR3 aR4 aR5 aR6 aR7 aR8 aR9 aR10 aR11 aR12 aR13 aR14 aR15 aR16 aR17 aR18 aR19 aR20 aR21 lv sg pd ac dd hd le bd my lf pa (((190 : Int32) * xk), (0 : Int32), iKept kp, iIsKept kp)) H := hP
      have hD : va_D A (wR cI cJ cZ aR0 aR1 aR2 aR3 aR4 aR5 aR6 aR7 aR8 aR9 aR10 aR11 aR12 aR13 aR14 aR15 aR16 aR17 aR18 aR19 aR20 aR21 lv sg pd ac dd hd le bd my lf pa (((190 : Int32) * xk), (0 : Int32), iKept kp, iIsKept kp)) := hD
      refine lv_aload_n hx hb dX6_restore_39 rfl (lv_at hl 0 rfl) ?_
      have hr := mrV (p := p) (e := e) (R := rm_X6_restore) (below := below) (meth := meth) (H := H) (locs := locs) (ls := ls) (As := []) (rest := []) (c_X6_passAll l δ cI cJ cZ aR0 aR1 aR2 aR3 aR4 aR5 aR6 aR7 aR8 aR9 aR10 aR11 aR12 aR13 aR14 aR15 aR16 aR17 aR18 aR19 aR20 aR21 lv sg pd ac dd hd le bd my lf pa (((190 : Int32) * xk), (0 : Int32), iKept kp, iIsKept kp) (190 * xk.toNatClampNeg) (im_at (in_in hw_4 c_7 (by decide))) (im_le (in_in hw_4 c_7 (by decide)))) hx hb hml hts hown hK hNW hP hD [0, 1, 2, 3, 4, 5, 6, 7, 8, 9, 10, 11, 12, 13, 14, 15, 16, 17, 18, 19, 20, 21] rfl rfl 6 0 rfl rfl (cwV 0 hts gX6_restore_X6_passAll rfl rfl rfl (by decide +kernel) ⟨(Nat.le_of_ble_eq_true rfl), (Nat.le_of_ble_eq_true rfl)⟩) rfl hl.1 rfl (Nat.le_of_ble_eq_true rfl) dX6_restore_40
      refine mc_v (wr := ([] : va_W)) hr hP hD hS hA [0, 1, 2, 3, 4, 5, 6, 7, 8, 9, 10, 11, 12, 13, 14, 15, 16, 17, 18, 19, 20, 21] [] [0, 1, 2, 3, 4, 5, 6, 7, 8, 9, 10, 11, 12, 13, 14, 15, 16, 17, 18, 19, 20, 21] rfl rfl rfl rfl rfl (wn := fun u_40 => (wR cI cJ cZ aR0 aR1 aR2 aR3 aR4 aR5 aR6 aR7 aR8 aR9 aR10 aR11 aR12 aR13 aR14 aR15 aR16 aR17 aR18 aR19 aR20 aR21 u_40.1 u_40.2.1 pd ac dd hd le bd my lf pa u_40.2.2)) (fun _ => rfl) (fun u_40 H locs hw_40 hP hD hS => ?_)
      have hP : va_P δ vwCl (wR cI cJ cZ aR0 aR1 aR2 aR3 aR4 aR5 aR6 aR7 aR8 aR9 aR10 aR11 aR12 aR13 aR14 aR15 aR16 aR17 aR18 aR19 aR20 aR21 u_40.1 u_40.2.1 pd ac dd hd le bd my lf pa u_40.2.2) H := hP
      have hD : va_D A (wR cI cJ cZ aR0 aR1 aR2 aR3 aR4 aR5 aR6 aR7 aR8 aR9 aR10 aR11 aR12 aR13 aR14 aR15 aR16 aR17 aR18 aR19 aR20 aR21 u_40.1 u_40.2.1 pd ac dd hd le bd my lf pa u_40.2.2) := hD
      have hR := bnd_eq hR hw_40.symm
      refine lv_iconst (v := (1 : Int32)) hx hb dX6_restore_43 (by decide) ?_
      exact hret _ _ (1 : Int32) (u_40.1, u_40.2.1, u_40.2.2) _ _ hR hP hD hS dX6_restore_44
    · have c_19 : (((iIsKept kp) xk.toNatClampNeg) = 0) := c_19
      have hR := hR.trans (if_pos c_19)
      refine lv_bipush (v := (-3 : Int32)) hx hb dX6_restore_22 (by decide) ?_
      exact hret _ _ (-3 : Int32) (lv, sg, kp) _ _ hR hP hD hS dX6_restore_24
  · have c_7 : (r_4 = 0) := c_7
    have hR := hR.trans (if_pos c_7)
    refine lv_bipush (v := (-2 : Int32)) hx hb dX6_restore_10 (by decide) ?_
    exact hret _ _ (-2 : Int32) (lv, sg, kp) _ _ hR hP hD hS dX6_restore_12

abbrev rm_X6_toldOf : Room := { frames := 2, cells := 0, slots := 0, locals := 46 }
set_option maxHeartbeats 4000000 in
set_option maxRecDepth 100000 in
theorem c_X6_toldOf (l : Launch) (δ : va_G) (cI cJ cZ : ClassId) (aR0 aR1 aR2 aR3 aR4 aR5 aR6 aR7 aR8 aR9 aR10 aR11 aR12 aR13 aR14 aR15 aR16 aR17 aR18 aR19 aR20 aR21 : Nat) (lv : LV) (sg : SG) (pd : PD) (ac : AC) (dd : DD) (hd : HD) (le : LE) (bd : BD) (my : MY) (lf : LF) (pa : PA) (kp : KP) (xc : Int32) (xk : Int32) : mMi l δ (mTy cI cJ cZ) yX6_toldOf wsX6_toldOf rm_X6_toldOf [.ref aR0, .int xc, .int xk] (wR cI cJ cZ aR0 aR1 aR2 aR3 aR4 aR5 aR6 aR7 aR8 aR9 aR10 aR11 aR12 aR13 aR14 aR15 aR16 aR17 aR18 aR19 aR20 aR21 lv sg pd ac dd hd le bd my lf pa kp) (S := Unit) (fun r _ => F_X6_toldOf lv xc xk = r) (fun _ => (wR cI cJ cZ aR0 aR1 aR2 aR3 aR4 aR5 aR6 aR7 aR8 aR9 aR10 aR11 aR12 aR13 aR14 aR15 aR16 aR17 aR18 aR19 aR20 aR21 lv sg pd ac dd hd le bd my lf pa kp)) := by
  refine mk_i (cc := cX6_toldOf) (maxL := 3) (by decide) rfl (Nat.le_of_ble_eq_true rfl) ?_
  intro p e s m args below meth c A Q ls H locs hx hb hml hts hown hK hNW hA hP hD hS hl hret
  have hown : s.vm.findClass RX6 = some m.cls := hown
  have hl : lv_has ls 3 [(0, .ref aR0), (1, .int xc), (2, .int xk)] := hl
  have hinX6 : ∀ w ∈ u_ws RX6 TX6 34, w ∈ wsX6_toldOf := (fun _ h => List.mem_cons_of_mem _ (List.mem_append_right _ (h)))
  have hR := F_X6_toldOf.eq_1 lv xc xk
  refine lv_aload_n hx hb dX6_toldOf_0 rfl (lv_at hl 0 rfl) ?_
  refine lv_iload_n hx hb dX6_toldOf_1 rfl (lv_at hl 1 rfl) ?_
  have hr := mrV (p := p) (e := e) (R := rm_X6_toldOf) (below := below) (meth := meth) (H := H) (locs := locs) (ls := ls) (As := [.int xc]) (rest := []) (c_X6_isCourtier l δ cI cJ cZ aR0 aR1 aR2 aR3 aR4 aR5 aR6 aR7 aR8 aR9 aR10 aR11 aR12 aR13 aR14 aR15 aR16 aR17 aR18 aR19 aR20 aR21 lv sg pd ac dd hd le bd my lf pa kp xc) hx hb hml hts hown hK hNW hP hD [0, 1, 2, 3, 4, 5, 6, 7, 8, 9, 10, 11, 12, 13, 14, 15, 16, 17, 18, 19, 20, 21] rfl rfl 6 0 rfl rfl (cwV 1 hts gX6_toldOf_X6_isCourtier rfl rfl rfl (by decide +kernel) ⟨(Nat.le_of_ble_eq_true rfl), (Nat.le_of_ble_eq_true rfl)⟩) rfl hl.1 rfl (Nat.le_of_ble_eq_true rfl) dX6_toldOf_2
  refine mc_i (wr := ([] : va_W)) hr hP hD hS hA [0, 1, 2, 3, 4, 5, 6, 7, 8, 9, 10, 11, 12, 13, 14, 15, 16, 17, 18, 19, 20, 21] [] [0, 1, 2, 3, 4, 5, 6, 7, 8, 9, 10, 11, 12, 13, 14, 15, 16, 17, 18, 19, 20, 21] rfl rfl rfl rfl rfl (wn := fun _ => (wR cI cJ cZ aR0 aR1 aR2 aR3 aR4 aR5 aR6 aR7 aR8 aR9 aR10 aR11 aR12 aR13 aR14 aR15 aR16 aR17 aR18 aR19 aR20 aR21 lv sg pd ac dd hd le bd my lf pa kp)) (fun _ => rfl) (fun r_2 _ H locs hw_2 hP hD hS => ?_)
  obtain ⟨hw_2, z_2⟩ := hw_2
  have hP : va_P δ vwCl (wR cI cJ cZ aR0 aR1 aR2 aR3 aR4 aR5 aR6 aR7 aR8 aR9 aR10 aR11 aR12 aR13 aR14 aR15 aR16 aR17 aR18 aR19 aR20 aR21 lv sg pd ac dd hd le bd my lf pa kp) H := hP
  have hD : va_D A (wR cI cJ cZ aR0 aR1 aR2 aR3 aR4 aR5 aR6 aR7 aR8 aR9 aR10 aR11 aR12 aR13 aR14 aR15 aR16 aR17 aR18 aR19 aR20 aR21 lv sg pd ac dd hd le bd my lf pa kp) := hD
  have hR := bnd_eq hR hw_2.symm
  refine lv_if_ne (tgt := 11) hx hb dX6_toldOf_5 (by decide) (fun c_5 => ?_) (fun c_5 => ?_)
  · have c_5 : ¬ (r_2 = 0) := c_5
    have hR := hR.trans (if_neg c_5)
    refine lv_iload_n hx hb dX6_toldOf_11 rfl (lv_at hl 2 rfl) ?_
    refine lv_if_ne (tgt := 24) hx hb dX6_toldOf_12 (by decide) (fun c_12 => ?_) (fun c_12 => ?_)
    · have c_12 : ¬ (xk = 0) := c_12
      have hR := hR.trans (if_neg c_12)
      refine lv_iload_n hx hb dX6_toldOf_24 rfl (lv_at hl 2 rfl) ?_
      refine lv_iconst (v := (1 : Int32)) hx hb dX6_toldOf_25 (by decide) ?_
      refine lv_icmp_ne (tgt := 38) hx hb dX6_toldOf_26 (by decide) (fun c_26 => ?_) (fun c_26 => ?_)
      · have c_26 : ¬ (xk = (1 : Int32)) := c_26
        have hR := hR.trans (if_neg c_26)
        refine lv_iload_n hx hb dX6_toldOf_38 rfl (lv_at hl 2 rfl) ?_
        refine lv_iconst (v := (2 : Int32)) hx hb dX6_toldOf_39 (by decide) ?_
        refine lv_icmp_ne (tgt := 52) hx hb dX6_toldOf_40 (by decide) (fun c_40 => ?_) (fun c_40 => ?_)
        · have c_40 : ¬ (xk = (2 : Int32)) := c_40
          have hR := hR.trans (if_neg c_40)
          refine lv_bipush (v := (-2 : Int32)) hx hb dX6_toldOf_52 (by decide) ?_
          exact hret _ _ (-2 : Int32) () _ _ hR hP hD hS dX6_toldOf_54
        · have c_40 : (xk = (2 : Int32)) := c_40
          have hR := hR.trans (if_pos c_40)
          refine lv_aload_n hx hb dX6_toldOf_43 rfl (lv_at hl 0 rfl) ?_
          refine va_get (D := δ) (ci := 6) (v := .ref aR3) (C := RX6) (T := TX6) (N := 34) hx hb hts hinX6 hown hK hP 0 rfl rfl 5 (by decide) (hts (.fieldLink RX6 16 "GloveHoursModel" "scandals" "[I") (List.mem_of_getElem? (i := 3) rfl)) (fun _ h9 => h9) rfl dX6_toldOf_44 ?_
          refine lv_iload_n hx hb dX6_toldOf_47 rfl (lv_at hl 1 rfl) ?_
          refine va_iald hx hb hK hP 3 0 rfl rfl (court_in hw_2 c_5) dX6_toldOf_48 ?_
          refine lv_goto (tgt := 54) hx hb dX6_toldOf_49 (by decide) ?_
          exact hret _ _ ((vScandals lv) xc.toNatClampNeg) () _ _ hR hP hD hS dX6_toldOf_54
      · have c_26 : (xk = (1 : Int32)) := c_26
        have hR := hR.trans (if_pos c_26)
        refine lv_aload_n hx hb dX6_toldOf_29 rfl (lv_at hl 0 rfl) ?_
        refine va_get (D := δ) (ci := 6) (v := .ref aR2) (C := RX6) (T := TX6) (N := 34) hx hb hts hinX6 hown hK hP 0 rfl rfl 4 (by decide) (hts (.fieldLink RX6 13 "GloveHoursModel" "right" "[I") (List.mem_of_getElem? (i := 2) rfl)) (fun _ h9 => h9) rfl dX6_toldOf_30 ?_
        refine lv_iload_n hx hb dX6_toldOf_33 rfl (lv_at hl 1 rfl) ?_
        refine va_iald hx hb hK hP 2 0 rfl rfl (court_in hw_2 c_5) dX6_toldOf_34 ?_
        refine lv_goto (tgt := 54) hx hb dX6_toldOf_35 (by decide) ?_
        exact hret _ _ ((vRight lv) xc.toNatClampNeg) () _ _ hR hP hD hS dX6_toldOf_54
    · have c_12 : (xk = 0) := c_12
      have hR := hR.trans (if_pos c_12)
      refine lv_aload_n hx hb dX6_toldOf_15 rfl (lv_at hl 0 rfl) ?_
      refine va_get (D := δ) (ci := 6) (v := .ref aR1) (C := RX6) (T := TX6) (N := 34) hx hb hts hinX6 hown hK hP 0 rfl rfl 3 (by decide) (hts (.fieldLink RX6 7 "GloveHoursModel" "left" "[I") (List.mem_of_getElem? (i := 1) rfl)) (fun _ h9 => h9) rfl dX6_toldOf_16 ?_
      refine lv_iload_n hx hb dX6_toldOf_19 rfl (lv_at hl 1 rfl) ?_
      refine va_iald hx hb hK hP 1 0 rfl rfl (court_in hw_2 c_5) dX6_toldOf_20 ?_
      refine lv_goto (tgt := 54) hx hb dX6_toldOf_21 (by decide) ?_
      exact hret _ _ ((vLeft lv) xc.toNatClampNeg) () _ _ hR hP hD hS dX6_toldOf_54
  · have c_5 : (r_2 = 0) := c_5
    have hR := hR.trans (if_pos c_5)
    refine lv_bipush (v := (-2 : Int32)) hx hb dX6_toldOf_8 (by decide) ?_
    exact hret _ _ (-2 : Int32) () _ _ hR hP hD hS dX6_toldOf_10

abbrev rm_X6_told : Room := { frames := 3, cells := 0, slots := 0, locals := 68 }
set_option maxHeartbeats 4000000 in
set_option maxRecDepth 100000 in
theorem c_X6_told (l : Launch) (δ : va_G) (cI cJ cZ : ClassId) (aR0 aR1 aR2 aR3 aR4 aR5 aR6 aR7 aR8 aR9 aR10 aR11 aR12 aR13 aR14 aR15 aR16 aR17 aR18 aR19 aR20 aR21 : Nat) (lv : LV) (sg : SG) (pd : PD) (ac : AC) (dd : DD) (hd : HD) (le : LE) (bd : BD) (my : MY) (lf : LF) (pa : PA) (kp : KP) (xw : Int32) : mMi l δ (mTy cI cJ cZ) yX6_told wsX6_told rm_X6_told [.ref aR0, .int xw] (wR cI cJ cZ aR0 aR1 aR2 aR3 aR4 aR5 aR6 aR7 aR8 aR9 aR10 aR11 aR12 aR13 aR14 aR15 aR16 aR17 aR18 aR19 aR20 aR21 lv sg pd ac dd hd le bd my lf pa kp) (S := Unit) (fun r _ => F_X6_told lv sg pd xw = r) (fun _ => (wR cI cJ cZ aR0 aR1 aR2 aR3 aR4 aR5 aR6 aR7 aR8 aR9 aR10 aR11 aR12 aR13 aR14 aR15 aR16 aR17 aR18 aR19 aR20 aR21 lv sg pd ac dd hd le bd my lf pa kp)) := by
  refine mk_i (cc := cX6_told) (maxL := 3) (by decide) rfl (Nat.le_of_ble_eq_true rfl) ?_
  intro p e s m args below meth c A Q ls H locs hx hb hml hts hown hK hNW hA hP hD hS hl hret
  have hown : s.vm.findClass RX6 = some m.cls := hown
  have hl : lv_has ls 3 [(0, .ref aR0), (1, .int xw)] := hl
  have hinX6 : ∀ w ∈ u_ws RX6 TX6 34, w ∈ wsX6_told := (fun _ h => List.mem_cons_of_mem _ (List.mem_append_right _ (h)))
  have hR := F_X6_told.eq_1 lv sg pd xw
  refine lv_iload_n hx hb dX6_told_0 rfl (lv_at hl 1 rfl) ?_
  refine lv_i2l (v := (xw.toInt64)) hx hb dX6_told_1 rfl ?_
  refine lv_ldc2 (v := (100 : Int64)) hx hb hown (hts (.constantLong RX6 293 (100)) (List.mem_of_getElem? (i := 1) rfl)) dX6_told_2 ?_
  refine lv_ldc2 (v := (699 : Int64)) hx hb hown (hts (.constantLong RX6 295 (699)) (List.mem_of_getElem? (i := 2) rfl)) dX6_told_5 ?_
  have hr := mrS (p := p) (e := e) (R := rm_X6_told) (below := below) (meth := meth) (H := H) (locs := locs) (ls := ls) (As := [.long (xw.toInt64), .long (100 : Int64), .long (699 : Int64)]) (rest := []) (c_X6_in l δ cI cJ cZ (xw.toInt64) (100 : Int64) (699 : Int64)) hx hb hml hts hown hK hNW hP hD [] rfl rfl (va_cwS 3 hts gX6_told_X6_in rfl rfl rfl (by decide +kernel) ⟨(Nat.le_of_ble_eq_true rfl), (Nat.le_of_ble_eq_true rfl)⟩) rfl hl.1 rfl (Nat.le_of_ble_eq_true rfl) dX6_told_8
  refine mc_i (wr := (wR cI cJ cZ aR0 aR1 aR2 aR3 aR4 aR5 aR6 aR7 aR8 aR9 aR10 aR11 aR12 aR13 aR14 aR15 aR16 aR17 aR18 aR19 aR20 aR21 lv sg pd ac dd hd le bd my lf pa kp)) hr hP hD hS hA [] [0, 1, 2, 3, 4, 5, 6, 7, 8, 9, 10, 11, 12, 13, 14, 15, 16, 17, 18, 19, 20, 21] [0, 1, 2, 3, 4, 5, 6, 7, 8, 9, 10, 11, 12, 13, 14, 15, 16, 17, 18, 19, 20, 21] rfl rfl rfl rfl rfl (wn := fun _ => (wR cI cJ cZ aR0 aR1 aR2 aR3 aR4 aR5 aR6 aR7 aR8 aR9 aR10 aR11 aR12 aR13 aR14 aR15 aR16 aR17 aR18 aR19 aR20 aR21 lv sg pd ac dd hd le bd my lf pa kp)) (fun _ => rfl) (fun r_8 _ H locs hw_8 hP hD hS => ?_)
  obtain ⟨hw_8, z_8⟩ := hw_8
  have hP : va_P δ vwCl (wR cI cJ cZ aR0 aR1 aR2 aR3 aR4 aR5 aR6 aR7 aR8 aR9 aR10 aR11 aR12 aR13 aR14 aR15 aR16 aR17 aR18 aR19 aR20 aR21 lv sg pd ac dd hd le bd my lf pa kp) H := hP
  have hD : va_D A (wR cI cJ cZ aR0 aR1 aR2 aR3 aR4 aR5 aR6 aR7 aR8 aR9 aR10 aR11 aR12 aR13 aR14 aR15 aR16 aR17 aR18 aR19 aR20 aR21 lv sg pd ac dd hd le bd my lf pa kp) := hD
  have hR := bnd_eq hR hw_8.symm
  refine lv_if_eq (tgt := 58) hx hb dX6_told_11 (by decide) (fun c_11 => ?_) (fun c_11 => ?_)
  · have c_11 : (r_8 = 0) := c_11
    have hR := hR.trans (if_pos c_11)
    refine lv_iload_n hx hb dX6_told_58 rfl (lv_at hl 1 rfl) ?_
    refine lv_i2l (v := (xw.toInt64)) hx hb dX6_told_59 rfl ?_
    refine lv_ldc2 (v := (10 : Int64)) hx hb hown (hts (.constantLong RX6 262 (10)) (List.mem_of_getElem? (i := 4) rfl)) dX6_told_60 ?_
    refine lv_ldc2 (v := (69 : Int64)) hx hb hown (hts (.constantLong RX6 297 (69)) (List.mem_of_getElem? (i := 5) rfl)) dX6_told_63 ?_
    have hr := mrS (p := p) (e := e) (R := rm_X6_told) (below := below) (meth := meth) (H := H) (locs := locs) (ls := ls) (As := [.long (xw.toInt64), .long (10 : Int64), .long (69 : Int64)]) (rest := []) (c_X6_in l δ cI cJ cZ (xw.toInt64) (10 : Int64) (69 : Int64)) hx hb hml hts hown hK hNW hP hD [] rfl rfl (va_cwS 3 hts gX6_told_X6_in rfl rfl rfl (by decide +kernel) ⟨(Nat.le_of_ble_eq_true rfl), (Nat.le_of_ble_eq_true rfl)⟩) rfl hl.1 rfl (Nat.le_of_ble_eq_true rfl) dX6_told_66
    refine mc_i (wr := (wR cI cJ cZ aR0 aR1 aR2 aR3 aR4 aR5 aR6 aR7 aR8 aR9 aR10 aR11 aR12 aR13 aR14 aR15 aR16 aR17 aR18 aR19 aR20 aR21 lv sg pd ac dd hd le bd my lf pa kp)) hr hP hD hS hA [] [0, 1, 2, 3, 4, 5, 6, 7, 8, 9, 10, 11, 12, 13, 14, 15, 16, 17, 18, 19, 20, 21] [0, 1, 2, 3, 4, 5, 6, 7, 8, 9, 10, 11, 12, 13, 14, 15, 16, 17, 18, 19, 20, 21] rfl rfl rfl rfl rfl (wn := fun _ => (wR cI cJ cZ aR0 aR1 aR2 aR3 aR4 aR5 aR6 aR7 aR8 aR9 aR10 aR11 aR12 aR13 aR14 aR15 aR16 aR17 aR18 aR19 aR20 aR21 lv sg pd ac dd hd le bd my lf pa kp)) (fun _ => rfl) (fun r_66 _ H locs hw_66 hP hD hS => ?_)
    obtain ⟨hw_66, z_66⟩ := hw_66
    have hP : va_P δ vwCl (wR cI cJ cZ aR0 aR1 aR2 aR3 aR4 aR5 aR6 aR7 aR8 aR9 aR10 aR11 aR12 aR13 aR14 aR15 aR16 aR17 aR18 aR19 aR20 aR21 lv sg pd ac dd hd le bd my lf pa kp) H := hP
    have hD : va_D A (wR cI cJ cZ aR0 aR1 aR2 aR3 aR4 aR5 aR6 aR7 aR8 aR9 aR10 aR11 aR12 aR13 aR14 aR15 aR16 aR17 aR18 aR19 aR20 aR21 lv sg pd ac dd hd le bd my lf pa kp) := hD
    have hR := bnd_eq hR hw_66.symm
    refine lv_if_eq (tgt := 87) hx hb dX6_told_69 (by decide) (fun c_69 => ?_) (fun c_69 => ?_)
    · have c_69 : (r_66 = 0) := c_69
      have hR := hR.trans (if_pos c_69)
      refine lv_iload_n hx hb dX6_told_87 rfl (lv_at hl 1 rfl) ?_
      by_cases c_88_0 : xw = (0 : Int32)
      · have hR := hR.trans (if_pos c_88_0)
        refine lv_tableIn (tgt := 124) (off := 36) hx hb dX6_told_88 (by rw [c_88_0]; decide) (by rw [c_88_0]; decide) (by rw [c_88_0]; rfl) (by decide) ?_
        refine lv_aload_n hx hb dX6_told_124 rfl (lv_at hl 0 rfl) ?_
        refine va_get (D := δ) (ci := 6) (v := .int (qPadMany pd)) (C := RX6) (T := TX6) (N := 34) hx hb hts hinX6 hown hK hP 0 rfl rfl 11 (by decide) (hts (.fieldLink RX6 117 "GloveHoursModel" "padMany" "I") (List.mem_of_getElem? (i := 6) rfl)) (fun _ h9 => h9) rfl dX6_told_125 ?_
        exact hret _ _ (qPadMany pd) () _ _ hR hP hD hS dX6_told_128
      have hR := hR.trans (if_neg c_88_0)
      by_cases c_88_1 : xw = (1 : Int32)
      · have hR := hR.trans (if_pos c_88_1)
        refine lv_tableIn (tgt := 129) (off := 41) hx hb dX6_told_88 (by rw [c_88_1]; decide) (by rw [c_88_1]; decide) (by rw [c_88_1]; rfl) (by decide) ?_
        refine lv_aload_n hx hb dX6_told_129 rfl (lv_at hl 0 rfl) ?_
        refine va_get (D := δ) (ci := 6) (v := .int (vCourtiers lv)) (C := RX6) (T := TX6) (N := 34) hx hb hts hinX6 hown hK hP 0 rfl rfl 0 (by decide) (hts (.fieldLink RX6 87 "GloveHoursModel" "courtiers" "I") (List.mem_of_getElem? (i := 7) rfl)) (fun _ h9 => h9) rfl dX6_told_130 ?_
        exact hret _ _ (vCourtiers lv) () _ _ hR hP hD hS dX6_told_133
      have hR := hR.trans (if_neg c_88_1)
      by_cases c_88_2 : xw = (2 : Int32)
      · have hR := hR.trans (if_pos c_88_2)
        refine lv_tableIn (tgt := 134) (off := 46) hx hb dX6_told_88 (by rw [c_88_2]; decide) (by rw [c_88_2]; decide) (by rw [c_88_2]; rfl) (by decide) ?_
        refine lv_aload_n hx hb dX6_told_134 rfl (lv_at hl 0 rfl) ?_
        refine va_get (D := δ) (ci := 6) (v := .int (vClock lv)) (C := RX6) (T := TX6) (N := 34) hx hb hts hinX6 hown hK hP 0 rfl rfl 1 (by decide) (hts (.fieldLink RX6 110 "GloveHoursModel" "clock" "I") (List.mem_of_getElem? (i := 8) rfl)) (fun _ h9 => h9) rfl dX6_told_135 ?_
        exact hret _ _ (vClock lv) () _ _ hR hP hD hS dX6_told_138
      have hR := hR.trans (if_neg c_88_2)
      by_cases c_88_3 : xw = (3 : Int32)
      · have hR := hR.trans (if_pos c_88_3)
        refine lv_tableIn (tgt := 139) (off := 51) hx hb dX6_told_88 (by rw [c_88_3]; decide) (by rw [c_88_3]; decide) (by rw [c_88_3]; rfl) (by decide) ?_
        refine lv_aload_n hx hb dX6_told_139 rfl (lv_at hl 0 rfl) ?_
        refine va_get (D := δ) (ci := 6) (v := .int (vTears lv)) (C := RX6) (T := TX6) (N := 34) hx hb hts hinX6 hown hK hP 0 rfl rfl 2 (by decide) (hts (.fieldLink RX6 75 "GloveHoursModel" "tears" "I") (List.mem_of_getElem? (i := 9) rfl)) (fun _ h9 => h9) rfl dX6_told_140 ?_
        exact hret _ _ (vTears lv) () _ _ hR hP hD hS dX6_told_143
      have hR := hR.trans (if_neg c_88_3)
      by_cases c_88_4 : xw = (4 : Int32)
      · have hR := hR.trans (if_pos c_88_4)
        refine lv_tableIn (tgt := 144) (off := 56) hx hb dX6_told_88 (by rw [c_88_4]; decide) (by rw [c_88_4]; decide) (by rw [c_88_4]; rfl) (by decide) ?_
        refine lv_aload_n hx hb dX6_told_144 rfl (lv_at hl 0 rfl) ?_
        refine va_get (D := δ) (ci := 6) (v := .int (sSights sg)) (C := RX6) (T := TX6) (N := 34) hx hb hts hinX6 hown hK hP 0 rfl rfl 9 (by decide) (hts (.fieldLink RX6 252 "GloveHoursModel" "sights" "I") (List.mem_of_getElem? (i := 10) rfl)) (fun _ h9 => h9) rfl dX6_told_145 ?_
        exact hret _ _ (sSights sg) () _ _ hR hP hD hS dX6_told_148
      have hR := hR.trans (if_neg c_88_4)
      refine lv_tableOut (tgt := 149) hx hb dX6_told_88 (by have e0 : xw.toInt ≠ 0 := fun e => c_88_0 (Int32.toInt_inj.mp e); have e1 : xw.toInt ≠ 1 := fun e => c_88_1 (Int32.toInt_inj.mp e); have e2 : xw.toInt ≠ 2 := fun e => c_88_2 (Int32.toInt_inj.mp e); have e3 : xw.toInt ≠ 3 := fun e => c_88_3 (Int32.toInt_inj.mp e); have e4 : xw.toInt ≠ 4 := fun e => c_88_4 (Int32.toInt_inj.mp e); omega) (by decide) ?_
      refine lv_bipush (v := (-2 : Int32)) hx hb dX6_told_149 (by decide) ?_
      exact hret _ _ (-2 : Int32) () _ _ hR hP hD hS dX6_told_151
    · have c_69 : ¬ (r_66 = 0) := c_69
      have hR := hR.trans (if_neg c_69)
      refine lv_aload_n hx hb dX6_told_72 rfl (lv_at hl 0 rfl) ?_
      refine lv_iload_n hx hb dX6_told_73 rfl (lv_at hl 1 rfl) ?_
      refine lv_bipush (v := (10 : Int32)) hx hb dX6_told_74 (by decide) ?_
      refine lv_idiv hx hb dX6_told_76 (by decide) ?_
      refine lv_iconst (v := (1 : Int32)) hx hb dX6_told_77 (by decide) ?_
      refine lv_isub hx hb dX6_told_78 ?_
      refine lv_iload_n hx hb dX6_told_79 rfl (lv_at hl 1 rfl) ?_
      refine lv_bipush (v := (10 : Int32)) hx hb dX6_told_80 (by decide) ?_
      refine lv_irem hx hb dX6_told_82 (by decide) ?_
      have hr := mrV (p := p) (e := e) (R := rm_X6_told) (below := below) (meth := meth) (H := H) (locs := locs) (ls := ls) (As := [.int ((xw / (10 : Int32)) - (1 : Int32)), .int (xw - xw / (10 : Int32) * (10 : Int32))]) (rest := []) (c_X6_toldOf l δ cI cJ cZ aR0 aR1 aR2 aR3 aR4 aR5 aR6 aR7 aR8 aR9 aR10 aR11 aR12 aR13 aR14 aR15 aR16 aR17 aR18 aR19 aR20 aR21 lv sg pd ac dd hd le bd my lf pa kp ((xw / (10 : Int32)) - (1 : Int32)) (xw - xw / (10 : Int32) * (10 : Int32))) hx hb hml hts hown hK hNW hP hD [0, 1, 2, 3, 4, 5, 6, 7, 8, 9, 10, 11, 12, 13, 14, 15, 16, 17, 18, 19, 20, 21] rfl rfl 6 0 rfl rfl (cwV 2 hts gX6_told_X6_toldOf rfl rfl rfl (by decide +kernel) ⟨(Nat.le_of_ble_eq_true rfl), (Nat.le_of_ble_eq_true rfl)⟩) rfl hl.1 rfl (Nat.le_of_ble_eq_true rfl) dX6_told_83
      refine mc_i (wr := ([] : va_W)) hr hP hD hS hA [0, 1, 2, 3, 4, 5, 6, 7, 8, 9, 10, 11, 12, 13, 14, 15, 16, 17, 18, 19, 20, 21] [] [0, 1, 2, 3, 4, 5, 6, 7, 8, 9, 10, 11, 12, 13, 14, 15, 16, 17, 18, 19, 20, 21] rfl rfl rfl rfl rfl (wn := fun _ => (wR cI cJ cZ aR0 aR1 aR2 aR3 aR4 aR5 aR6 aR7 aR8 aR9 aR10 aR11 aR12 aR13 aR14 aR15 aR16 aR17 aR18 aR19 aR20 aR21 lv sg pd ac dd hd le bd my lf pa kp)) (fun _ => rfl) (fun r_83 _ H locs hw_83 hP hD hS => ?_)
      have hP : va_P δ vwCl (wR cI cJ cZ aR0 aR1 aR2 aR3 aR4 aR5 aR6 aR7 aR8 aR9 aR10 aR11 aR12 aR13 aR14 aR15 aR16 aR17 aR18 aR19 aR20 aR21 lv sg pd ac dd hd le bd my lf pa kp) H := hP
      have hD : va_D A (wR cI cJ cZ aR0 aR1 aR2 aR3 aR4 aR5 aR6 aR7 aR8 aR9 aR10 aR11 aR12 aR13 aR14 aR15 aR16 aR17 aR18 aR19 aR20 aR21 lv sg pd ac dd hd le bd my lf pa kp) := hD
      have hR := bnd_eq hR hw_83.symm
      exact hret _ _ r_83 () _ _ hR hP hD hS dX6_told_86
  · have c_11 : ¬ (r_8 = 0) := c_11
    have hR := hR.trans (if_neg c_11)
    refine lv_iload_n hx hb dX6_told_14 rfl (lv_at hl 1 rfl) ?_
    refine lv_bipush (v := (100 : Int32)) hx hb dX6_told_15 (by decide) ?_
    refine lv_idiv hx hb dX6_told_17 (by decide) ?_
    refine lv_iconst (v := (1 : Int32)) hx hb dX6_told_18 (by decide) ?_
    refine lv_isub hx hb dX6_told_19 ?_
    refine lv_istore_n (lv' := [(2, .int ((xw / (100 : Int32)) - (1 : Int32))), (0, .ref aR0), (1, .int xw)]) hx hb dX6_told_20 rfl hl (by decide) rfl (fun ls hl => ?_)
    refine lv_aload_n hx hb dX6_told_21 rfl (lv_at hl 1 rfl) ?_
    refine lv_iload_n hx hb dX6_told_22 rfl (lv_at hl 0 rfl) ?_
    have hr := mrV (p := p) (e := e) (R := rm_X6_told) (below := below) (meth := meth) (H := H) (locs := locs) (ls := ls) (As := [.int ((xw / (100 : Int32)) - (1 : Int32))]) (rest := []) (c_X6_isCourtier l δ cI cJ cZ aR0 aR1 aR2 aR3 aR4 aR5 aR6 aR7 aR8 aR9 aR10 aR11 aR12 aR13 aR14 aR15 aR16 aR17 aR18 aR19 aR20 aR21 lv sg pd ac dd hd le bd my lf pa kp ((xw / (100 : Int32)) - (1 : Int32))) hx hb hml hts hown hK hNW hP hD [0, 1, 2, 3, 4, 5, 6, 7, 8, 9, 10, 11, 12, 13, 14, 15, 16, 17, 18, 19, 20, 21] rfl rfl 6 0 rfl rfl (cwV 1 hts gX6_told_X6_isCourtier rfl rfl rfl (by decide +kernel) ⟨(Nat.le_of_ble_eq_true rfl), (Nat.le_of_ble_eq_true rfl)⟩) rfl hl.1 rfl (Nat.le_of_ble_eq_true rfl) dX6_told_23
    refine mc_i (wr := ([] : va_W)) hr hP hD hS hA [0, 1, 2, 3, 4, 5, 6, 7, 8, 9, 10, 11, 12, 13, 14, 15, 16, 17, 18, 19, 20, 21] [] [0, 1, 2, 3, 4, 5, 6, 7, 8, 9, 10, 11, 12, 13, 14, 15, 16, 17, 18, 19, 20, 21] rfl rfl rfl rfl rfl (wn := fun _ => (wR cI cJ cZ aR0 aR1 aR2 aR3 aR4 aR5 aR6 aR7 aR8 aR9 aR10 aR11 aR12 aR13 aR14 aR15 aR16 aR17 aR18 aR19 aR20 aR21 lv sg pd ac dd hd le bd my lf pa kp)) (fun _ => rfl) (fun r_23 _ H locs hw_23 hP hD hS => ?_)
    obtain ⟨hw_23, z_23⟩ := hw_23
    have hP : va_P δ vwCl (wR cI cJ cZ aR0 aR1 aR2 aR3 aR4 aR5 aR6 aR7 aR8 aR9 aR10 aR11 aR12 aR13 aR14 aR15 aR16 aR17 aR18 aR19 aR20 aR21 lv sg pd ac dd hd le bd my lf pa kp) H := hP
    have hD : va_D A (wR cI cJ cZ aR0 aR1 aR2 aR3 aR4 aR5 aR6 aR7 aR8 aR9 aR10 aR11 aR12 aR13 aR14 aR15 aR16 aR17 aR18 aR19 aR20 aR21 lv sg pd ac dd hd le bd my lf pa kp) := hD
    have hR := bnd_eq hR hw_23.symm
    refine lv_if_eq (tgt := 55) hx hb dX6_told_26 (by decide) (fun c_26 => ?_) (fun c_26 => ?_)
    · have c_26 : (r_23 = 0) := c_26
      have hR := hR.trans (if_pos c_26)
      refine lv_bipush (v := (-2 : Int32)) hx hb dX6_told_55 (by decide) ?_
      exact hret _ _ (-2 : Int32) () _ _ hR hP hD hS dX6_told_57
    · have c_26 : ¬ (r_23 = 0) := c_26
      have hR := hR.trans (if_neg c_26)
      refine lv_iload_n hx hb dX6_told_29 rfl (lv_at hl 2 rfl) ?_
      refine lv_bipush (v := (100 : Int32)) hx hb dX6_told_30 (by decide) ?_
      refine lv_irem hx hb dX6_told_32 (by decide) ?_
      have hr := mrS (p := p) (e := e) (R := rm_X6_told) (below := below) (meth := meth) (H := H) (locs := locs) (ls := ls) (As := [.int (xw - xw / (100 : Int32) * (100 : Int32))]) (rest := []) (c_X6_isHour l δ cI cJ cZ (xw - xw / (100 : Int32) * (100 : Int32))) hx hb hml hts hown hK hNW hP hD [] rfl rfl (va_cwS 1 hts gX6_told_X6_isHour rfl rfl rfl (by decide +kernel) ⟨(Nat.le_of_ble_eq_true rfl), (Nat.le_of_ble_eq_true rfl)⟩) rfl hl.1 rfl (Nat.le_of_ble_eq_true rfl) dX6_told_33
      refine mc_i (wr := (wR cI cJ cZ aR0 aR1 aR2 aR3 aR4 aR5 aR6 aR7 aR8 aR9 aR10 aR11 aR12 aR13 aR14 aR15 aR16 aR17 aR18 aR19 aR20 aR21 lv sg pd ac dd hd le bd my lf pa kp)) hr hP hD hS hA [] [0, 1, 2, 3, 4, 5, 6, 7, 8, 9, 10, 11, 12, 13, 14, 15, 16, 17, 18, 19, 20, 21] [0, 1, 2, 3, 4, 5, 6, 7, 8, 9, 10, 11, 12, 13, 14, 15, 16, 17, 18, 19, 20, 21] rfl rfl rfl rfl rfl (wn := fun _ => (wR cI cJ cZ aR0 aR1 aR2 aR3 aR4 aR5 aR6 aR7 aR8 aR9 aR10 aR11 aR12 aR13 aR14 aR15 aR16 aR17 aR18 aR19 aR20 aR21 lv sg pd ac dd hd le bd my lf pa kp)) (fun _ => rfl) (fun r_33 _ H locs hw_33 hP hD hS => ?_)
      obtain ⟨hw_33, z_33⟩ := hw_33
      have hP : va_P δ vwCl (wR cI cJ cZ aR0 aR1 aR2 aR3 aR4 aR5 aR6 aR7 aR8 aR9 aR10 aR11 aR12 aR13 aR14 aR15 aR16 aR17 aR18 aR19 aR20 aR21 lv sg pd ac dd hd le bd my lf pa kp) H := hP
      have hD : va_D A (wR cI cJ cZ aR0 aR1 aR2 aR3 aR4 aR5 aR6 aR7 aR8 aR9 aR10 aR11 aR12 aR13 aR14 aR15 aR16 aR17 aR18 aR19 aR20 aR21 lv sg pd ac dd hd le bd my lf pa kp) := hD
      have hR := bnd_eq hR hw_33.symm
      refine lv_if_eq (tgt := 55) hx hb dX6_told_36 (by decide) (fun c_36 => ?_) (fun c_36 => ?_)
      · have c_36 : (r_33 = 0) := c_36
        have hR := hR.trans (if_pos c_36)
        refine lv_bipush (v := (-2 : Int32)) hx hb dX6_told_55 (by decide) ?_
        exact hret _ _ (-2 : Int32) () _ _ hR hP hD hS dX6_told_57
      · have c_36 : ¬ (r_33 = 0) := c_36
        have hR := hR.trans (if_neg c_36)
        refine lv_aload_n hx hb dX6_told_39 rfl (lv_at hl 1 rfl) ?_
        refine va_get (D := δ) (ci := 6) (v := .ref aR4) (C := RX6) (T := TX6) (N := 34) hx hb hts hinX6 hown hK hP 0 rfl rfl 6 (by decide) (hts (.fieldLink RX6 19 "GloveHoursModel" "wearOf" "[I") (List.mem_of_getElem? (i := 3) rfl)) (fun _ h9 => h9) rfl dX6_told_40 ?_
        refine lv_iload_n hx hb dX6_told_43 rfl (lv_at hl 0 rfl) ?_
        refine lv_iload_n hx hb dX6_told_44 rfl (lv_at hl 2 rfl) ?_
        refine lv_bipush (v := (100 : Int32)) hx hb dX6_told_45 (by decide) ?_
        refine lv_irem hx hb dX6_told_47 (by decide) ?_
        have hr := mrS (p := p) (e := e) (R := rm_X6_told) (below := below) (meth := meth) (H := H) (locs := locs) (ls := ls) (As := [.int ((xw / (100 : Int32)) - (1 : Int32)), .int (xw - xw / (100 : Int32) * (100 : Int32))]) (rest := [.ref aR4]) (c_X6_at l δ cI cJ cZ ((xw / (100 : Int32)) - (1 : Int32)) (xw - xw / (100 : Int32) * (100 : Int32))) hx hb hml hts hown hK hNW hP hD [] rfl rfl (va_cwS 2 hts gX6_told_X6_at rfl rfl rfl (by decide +kernel) ⟨(Nat.le_of_ble_eq_true rfl), (Nat.le_of_ble_eq_true rfl)⟩) rfl hl.1 rfl (Nat.le_of_ble_eq_true rfl) dX6_told_48
        refine mc_i (wr := (wR cI cJ cZ aR0 aR1 aR2 aR3 aR4 aR5 aR6 aR7 aR8 aR9 aR10 aR11 aR12 aR13 aR14 aR15 aR16 aR17 aR18 aR19 aR20 aR21 lv sg pd ac dd hd le bd my lf pa kp)) hr hP hD hS hA [] [0, 1, 2, 3, 4, 5, 6, 7, 8, 9, 10, 11, 12, 13, 14, 15, 16, 17, 18, 19, 20, 21] [0, 1, 2, 3, 4, 5, 6, 7, 8, 9, 10, 11, 12, 13, 14, 15, 16, 17, 18, 19, 20, 21] rfl rfl rfl rfl rfl (wn := fun _ => (wR cI cJ cZ aR0 aR1 aR2 aR3 aR4 aR5 aR6 aR7 aR8 aR9 aR10 aR11 aR12 aR13 aR14 aR15 aR16 aR17 aR18 aR19 aR20 aR21 lv sg pd ac dd hd le bd my lf pa kp)) (fun _ => rfl) (fun r_48 _ H locs hw_48 hP hD hS => ?_)
        have hP : va_P δ vwCl (wR cI cJ cZ aR0 aR1 aR2 aR3 aR4 aR5 aR6 aR7 aR8 aR9 aR10 aR11 aR12 aR13 aR14 aR15 aR16 aR17 aR18 aR19 aR20 aR21 lv sg pd ac dd hd le bd my lf pa kp) H := hP
        have hD : va_D A (wR cI cJ cZ aR0 aR1 aR2 aR3 aR4 aR5 aR6 aR7 aR8 aR9 aR10 aR11 aR12 aR13 aR14 aR15 aR16 aR17 aR18 aR19 aR20 aR21 lv sg pd ac dd hd le bd my lf pa kp) := hD
        have hR := bnd_eq hR hw_48.symm
        refine va_iald hx hb hK hP 4 0 rfl rfl (at_in hw_48 (court_in hw_23 c_26) (isHour_in hw_33 c_36)) dX6_told_51 ?_
        refine lv_goto (tgt := 57) hx hb dX6_told_52 (by decide) ?_
        exact hret _ _ ((vWearOf lv) r_48.toNatClampNeg) () _ _ hR hP hD hS dX6_told_57
