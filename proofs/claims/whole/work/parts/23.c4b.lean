abbrev rm_X6_passHour : Room := { frames := 3, cells := 0, slots := 0, locals := 68 }
set_option maxHeartbeats 4000000 in
set_option maxRecDepth 100000 in
theorem c_X6_passHour (l : Launch) (δ : va_G) (cI cJ cZ : ClassId) (aR0 aR1 aR2 aR3 aR4 aR5 aR6 aR7 aR8 aR9 aR10 aR11 aR12 aR13 aR14 aR15 aR16 aR17 aR18 aR19 aR20 aR21 : Nat) (lv : LV) (sg : SG) (pd : PD) (ac : AC) (dd : DD) (hd : HD) (le : LE) (bd : BD) (my : MY) (lf : LF) (pa : PA) (kp : KP) : mMv l δ (mTy cI cJ cZ) yX6_passHour wsX6_passHour rm_X6_passHour [.ref aR0] (wR cI cJ cZ aR0 aR1 aR2 aR3 aR4 aR5 aR6 aR7 aR8 aR9 aR10 aR11 aR12 aR13 aR14 aR15 aR16 aR17 aR18 aR19 aR20 aR21 lv sg pd ac dd hd le bd my lf pa kp) (S := LV) (fun u => F_X6_passHour lv = u) (fun u => (wR cI cJ cZ aR0 aR1 aR2 aR3 aR4 aR5 aR6 aR7 aR8 aR9 aR10 aR11 aR12 aR13 aR14 aR15 aR16 aR17 aR18 aR19 aR20 aR21 u sg pd ac dd hd le bd my lf pa kp)) := by
  refine mk_v (cc := cX6_passHour) (maxL := 3) (by decide) rfl (Nat.le_of_ble_eq_true rfl) ?_
  intro p e s m args below meth c A Q ls H locs hx hb hml hts hown hK hNW hA hP hD hS hl hret
  have hown : s.vm.findClass RX6 = some m.cls := hown
  have hl : lv_has ls 3 [(0, .ref aR0)] := hl
  have hinX6 : ∀ w ∈ u_ws RX6 TX6 34, w ∈ wsX6_passHour := (fun _ h => List.mem_cons_of_mem _ (List.mem_append_right _ (h)))
  have hR := F_X6_passHour.eq_1 lv
  refine lv_iconst (v := (0 : Int32)) hx hb dX6_passHour_0 (by decide) ?_
  refine lv_istore_n (lv' := [(1, .int (0 : Int32)), (0, .ref aR0)]) hx hb dX6_passHour_1 rfl hl (by decide) rfl (fun ls hl => ?_)
  have hloop_2 : ∀ (n_2 : Nat) (i_2 : Nat) (lv_2 : LV) (H : Heap) (locs : List Loc) (ls : Array Slot), (hi_2 : i_2 ≤ 6) → (hn_2 : 6 < i_2 + n_2) → (hP : va_P δ vwCl (wR cI cJ cZ aR0 aR1 aR2 aR3 aR4 aR5 aR6 aR7 aR8 aR9 aR10 aR11 aR12 aR13 aR14 aR15 aR16 aR17 aR18 aR19 aR20 aR21 lv_2 sg pd ac dd hd le bd my lf pa kp) H) → (hD : va_D A (wR cI cJ cZ aR0 aR1 aR2 aR3 aR4 aR5 aR6 aR7 aR8 aR9 aR10 aR11 aR12 aR13 aR14 aR15 aR16 aR17 aR18 aR19 aR20 aR21 lv_2 sg pd ac dd hd le bd my lf pa kp)) → (hS : va_S A s.heap H locs) → (hl : lv_has ls 3 [(1, .int (nI i_2)), (0, .ref aR0)]) → (kk : ∀ (w_2 : LV) (H : Heap) (locs : List Loc) (ls : Array Slot), L_X6_passHour_2  n_2 i_2 lv_2 = w_2 → va_P δ vwCl (wR cI cJ cZ aR0 aR1 aR2 aR3 aR4 aR5 aR6 aR7 aR8 aR9 aR10 aR11 aR12 aR13 aR14 aR15 aR16 aR17 aR18 aR19 aR20 aR21 w_2 sg pd ac dd hd le bd my lf pa kp) H → va_D A (wR cI cJ cZ aR0 aR1 aR2 aR3 aR4 aR5 aR6 aR7 aR8 aR9 aR10 aR11 aR12 aR13 aR14 aR15 aR16 aR17 aR18 aR19 aR20 aR21 w_2 sg pd ac dd hd le bd my lf pa kp) → va_S A s.heap H locs → lv_has ls 3 [(0, .ref aR0)] → W p l e rm_X6_passHour s m args below meth c H locs 0 0 Q (F0 m 65 ls [])) → W p l e rm_X6_passHour s m args below meth c H locs 0 0 Q (F0 m 2 ls []) := by
    intro n_2
    induction n_2 with
    | zero => intro i_2 lv_2 H locs ls hi_2 hn_2 hP hD hS hl kk; exact absurd hn_2 (by omega)
    | succ n_2 ih_2 =>
      intro i_2 lv_2 H locs ls hi_2 hn_2 hP hD hS hl kk
      have hR := L_X6_passHour_2_s  n_2 i_2 lv_2
      refine lv_iload_n hx hb dX6_passHour_2 rfl (lv_at hl 0 rfl) ?_
      refine lv_bipush (v := (6 : Int32)) hx hb dX6_passHour_3 (by decide) ?_
      refine lv_icmp_ge (tgt := 65) hx hb dX6_passHour_5 (by decide) (fun c_5 => ?_) (fun c_5 => ?_)
      · have c_5 : ((6 : Int32) ≤ (nI i_2)) := c_5
        have hR := hR.trans (if_pos c_5)
        exact kk lv_2 H locs ls hR hP hD hS (lv_sub hl [1] rfl)
      · have c_5 : ¬ ((6 : Int32) ≤ (nI i_2)) := c_5
        have hR := hR.trans (if_neg c_5)
        have hlt_2 : i_2 < 6 := lt_g c_5 hi_2 (by decide)
        refine lv_aload_n hx hb dX6_passHour_8 rfl (lv_at hl 1 rfl) ?_
        refine lv_iload_n hx hb dX6_passHour_9 rfl (lv_at hl 0 rfl) ?_
        have hr := mrV (p := p) (e := e) (R := rm_X6_passHour) (below := below) (meth := meth) (H := H) (locs := locs) (ls := ls) (As := [.int (nI i_2)]) (rest := []) (c_X6_isCourtier l δ cI cJ cZ aR0 aR1 aR2 aR3 aR4 aR5 aR6 aR7 aR8 aR9 aR10 aR11 aR12 aR13 aR14 aR15 aR16 aR17 aR18 aR19 aR20 aR21 lv_2 sg pd ac dd hd le bd my lf pa kp (nI i_2)) hx hb hml hts hown hK hNW hP hD [0, 1, 2, 3, 4, 5, 6, 7, 8, 9, 10, 11, 12, 13, 14, 15, 16, 17, 18, 19, 20, 21] rfl rfl 6 0 rfl rfl (cwV 1 hts gX6_passHour_X6_isCourtier rfl rfl rfl (by decide +kernel) ⟨(Nat.le_of_ble_eq_true rfl), (Nat.le_of_ble_eq_true rfl)⟩) rfl hl.1 rfl (Nat.le_of_ble_eq_true rfl) dX6_passHour_10
        refine mc_i (wr := ([] : va_W)) hr hP hD hS hA [0, 1, 2, 3, 4, 5, 6, 7, 8, 9, 10, 11, 12, 13, 14, 15, 16, 17, 18, 19, 20, 21] [] [0, 1, 2, 3, 4, 5, 6, 7, 8, 9, 10, 11, 12, 13, 14, 15, 16, 17, 18, 19, 20, 21] rfl rfl rfl rfl rfl (wn := fun _ => (wR cI cJ cZ aR0 aR1 aR2 aR3 aR4 aR5 aR6 aR7 aR8 aR9 aR10 aR11 aR12 aR13 aR14 aR15 aR16 aR17 aR18 aR19 aR20 aR21 lv_2 sg pd ac dd hd le bd my lf pa kp)) (fun _ => rfl) (fun r_10 _ H locs hw_10 hP hD hS => ?_)
        obtain ⟨hw_10, z_10⟩ := hw_10
        have hP : va_P δ vwCl (wR cI cJ cZ aR0 aR1 aR2 aR3 aR4 aR5 aR6 aR7 aR8 aR9 aR10 aR11 aR12 aR13 aR14 aR15 aR16 aR17 aR18 aR19 aR20 aR21 lv_2 sg pd ac dd hd le bd my lf pa kp) H := hP
        have hD : va_D A (wR cI cJ cZ aR0 aR1 aR2 aR3 aR4 aR5 aR6 aR7 aR8 aR9 aR10 aR11 aR12 aR13 aR14 aR15 aR16 aR17 aR18 aR19 aR20 aR21 lv_2 sg pd ac dd hd le bd my lf pa kp) := hD
        have hR := bnd_eq hR hw_10.symm
        refine lv_if_eq (tgt := 39) hx hb dX6_passHour_13 (by decide) (fun c_13 => ?_) (fun c_13 => ?_)
        · have c_13 : (r_10 = 0) := c_13
          have hR := hR.trans (if_pos c_13)
          refine lv_iconst (v := (0 : Int32)) hx hb dX6_passHour_39 (by decide) ?_
          refine lv_istore_n (lv' := [(2, .int (0 : Int32)), (1, .int (nI i_2)), (0, .ref aR0)]) hx hb dX6_passHour_40 rfl hl (by decide) rfl (fun ls hl => ?_)
          refine lv_aload_n hx hb dX6_passHour_41 rfl (lv_at hl 2 rfl) ?_
          refine va_get (D := δ) (ci := 6) (v := .ref aR3) (C := RX6) (T := TX6) (N := 34) hx hb hts hinX6 hown hK hP 0 rfl rfl 5 (by decide) (hts (.fieldLink RX6 16 "GloveHoursModel" "scandals" "[I") (List.mem_of_getElem? (i := 1) rfl)) (fun _ h9 => h9) rfl dX6_passHour_42 ?_
          refine lv_iload_n hx hb dX6_passHour_45 rfl (lv_at hl 1 rfl) ?_
          refine lv_dup2_11 hx hb dX6_passHour_46 rfl rfl ?_
          refine va_iald hx hb hK hP 3 0 rfl rfl (vp_in_nI (by omega) (by decide)) dX6_passHour_47 ?_
          refine lv_iload_n hx hb dX6_passHour_48 rfl (lv_at hl 0 rfl) ?_
          refine lv_if_eq (tgt := 56) hx hb dX6_passHour_49 (by decide) (fun c_49 => ?_) (fun c_49 => ?_)
          · have c_49 : ((0 : Int32) = 0) := c_49
            have hR := hR.trans (if_pos c_49)
            refine lv_iconst (v := (0 : Int32)) hx hb dX6_passHour_56 (by decide) ?_
            refine lv_iadd hx hb dX6_passHour_57 ?_
            refine va_iast hx hb hK hP hD hS 3 0 rfl rfl (vp_in_nI (by omega) (by decide)) dX6_passHour_58 (fun H locs hP hD hS => ?_)
            have hP : va_P δ vwCl (wR cI cJ cZ aR0 aR1 aR2 aR3 aR4 aR5 aR6 aR7 aR8 aR9 aR10 aR11 aR12 aR13 aR14 aR15 aR16 aR17 aR18 aR19 aR20 aR21 (vCourtiers lv_2, vClock lv_2, vTears lv_2, vLeft lv_2, vRight lv_2, (upd (vScandals lv_2) (nI i_2).toNatClampNeg (((vScandals lv_2) (nI i_2).toNatClampNeg) + (0 : Int32))), vWearOf lv_2) sg pd ac dd hd le bd my lf pa kp) H := hP
            have hD : va_D A (wR cI cJ cZ aR0 aR1 aR2 aR3 aR4 aR5 aR6 aR7 aR8 aR9 aR10 aR11 aR12 aR13 aR14 aR15 aR16 aR17 aR18 aR19 aR20 aR21 (vCourtiers lv_2, vClock lv_2, vTears lv_2, vLeft lv_2, vRight lv_2, (upd (vScandals lv_2) (nI i_2).toNatClampNeg (((vScandals lv_2) (nI i_2).toNatClampNeg) + (0 : Int32))), vWearOf lv_2) sg pd ac dd hd le bd my lf pa kp) := hD
            refine lv_iinc (v := (nI (i_2 + 1))) (lv' := [(1, .int (nI (i_2 + 1))), (2, .int (0 : Int32)), (0, .ref aR0)]) hx hb dX6_passHour_59 hl (k := 1) rfl (nI_1 i_2) (by decide) rfl (fun ls hl => ?_)
            refine lv_goto (tgt := 2) hx hb dX6_passHour_62 (by decide) ?_
            exact ih_2 (i_2 + 1) (vCourtiers lv_2, vClock lv_2, vTears lv_2, vLeft lv_2, vRight lv_2, (upd (vScandals lv_2) (nI i_2).toNatClampNeg (((vScandals lv_2) (nI i_2).toNatClampNeg) + (0 : Int32))), vWearOf lv_2) _ _ _ (by omega) (by omega) hP hD hS (lv_sub hl [0, 2] rfl) (fun w_2 H locs ls he hP hD hS hl => kk w_2 H locs ls (hR.trans he) hP hD hS hl)
          · have c_49 : ¬ ((0 : Int32) = 0) := c_49
            have hR := hR.trans (if_neg c_49)
            refine lv_iconst (v := (1 : Int32)) hx hb dX6_passHour_52 (by decide) ?_
            refine lv_goto (tgt := 57) hx hb dX6_passHour_53 (by decide) ?_
            refine lv_iadd hx hb dX6_passHour_57 ?_
            refine va_iast hx hb hK hP hD hS 3 0 rfl rfl (vp_in_nI (by omega) (by decide)) dX6_passHour_58 (fun H locs hP hD hS => ?_)
            have hP : va_P δ vwCl (wR cI cJ cZ aR0 aR1 aR2 aR3 aR4 aR5 aR6 aR7 aR8 aR9 aR10 aR11 aR12 aR13 aR14 aR15 aR16 aR17 aR18 aR19 aR20 aR21 (vCourtiers lv_2, vClock lv_2, vTears lv_2, vLeft lv_2, vRight lv_2, (upd (vScandals lv_2) (nI i_2).toNatClampNeg (((vScandals lv_2) (nI i_2).toNatClampNeg) + (1 : Int32))), vWearOf lv_2) sg pd ac dd hd le bd my lf pa kp) H := hP
            have hD : va_D A (wR cI cJ cZ aR0 aR1 aR2 aR3 aR4 aR5 aR6 aR7 aR8 aR9 aR10 aR11 aR12 aR13 aR14 aR15 aR16 aR17 aR18 aR19 aR20 aR21 (vCourtiers lv_2, vClock lv_2, vTears lv_2, vLeft lv_2, vRight lv_2, (upd (vScandals lv_2) (nI i_2).toNatClampNeg (((vScandals lv_2) (nI i_2).toNatClampNeg) + (1 : Int32))), vWearOf lv_2) sg pd ac dd hd le bd my lf pa kp) := hD
            refine lv_iinc (v := (nI (i_2 + 1))) (lv' := [(1, .int (nI (i_2 + 1))), (2, .int (0 : Int32)), (0, .ref aR0)]) hx hb dX6_passHour_59 hl (k := 1) rfl (nI_1 i_2) (by decide) rfl (fun ls hl => ?_)
            refine lv_goto (tgt := 2) hx hb dX6_passHour_62 (by decide) ?_
            exact ih_2 (i_2 + 1) (vCourtiers lv_2, vClock lv_2, vTears lv_2, vLeft lv_2, vRight lv_2, (upd (vScandals lv_2) (nI i_2).toNatClampNeg (((vScandals lv_2) (nI i_2).toNatClampNeg) + (1 : Int32))), vWearOf lv_2) _ _ _ (by omega) (by omega) hP hD hS (lv_sub hl [0, 2] rfl) (fun w_2 H locs ls he hP hD hS hl => kk w_2 H locs ls (hR.trans he) hP hD hS hl)
        · have c_13 : ¬ (r_10 = 0) := c_13
          have hR := hR.trans (if_neg c_13)
          refine lv_aload_n hx hb dX6_passHour_16 rfl (lv_at hl 1 rfl) ?_
          refine lv_iload_n hx hb dX6_passHour_17 rfl (lv_at hl 0 rfl) ?_
          have hr := mrV (p := p) (e := e) (R := rm_X6_passHour) (below := below) (meth := meth) (H := H) (locs := locs) (ls := ls) (As := [.int (nI i_2)]) (rest := []) (c_X6_isProper l δ cI cJ cZ aR0 aR1 aR2 aR3 aR4 aR5 aR6 aR7 aR8 aR9 aR10 aR11 aR12 aR13 aR14 aR15 aR16 aR17 aR18 aR19 aR20 aR21 lv_2 sg pd ac dd hd le bd my lf pa kp (nI i_2)) hx hb hml hts hown hK hNW hP hD [0, 1, 2, 3, 4, 5, 6, 7, 8, 9, 10, 11, 12, 13, 14, 15, 16, 17, 18, 19, 20, 21] rfl rfl 6 0 rfl rfl (cwV 1 hts gX6_passHour_X6_isProper rfl rfl rfl (by decide +kernel) ⟨(Nat.le_of_ble_eq_true rfl), (Nat.le_of_ble_eq_true rfl)⟩) rfl hl.1 rfl (Nat.le_of_ble_eq_true rfl) dX6_passHour_18
          refine mc_i (wr := ([] : va_W)) hr hP hD hS hA [0, 1, 2, 3, 4, 5, 6, 7, 8, 9, 10, 11, 12, 13, 14, 15, 16, 17, 18, 19, 20, 21] [] [0, 1, 2, 3, 4, 5, 6, 7, 8, 9, 10, 11, 12, 13, 14, 15, 16, 17, 18, 19, 20, 21] rfl rfl rfl rfl rfl (wn := fun _ => (wR cI cJ cZ aR0 aR1 aR2 aR3 aR4 aR5 aR6 aR7 aR8 aR9 aR10 aR11 aR12 aR13 aR14 aR15 aR16 aR17 aR18 aR19 aR20 aR21 lv_2 sg pd ac dd hd le bd my lf pa kp)) (fun _ => rfl) (fun r_18 _ H locs hw_18 hP hD hS => ?_)
          obtain ⟨hw_18, z_18⟩ := hw_18
          have hP : va_P δ vwCl (wR cI cJ cZ aR0 aR1 aR2 aR3 aR4 aR5 aR6 aR7 aR8 aR9 aR10 aR11 aR12 aR13 aR14 aR15 aR16 aR17 aR18 aR19 aR20 aR21 lv_2 sg pd ac dd hd le bd my lf pa kp) H := hP
          have hD : va_D A (wR cI cJ cZ aR0 aR1 aR2 aR3 aR4 aR5 aR6 aR7 aR8 aR9 aR10 aR11 aR12 aR13 aR14 aR15 aR16 aR17 aR18 aR19 aR20 aR21 lv_2 sg pd ac dd hd le bd my lf pa kp) := hD
          have hR := bnd_eq hR hw_18.symm
          refine lv_if_ne (tgt := 39) hx hb dX6_passHour_21 (by decide) (fun c_21 => ?_) (fun c_21 => ?_)
          · have c_21 : ¬ (r_18 = 0) := c_21
            have hR := hR.trans (if_neg c_21)
            refine lv_iconst (v := (0 : Int32)) hx hb dX6_passHour_39 (by decide) ?_
            refine lv_istore_n (lv' := [(2, .int (0 : Int32)), (1, .int (nI i_2)), (0, .ref aR0)]) hx hb dX6_passHour_40 rfl hl (by decide) rfl (fun ls hl => ?_)
            refine lv_aload_n hx hb dX6_passHour_41 rfl (lv_at hl 2 rfl) ?_
            refine va_get (D := δ) (ci := 6) (v := .ref aR3) (C := RX6) (T := TX6) (N := 34) hx hb hts hinX6 hown hK hP 0 rfl rfl 5 (by decide) (hts (.fieldLink RX6 16 "GloveHoursModel" "scandals" "[I") (List.mem_of_getElem? (i := 1) rfl)) (fun _ h9 => h9) rfl dX6_passHour_42 ?_
            refine lv_iload_n hx hb dX6_passHour_45 rfl (lv_at hl 1 rfl) ?_
            refine lv_dup2_11 hx hb dX6_passHour_46 rfl rfl ?_
            refine va_iald hx hb hK hP 3 0 rfl rfl (vp_in_nI (by omega) (by decide)) dX6_passHour_47 ?_
            refine lv_iload_n hx hb dX6_passHour_48 rfl (lv_at hl 0 rfl) ?_
            refine lv_if_eq (tgt := 56) hx hb dX6_passHour_49 (by decide) (fun c_49 => ?_) (fun c_49 => ?_)
            · have c_49 : ((0 : Int32) = 0) := c_49
              have hR := hR.trans (if_pos c_49)
              refine lv_iconst (v := (0 : Int32)) hx hb dX6_passHour_56 (by decide) ?_
              refine lv_iadd hx hb dX6_passHour_57 ?_
              refine va_iast hx hb hK hP hD hS 3 0 rfl rfl (vp_in_nI (by omega) (by decide)) dX6_passHour_58 (fun H locs hP hD hS => ?_)
              have hP : va_P δ vwCl (wR cI cJ cZ aR0 aR1 aR2 aR3 aR4 aR5 aR6 aR7 aR8 aR9 aR10 aR11 aR12 aR13 aR14 aR15 aR16 aR17 aR18 aR19 aR20 aR21 (vCourtiers lv_2, vClock lv_2, vTears lv_2, vLeft lv_2, vRight lv_2, (upd (vScandals lv_2) (nI i_2).toNatClampNeg (((vScandals lv_2) (nI i_2).toNatClampNeg) + (0 : Int32))), vWearOf lv_2) sg pd ac dd hd le bd my lf pa kp) H := hP
              have hD : va_D A (wR cI cJ cZ aR0 aR1 aR2 aR3 aR4 aR5 aR6 aR7 aR8 aR9 aR10 aR11 aR12 aR13 aR14 aR15 aR16 aR17 aR18 aR19 aR20 aR21 (vCourtiers lv_2, vClock lv_2, vTears lv_2, vLeft lv_2, vRight lv_2, (upd (vScandals lv_2) (nI i_2).toNatClampNeg (((vScandals lv_2) (nI i_2).toNatClampNeg) + (0 : Int32))), vWearOf lv_2) sg pd ac dd hd le bd my lf pa kp) := hD
              refine lv_iinc (v := (nI (i_2 + 1))) (lv' := [(1, .int (nI (i_2 + 1))), (2, .int (0 : Int32)), (0, .ref aR0)]) hx hb dX6_passHour_59 hl (k := 1) rfl (nI_1 i_2) (by decide) rfl (fun ls hl => ?_)
              refine lv_goto (tgt := 2) hx hb dX6_passHour_62 (by decide) ?_
              exact ih_2 (i_2 + 1) (vCourtiers lv_2, vClock lv_2, vTears lv_2, vLeft lv_2, vRight lv_2, (upd (vScandals lv_2) (nI i_2).toNatClampNeg (((vScandals lv_2) (nI i_2).toNatClampNeg) + (0 : Int32))), vWearOf lv_2) _ _ _ (by omega) (by omega) hP hD hS (lv_sub hl [0, 2] rfl) (fun w_2 H locs ls he hP hD hS hl => kk w_2 H locs ls (hR.trans he) hP hD hS hl)
            · have c_49 : ¬ ((0 : Int32) = 0) := c_49
              have hR := hR.trans (if_neg c_49)
              refine lv_iconst (v := (1 : Int32)) hx hb dX6_passHour_52 (by decide) ?_
              refine lv_goto (tgt := 57) hx hb dX6_passHour_53 (by decide) ?_
              refine lv_iadd hx hb dX6_passHour_57 ?_
              refine va_iast hx hb hK hP hD hS 3 0 rfl rfl (vp_in_nI (by omega) (by decide)) dX6_passHour_58 (fun H locs hP hD hS => ?_)
              have hP : va_P δ vwCl (wR cI cJ cZ aR0 aR1 aR2 aR3 aR4 aR5 aR6 aR7 aR8 aR9 aR10 aR11 aR12 aR13 aR14 aR15 aR16 aR17 aR18 aR19 aR20 aR21 (vCourtiers lv_2, vClock lv_2, vTears lv_2, vLeft lv_2, vRight lv_2, (upd (vScandals lv_2) (nI i_2).toNatClampNeg (((vScandals lv_2) (nI i_2).toNatClampNeg) + (1 : Int32))), vWearOf lv_2) sg pd ac dd hd le bd my lf pa kp) H := hP
              have hD : va_D A (wR cI cJ cZ aR0 aR1 aR2 aR3 aR4 aR5 aR6 aR7 aR8 aR9 aR10 aR11 aR12 aR13 aR14 aR15 aR16 aR17 aR18 aR19 aR20 aR21 (vCourtiers lv_2, vClock lv_2, vTears lv_2, vLeft lv_2, vRight lv_2, (upd (vScandals lv_2) (nI i_2).toNatClampNeg (((vScandals lv_2) (nI i_2).toNatClampNeg) + (1 : Int32))), vWearOf lv_2) sg pd ac dd hd le bd my lf pa kp) := hD
              refine lv_iinc (v := (nI (i_2 + 1))) (lv' := [(1, .int (nI (i_2 + 1))), (2, .int (0 : Int32)), (0, .ref aR0)]) hx hb dX6_passHour_59 hl (k := 1) rfl (nI_1 i_2) (by decide) rfl (fun ls hl => ?_)
              refine lv_goto (tgt := 2) hx hb dX6_passHour_62 (by decide) ?_
              exact ih_2 (i_2 + 1) (vCourtiers lv_2, vClock lv_2, vTears lv_2, vLeft lv_2, vRight lv_2, (upd (vScandals lv_2) (nI i_2).toNatClampNeg (((vScandals lv_2) (nI i_2).toNatClampNeg) + (1 : Int32))), vWearOf lv_2) _ _ _ (by omega) (by omega) hP hD hS (lv_sub hl [0, 2] rfl) (fun w_2 H locs ls he hP hD hS hl => kk w_2 H locs ls (hR.trans he) hP hD hS hl)
          · have c_21 : (r_18 = 0) := c_21
            have hR := hR.trans (if_pos c_21)
            refine lv_aload_n hx hb dX6_passHour_24 rfl (lv_at hl 1 rfl) ?_
            refine va_get (D := δ) (ci := 6) (v := .ref aR3) (C := RX6) (T := TX6) (N := 34) hx hb hts hinX6 hown hK hP 0 rfl rfl 5 (by decide) (hts (.fieldLink RX6 16 "GloveHoursModel" "scandals" "[I") (List.mem_of_getElem? (i := 1) rfl)) (fun _ h9 => h9) rfl dX6_passHour_25 ?_
            refine lv_iload_n hx hb dX6_passHour_28 rfl (lv_at hl 0 rfl) ?_
            refine va_iald hx hb hK hP 3 0 rfl rfl (vp_in_nI (by omega) (by decide)) dX6_passHour_29 ?_
            refine lv_bipush (v := (99 : Int32)) hx hb dX6_passHour_30 (by decide) ?_
            refine lv_icmp_ge (tgt := 39) hx hb dX6_passHour_32 (by decide) (fun c_32 => ?_) (fun c_32 => ?_)
            · have c_32 : ((99 : Int32) ≤ ((vScandals lv_2) (nI i_2).toNatClampNeg)) := c_32
              have hR := hR.trans (if_pos c_32)
              refine lv_iconst (v := (0 : Int32)) hx hb dX6_passHour_39 (by decide) ?_
              refine lv_istore_n (lv' := [(2, .int (0 : Int32)), (1, .int (nI i_2)), (0, .ref aR0)]) hx hb dX6_passHour_40 rfl hl (by decide) rfl (fun ls hl => ?_)
              refine lv_aload_n hx hb dX6_passHour_41 rfl (lv_at hl 2 rfl) ?_
              refine va_get (D := δ) (ci := 6) (v := .ref aR3) (C := RX6) (T := TX6) (N := 34) hx hb hts hinX6 hown hK hP 0 rfl rfl 5 (by decide) (hts (.fieldLink RX6 16 "GloveHoursModel" "scandals" "[I") (List.mem_of_getElem? (i := 1) rfl)) (fun _ h9 => h9) rfl dX6_passHour_42 ?_
              refine lv_iload_n hx hb dX6_passHour_45 rfl (lv_at hl 1 rfl) ?_
              refine lv_dup2_11 hx hb dX6_passHour_46 rfl rfl ?_
              refine va_iald hx hb hK hP 3 0 rfl rfl (vp_in_nI (by omega) (by decide)) dX6_passHour_47 ?_
              refine lv_iload_n hx hb dX6_passHour_48 rfl (lv_at hl 0 rfl) ?_
              refine lv_if_eq (tgt := 56) hx hb dX6_passHour_49 (by decide) (fun c_49 => ?_) (fun c_49 => ?_)
              · have c_49 : ((0 : Int32) = 0) := c_49
                have hR := hR.trans (if_pos c_49)
                refine lv_iconst (v := (0 : Int32)) hx hb dX6_passHour_56 (by decide) ?_
                refine lv_iadd hx hb dX6_passHour_57 ?_
                refine va_iast hx hb hK hP hD hS 3 0 rfl rfl (vp_in_nI (by omega) (by decide)) dX6_passHour_58 (fun H locs hP hD hS => ?_)
                have hP : va_P δ vwCl (wR cI cJ cZ aR0 aR1 aR2 aR3 aR4 aR5 aR6 aR7 aR8 aR9 aR10 aR11 aR12 aR13 aR14 aR15 aR16 aR17 aR18 aR19 aR20 aR21 (vCourtiers lv_2, vClock lv_2, vTears lv_2, vLeft lv_2, vRight lv_2, (upd (vScandals lv_2) (nI i_2).toNatClampNeg (((vScandals lv_2) (nI i_2).toNatClampNeg) + (0 : Int32))), vWearOf lv_2) sg pd ac dd hd le bd my lf pa kp) H := hP
                have hD : va_D A (wR cI cJ cZ aR0 aR1 aR2 aR3 aR4 aR5 aR6 aR7 aR8 aR9 aR10 aR11 aR12 aR13 aR14 aR15 aR16 aR17 aR18 aR19 aR20 aR21 (vCourtiers lv_2, vClock lv_2, vTears lv_2, vLeft lv_2, vRight lv_2, (upd (vScandals lv_2) (nI i_2).toNatClampNeg (((vScandals lv_2) (nI i_2).toNatClampNeg) + (0 : Int32))), vWearOf lv_2) sg pd ac dd hd le bd my lf pa kp) := hD
                refine lv_iinc (v := (nI (i_2 + 1))) (lv' := [(1, .int (nI (i_2 + 1))), (2, .int (0 : Int32)), (0, .ref aR0)]) hx hb dX6_passHour_59 hl (k := 1) rfl (nI_1 i_2) (by decide) rfl (fun ls hl => ?_)
                refine lv_goto (tgt := 2) hx hb dX6_passHour_62 (by decide) ?_
                exact ih_2 (i_2 + 1) (vCourtiers lv_2, vClock lv_2, vTears lv_2, vLeft lv_2, vRight lv_2, (upd (vScandals lv_2) (nI i_2).toNatClampNeg (((vScandals lv_2) (nI i_2).toNatClampNeg) + (0 : Int32))), vWearOf lv_2) _ _ _ (by omega) (by omega) hP hD hS (lv_sub hl [0, 2] rfl) (fun w_2 H locs ls he hP hD hS hl => kk w_2 H locs ls (hR.trans he) hP hD hS hl)
              · have c_49 : ¬ ((0 : Int32) = 0) := c_49
                have hR := hR.trans (if_neg c_49)
                refine lv_iconst (v := (1 : Int32)) hx hb dX6_passHour_52 (by decide) ?_
                refine lv_goto (tgt := 57) hx hb dX6_passHour_53 (by decide) ?_
                refine lv_iadd hx hb dX6_passHour_57 ?_
                refine va_iast hx hb hK hP hD hS 3 0 rfl rfl (vp_in_nI (by omega) (by decide)) dX6_passHour_58 (fun H locs hP hD hS => ?_)
                have hP : va_P δ vwCl (wR cI cJ cZ aR0 aR1 aR2 aR3 aR4 aR5 aR6 aR7 aR8 aR9 aR10 aR11 aR12 aR13 aR14 aR15 aR16 aR17 aR18 aR19 aR20 aR21 (vCourtiers lv_2, vClock lv_2, vTears lv_2, vLeft lv_2, vRight lv_2, (upd (vScandals lv_2) (nI i_2).toNatClampNeg (((vScandals lv_2) (nI i_2).toNatClampNeg) + (1 : Int32))), vWearOf lv_2) sg pd ac dd hd le bd my lf pa kp) H := hP
                have hD : va_D A (wR cI cJ cZ aR0 aR1 aR2 aR3 aR4 aR5 aR6 aR7 aR8 aR9 aR10 aR11 aR12 aR13 aR14 aR15 aR16 aR17 aR18 aR19 aR20 aR21 (vCourtiers lv_2, vClock lv_2, vTears lv_2, vLeft lv_2, vRight lv_2, (upd (vScandals lv_2) (nI i_2).toNatClampNeg (((vScandals lv_2) (nI i_2).toNatClampNeg) + (1 : Int32))), vWearOf lv_2) sg pd ac dd hd le bd my lf pa kp) := hD
                refine lv_iinc (v := (nI (i_2 + 1))) (lv' := [(1, .int (nI (i_2 + 1))), (2, .int (0 : Int32)), (0, .ref aR0)]) hx hb dX6_passHour_59 hl (k := 1) rfl (nI_1 i_2) (by decide) rfl (fun ls hl => ?_)
                refine lv_goto (tgt := 2) hx hb dX6_passHour_62 (by decide) ?_
                exact ih_2 (i_2 + 1) (vCourtiers lv_2, vClock lv_2, vTears lv_2, vLeft lv_2, vRight lv_2, (upd (vScandals lv_2) (nI i_2).toNatClampNeg (((vScandals lv_2) (nI i_2).toNatClampNeg) + (1 : Int32))), vWearOf lv_2) _ _ _ (by omega) (by omega) hP hD hS (lv_sub hl [0, 2] rfl) (fun w_2 H locs ls he hP hD hS hl => kk w_2 H locs ls (hR.trans he) hP hD hS hl)
            · have c_32 : ¬ ((99 : Int32) ≤ ((vScandals lv_2) (nI i_2).toNatClampNeg)) := c_32
              have hR := hR.trans (if_neg c_32)
              refine lv_iconst (v := (1 : Int32)) hx hb dX6_passHour_35 (by decide) ?_
              refine lv_goto (tgt := 40) hx hb dX6_passHour_36 (by decide) ?_
              refine lv_istore_n (lv' := [(2, .int (1 : Int32)), (1, .int (nI i_2)), (0, .ref aR0)]) hx hb dX6_passHour_40 rfl hl (by decide) rfl (fun ls hl => ?_)
              refine lv_aload_n hx hb dX6_passHour_41 rfl (lv_at hl 2 rfl) ?_
              refine va_get (D := δ) (ci := 6) (v := .ref aR3) (C := RX6) (T := TX6) (N := 34) hx hb hts hinX6 hown hK hP 0 rfl rfl 5 (by decide) (hts (.fieldLink RX6 16 "GloveHoursModel" "scandals" "[I") (List.mem_of_getElem? (i := 1) rfl)) (fun _ h9 => h9) rfl dX6_passHour_42 ?_
              refine lv_iload_n hx hb dX6_passHour_45 rfl (lv_at hl 1 rfl) ?_
              refine lv_dup2_11 hx hb dX6_passHour_46 rfl rfl ?_
              refine va_iald hx hb hK hP 3 0 rfl rfl (vp_in_nI (by omega) (by decide)) dX6_passHour_47 ?_
              refine lv_iload_n hx hb dX6_passHour_48 rfl (lv_at hl 0 rfl) ?_
              refine lv_if_eq (tgt := 56) hx hb dX6_passHour_49 (by decide) (fun c_49 => ?_) (fun c_49 => ?_)
              · have c_49 : ((1 : Int32) = 0) := c_49
                have hR := hR.trans (if_pos c_49)
                refine lv_iconst (v := (0 : Int32)) hx hb dX6_passHour_56 (by decide) ?_
                refine lv_iadd hx hb dX6_passHour_57 ?_
                refine va_iast hx hb hK hP hD hS 3 0 rfl rfl (vp_in_nI (by omega) (by decide)) dX6_passHour_58 (fun H locs hP hD hS => ?_)
                have hP : va_P δ vwCl (wR cI cJ cZ aR0 aR1 aR2 aR3 aR4 aR5 aR6 aR7 aR8 aR9 aR10 aR11 aR12 aR13 aR14 aR15 aR16 aR17 aR18 aR19 aR20 aR21 (vCourtiers lv_2, vClock lv_2, vTears lv_2, vLeft lv_2, vRight lv_2, (upd (vScandals lv_2) (nI i_2).toNatClampNeg (((vScandals lv_2) (nI i_2).toNatClampNeg) + (0 : Int32))), vWearOf lv_2) sg pd ac dd hd le bd my lf pa kp) H := hP
                have hD : va_D A (wR cI cJ cZ aR0 aR1 aR2 aR3 aR4 aR5 aR6 aR7 aR8 aR9 aR10 aR11 aR12 aR13 aR14 aR15 aR16 aR17 aR18 aR19 aR20 aR21 (vCourtiers lv_2, vClock lv_2, vTears lv_2, vLeft lv_2, vRight lv_2, (upd (vScandals lv_2) (nI i_2).toNatClampNeg (((vScandals lv_2) (nI i_2).toNatClampNeg) + (0 : Int32))), vWearOf lv_2) sg pd ac dd hd le bd my lf pa kp) := hD
                refine lv_iinc (v := (nI (i_2 + 1))) (lv' := [(1, .int (nI (i_2 + 1))), (2, .int (1 : Int32)), (0, .ref aR0)]) hx hb dX6_passHour_59 hl (k := 1) rfl (nI_1 i_2) (by decide) rfl (fun ls hl => ?_)
                refine lv_goto (tgt := 2) hx hb dX6_passHour_62 (by decide) ?_
                exact ih_2 (i_2 + 1) (vCourtiers lv_2, vClock lv_2, vTears lv_2, vLeft lv_2, vRight lv_2, (upd (vScandals lv_2) (nI i_2).toNatClampNeg (((vScandals lv_2) (nI i_2).toNatClampNeg) + (0 : Int32))), vWearOf lv_2) _ _ _ (by omega) (by omega) hP hD hS (lv_sub hl [0, 2] rfl) (fun w_2 H locs ls he hP hD hS hl => kk w_2 H locs ls (hR.trans he) hP hD hS hl)
              · have c_49 : ¬ ((1 : Int32) = 0) := c_49
                have hR := hR.trans (if_neg c_49)
                refine lv_iconst (v := (1 : Int32)) hx hb dX6_passHour_52 (by decide) ?_
                refine lv_goto (tgt := 57) hx hb dX6_passHour_53 (by decide) ?_
                refine lv_iadd hx hb dX6_passHour_57 ?_
                refine va_iast hx hb hK hP hD hS 3 0 rfl rfl (vp_in_nI (by omega) (by decide)) dX6_passHour_58 (fun H locs hP hD hS => ?_)
                have hP : va_P δ vwCl (wR cI cJ cZ aR0 aR1 aR2 aR3 aR4 aR5 aR6 aR7 aR8 aR9 aR10 aR11 aR12 aR13 aR14 aR15 aR16 aR17 aR18 aR19 aR20 aR21 (vCourtiers lv_2, vClock lv_2, vTears lv_2, vLeft lv_2, vRight lv_2, (upd (vScandals lv_2) (nI i_2).toNatClampNeg (((vScandals lv_2) (nI i_2).toNatClampNeg) + (1 : Int32))), vWearOf lv_2) sg pd ac dd hd le bd my lf pa kp) H := hP
                have hD : va_D A (wR cI cJ cZ aR0 aR1 aR2 aR3 aR4 aR5 aR6 aR7 aR8 aR9 aR10 aR11 aR12 aR13 aR14 aR15 aR16 aR17 aR18 aR19 aR20 aR21 (vCourtiers lv_2, vClock lv_2, vTears lv_2, vLeft lv_2, vRight lv_2, (upd (vScandals lv_2) (nI i_2).toNatClampNeg (((vScandals lv_2) (nI i_2).toNatClampNeg) + (1 : Int32))), vWearOf lv_2) sg pd ac dd hd le bd my lf pa kp) := hD
                refine lv_iinc (v := (nI (i_2 + 1))) (lv' := [(1, .int (nI (i_2 + 1))), (2, .int (1 : Int32)), (0, .ref aR0)]) hx hb dX6_passHour_59 hl (k := 1) rfl (nI_1 i_2) (by decide) rfl (fun ls hl => ?_)
                refine lv_goto (tgt := 2) hx hb dX6_passHour_62 (by decide) ?_
                exact ih_2 (i_2 + 1) (vCourtiers lv_2, vClock lv_2, vTears lv_2, vLeft lv_2, vRight lv_2, (upd (vScandals lv_2) (nI i_2).toNatClampNeg (((vScandals lv_2) (nI i_2).toNatClampNeg) + (1 : Int32))), vWearOf lv_2) _ _ _ (by omega) (by omega) hP hD hS (lv_sub hl [0, 2] rfl) (fun w_2 H locs ls he hP hD hS hl => kk w_2 H locs ls (hR.trans he) hP hD hS hl)
  refine hloop_2 (6 + 1) 0 lv _ _ _ (by omega) (by omega) hP hD hS (lv_sub hl [0, 1] rfl) (fun w_2 H locs ls hw_2 hP hD hS hl => ?_)
  have hP : va_P δ vwCl (wR cI cJ cZ aR0 aR1 aR2 aR3 aR4 aR5 aR6 aR7 aR8 aR9 aR10 aR11 aR12 aR13 aR14 aR15 aR16 aR17 aR18 aR19 aR20 aR21 w_2 sg pd ac dd hd le bd my lf pa kp) H := hP
  have hD : va_D A (wR cI cJ cZ aR0 aR1 aR2 aR3 aR4 aR5 aR6 aR7 aR8 aR9 aR10 aR11 aR12 aR13 aR14 aR15 aR16 aR17 aR18 aR19 aR20 aR21 w_2 sg pd ac dd hd le bd my lf pa kp) := hD
  have hR := bnd_eq hR hw_2.symm
  refine lv_aload_n hx hb dX6_passHour_65 rfl (lv_at hl 0 rfl) ?_
  refine lv_aload_n hx hb dX6_passHour_66 rfl (lv_at hl 0 rfl) ?_
  refine va_get (D := δ) (ci := 6) (v := .int (vClock w_2)) (C := RX6) (T := TX6) (N := 34) hx hb hts hinX6 hown hK hP 0 rfl rfl 1 (by decide) (hts (.fieldLink RX6 110 "GloveHoursModel" "clock" "I") (List.mem_of_getElem? (i := 2) rfl)) (fun _ h9 => h9) rfl dX6_passHour_67 ?_
  refine lv_iconst (v := (1 : Int32)) hx hb dX6_passHour_70 (by decide) ?_
  refine lv_iadd hx hb dX6_passHour_71 ?_
  refine lv_bipush (v := (24 : Int32)) hx hb dX6_passHour_72 (by decide) ?_
  refine lv_irem hx hb dX6_passHour_74 (by decide) ?_
  refine va_put (D := δ) (ci := 6) (v := .int (((vClock w_2) + (1 : Int32)) - ((vClock w_2) + (1 : Int32)) / (24 : Int32) * (24 : Int32))) (ty := .int) (C := RX6) (T := TX6) (N := 34) hx hb hts hinX6 tyX6 tyX6_ok nmX6 hown hK hP hD hS 0 rfl rfl 1 (by decide) (hts (.fieldLink RX6 110 "GloveHoursModel" "clock" "I") (List.mem_of_getElem? (i := 2) rfl)) (fun _ h9 => h9) rfl (by decide +kernel) rfl rfl (Nat.le_of_ble_eq_true rfl) dX6_passHour_75 (fun H locs hP hD hS => ?_)
  have hP : va_P δ vwCl (wR cI cJ cZ aR0 aR1 aR2 aR3 aR4 aR5 aR6 aR7 aR8 aR9 aR10 aR11 aR12 aR13 aR14 aR15 aR16 aR17 aR18 aR19 aR20 aR21 (vCourtiers w_2, (((vClock w_2) + (1 : Int32)) - ((vClock w_2) + (1 : Int32)) / (24 : Int32) * (24 : Int32)), vTears w_2, vLeft w_2, vRight w_2, vScandals w_2, vWearOf w_2) sg pd ac dd hd le bd my lf pa kp) H := hP
  have hD : va_D A (wR cI cJ cZ aR0 aR1 aR2 aR3 aR4 aR5 aR6 aR7 aR8 aR9 aR10 aR11 aR12 aR13 aR14 aR15 aR16 aR17 aR18 aR19 aR20 aR21 (vCourtiers w_2, (((vClock w_2) + (1 : Int32)) - ((vClock w_2) + (1 : Int32)) / (24 : Int32) * (24 : Int32)), vTears w_2, vLeft w_2, vRight w_2, vScandals w_2, vWearOf w_2) sg pd ac dd hd le bd my lf pa kp) := hD
  exact hret _ _ (vCourtiers w_2, (((vClock w_2) + (1 : Int32)) - ((vClock w_2) + (1 : Int32)) / (24 : Int32) * (24 : Int32)), vTears w_2, vLeft w_2, vRight w_2, vScandals w_2, vWearOf w_2) _ _ hR hP hD hS dX6_passHour_78

abbrev rm_X6_lend : Room := { frames := 2, cells := 0, slots := 0, locals := 43 }
set_option maxHeartbeats 4000000 in
set_option maxRecDepth 100000 in
theorem c_X6_lend (l : Launch) (δ : va_G) (cI cJ cZ : ClassId) (aR0 aR1 aR2 aR3 aR4 aR5 aR6 aR7 aR8 aR9 aR10 aR11 aR12 aR13 aR14 aR15 aR16 aR17 aR18 aR19 aR20 aR21 : Nat) (lv : LV) (sg : SG) (pd : PD) (ac : AC) (dd : DD) (hd : HD) (le : LE) (bd : BD) (my : MY) (lf : LF) (pa : PA) (kp : KP) (xa : Int32) (xb : Int32) (xh : Int32) (hca : vp_in xa 6) (hcb : vp_in xb 6) (hh : vp_in xh 24) : mMv l δ (mTy cI cJ cZ) yX6_lend wsX6_lend rm_X6_lend [.ref aR0, .int xa, .int xb, .int xh] (wR cI cJ cZ aR0 aR1 aR2 aR3 aR4 aR5 aR6 aR7 aR8 aR9 aR10 aR11 aR12 aR13 aR14 aR15 aR16 aR17 aR18 aR19 aR20 aR21 lv sg pd ac dd hd le bd my lf pa kp) (S := LV) (fun u => F_X6_lend lv xa xb xh = u) (fun u => (wR cI cJ cZ aR0 aR1 aR2 aR3 aR4 aR5 aR6 aR7 aR8 aR9 aR10 aR11 aR12 aR13 aR14 aR15 aR16 aR17 aR18 aR19 aR20 aR21 u sg pd ac dd hd le bd my lf pa kp)) := by
  refine mk_v (cc := cX6_lend) (maxL := 5) (by decide) rfl (Nat.le_of_ble_eq_true rfl) ?_
  intro p e s m args below meth c A Q ls H locs hx hb hml hts hown hK hNW hA hP hD hS hl hret
  have hown : s.vm.findClass RX6 = some m.cls := hown
  have hl : lv_has ls 5 [(0, .ref aR0), (1, .int xa), (2, .int xb), (3, .int xh)] := hl
  have hinX6 : ∀ w ∈ u_ws RX6 TX6 34, w ∈ wsX6_lend := (fun _ h => List.mem_cons_of_mem _ (List.mem_append_right _ (h)))
  have hR := F_X6_lend.eq_1 lv xa xb xh
  refine lv_aload_n hx hb dX6_lend_0 rfl (lv_at hl 0 rfl) ?_
  refine va_get (D := δ) (ci := 6) (v := .ref aR4) (C := RX6) (T := TX6) (N := 34) hx hb hts hinX6 hown hK hP 0 rfl rfl 6 (by decide) (hts (.fieldLink RX6 19 "GloveHoursModel" "wearOf" "[I") (List.mem_of_getElem? (i := 1) rfl)) (fun _ h9 => h9) rfl dX6_lend_1 ?_
  refine lv_iload_n hx hb dX6_lend_4 rfl (lv_at hl 1 rfl) ?_
  refine lv_iload_n hx hb dX6_lend_5 rfl (lv_at hl 3 rfl) ?_
  have hr := mrS (p := p) (e := e) (R := rm_X6_lend) (below := below) (meth := meth) (H := H) (locs := locs) (ls := ls) (As := [.int xa, .int xh]) (rest := [.ref aR4]) (c_X6_at l δ cI cJ cZ xa xh) hx hb hml hts hown hK hNW hP hD [] rfl rfl (va_cwS 2 hts gX6_lend_X6_at rfl rfl rfl (by decide +kernel) ⟨(Nat.le_of_ble_eq_true rfl), (Nat.le_of_ble_eq_true rfl)⟩) rfl hl.1 rfl (Nat.le_of_ble_eq_true rfl) dX6_lend_6
  refine mc_i (wr := (wR cI cJ cZ aR0 aR1 aR2 aR3 aR4 aR5 aR6 aR7 aR8 aR9 aR10 aR11 aR12 aR13 aR14 aR15 aR16 aR17 aR18 aR19 aR20 aR21 lv sg pd ac dd hd le bd my lf pa kp)) hr hP hD hS hA [] [0, 1, 2, 3, 4, 5, 6, 7, 8, 9, 10, 11, 12, 13, 14, 15, 16, 17, 18, 19, 20, 21] [0, 1, 2, 3, 4, 5, 6, 7, 8, 9, 10, 11, 12, 13, 14, 15, 16, 17, 18, 19, 20, 21] rfl rfl rfl rfl rfl (wn := fun _ => (wR cI cJ cZ aR0 aR1 aR2 aR3 aR4 aR5 aR6 aR7 aR8 aR9 aR10 aR11 aR12 aR13 aR14 aR15 aR16 aR17 aR18 aR19 aR20 aR21 lv sg pd ac dd hd le bd my lf pa kp)) (fun _ => rfl) (fun r_6 _ H locs hw_6 hP hD hS => ?_)
  have hP : va_P δ vwCl (wR cI cJ cZ aR0 aR1 aR2 aR3 aR4 aR5 aR6 aR7 aR8 aR9 aR10 aR11 aR12 aR13 aR14 aR15 aR16 aR17 aR18 aR19 aR20 aR21 lv sg pd ac dd hd le bd my lf pa kp) H := hP
  have hD : va_D A (wR cI cJ cZ aR0 aR1 aR2 aR3 aR4 aR5 aR6 aR7 aR8 aR9 aR10 aR11 aR12 aR13 aR14 aR15 aR16 aR17 aR18 aR19 aR20 aR21 lv sg pd ac dd hd le bd my lf pa kp) := hD
  have hR := bnd_eq hR hw_6.symm
  refine va_iald hx hb hK hP 4 0 rfl rfl (at_in hw_6 hca hh) dX6_lend_9 ?_
  refine lv_istore (lv' := [(4, .int ((vWearOf lv) r_6.toNatClampNeg)), (0, .ref aR0), (1, .int xa), (2, .int xb), (3, .int xh)]) hx hb dX6_lend_10 hl (by decide) rfl (fun ls hl => ?_)
  refine lv_aload_n hx hb dX6_lend_12 rfl (lv_at hl 1 rfl) ?_
  refine lv_iload_n hx hb dX6_lend_13 rfl (lv_at hl 2 rfl) ?_
  refine lv_iload_n hx hb dX6_lend_14 rfl (lv_at hl 4 rfl) ?_
  have hr := mrV (p := p) (e := e) (R := rm_X6_lend) (below := below) (meth := meth) (H := H) (locs := locs) (ls := ls) (As := [.int xa, .int xh]) (rest := []) (c_X6_lose l δ cI cJ cZ aR0 aR1 aR2 aR3 aR4 aR5 aR6 aR7 aR8 aR9 aR10 aR11 aR12 aR13 aR14 aR15 aR16 aR17 aR18 aR19 aR20 aR21 lv sg pd ac dd hd le bd my lf pa kp xa xh hca hh) hx hb hml hts hown hK hNW hP hD [0, 1, 2, 3, 4, 5, 6, 7, 8, 9, 10, 11, 12, 13, 14, 15, 16, 17, 18, 19, 20, 21] rfl rfl 6 0 rfl rfl (cwV 2 hts gX6_lend_X6_lose rfl rfl rfl (by decide +kernel) ⟨(Nat.le_of_ble_eq_true rfl), (Nat.le_of_ble_eq_true rfl)⟩) rfl hl.1 rfl (Nat.le_of_ble_eq_true rfl) dX6_lend_15
  refine mc_v (wr := ([] : va_W)) hr hP hD hS hA [0, 1, 2, 3, 4, 5, 6, 7, 8, 9, 10, 11, 12, 13, 14, 15, 16, 17, 18, 19, 20, 21] [] [0, 1, 2, 3, 4, 5, 6, 7, 8, 9, 10, 11, 12, 13, 14, 15, 16, 17, 18, 19, 20, 21] rfl rfl rfl rfl rfl (wn := fun u_15 => (wR cI cJ cZ aR0 aR1 aR2 aR3 aR4 aR5 aR6 aR7 aR8 aR9 aR10 aR11 aR12 aR13 aR14 aR15 aR16 aR17 aR18 aR19 aR20 aR21 u_15 sg pd ac dd hd le bd my lf pa kp)) (fun _ => rfl) (fun u_15 H locs hw_15 hP hD hS => ?_)
  have hP : va_P δ vwCl (wR cI cJ cZ aR0 aR1 aR2 aR3 aR4 aR5 aR6 aR7 aR8 aR9 aR10 aR11 aR12 aR13 aR14 aR15 aR16 aR17 aR18 aR19 aR20 aR21 u_15 sg pd ac dd hd le bd my lf pa kp) H := hP
  have hD : va_D A (wR cI cJ cZ aR0 aR1 aR2 aR3 aR4 aR5 aR6 aR7 aR8 aR9 aR10 aR11 aR12 aR13 aR14 aR15 aR16 aR17 aR18 aR19 aR20 aR21 u_15 sg pd ac dd hd le bd my lf pa kp) := hD
  have hR := bnd_eq hR hw_15.symm
  refine lv_aload_n hx hb dX6_lend_18 rfl (lv_at hl 1 rfl) ?_
  refine va_get (D := δ) (ci := 6) (v := .ref aR4) (C := RX6) (T := TX6) (N := 34) hx hb hts hinX6 hown hK hP 0 rfl rfl 6 (by decide) (hts (.fieldLink RX6 19 "GloveHoursModel" "wearOf" "[I") (List.mem_of_getElem? (i := 1) rfl)) (fun _ h9 => h9) rfl dX6_lend_19 ?_
  refine lv_iload_n hx hb dX6_lend_22 rfl (lv_at hl 3 rfl) ?_
  refine lv_iload_n hx hb dX6_lend_23 rfl (lv_at hl 4 rfl) ?_
  have hr := mrS (p := p) (e := e) (R := rm_X6_lend) (below := below) (meth := meth) (H := H) (locs := locs) (ls := ls) (As := [.int xb, .int xh]) (rest := [.ref aR4]) (c_X6_at l δ cI cJ cZ xb xh) hx hb hml hts hown hK hNW hP hD [] rfl rfl (va_cwS 2 hts gX6_lend_X6_at rfl rfl rfl (by decide +kernel) ⟨(Nat.le_of_ble_eq_true rfl), (Nat.le_of_ble_eq_true rfl)⟩) rfl hl.1 rfl (Nat.le_of_ble_eq_true rfl) dX6_lend_24
  refine mc_i (wr := (wR cI cJ cZ aR0 aR1 aR2 aR3 aR4 aR5 aR6 aR7 aR8 aR9 aR10 aR11 aR12 aR13 aR14 aR15 aR16 aR17 aR18 aR19 aR20 aR21 u_15 sg pd ac dd hd le bd my lf pa kp)) hr hP hD hS hA [] [0, 1, 2, 3, 4, 5, 6, 7, 8, 9, 10, 11, 12, 13, 14, 15, 16, 17, 18, 19, 20, 21] [0, 1, 2, 3, 4, 5, 6, 7, 8, 9, 10, 11, 12, 13, 14, 15, 16, 17, 18, 19, 20, 21] rfl rfl rfl rfl rfl (wn := fun _ => (wR cI cJ cZ aR0 aR1 aR2 aR3 aR4 aR5 aR6 aR7 aR8 aR9 aR10 aR11 aR12 aR13 aR14 aR15 aR16 aR17 aR18 aR19 aR20 aR21 u_15 sg pd ac dd hd le bd my lf pa kp)) (fun _ => rfl) (fun r_24 _ H locs hw_24 hP hD hS => ?_)
  have hP : va_P δ vwCl (wR cI cJ cZ aR0 aR1 aR2 aR3 aR4 aR5 aR6 aR7 aR8 aR9 aR10 aR11 aR12 aR13 aR14 aR15 aR16 aR17 aR18 aR19 aR20 aR21 u_15 sg pd ac dd hd le bd my lf pa kp) H := hP
  have hD : va_D A (wR cI cJ cZ aR0 aR1 aR2 aR3 aR4 aR5 aR6 aR7 aR8 aR9 aR10 aR11 aR12 aR13 aR14 aR15 aR16 aR17 aR18 aR19 aR20 aR21 u_15 sg pd ac dd hd le bd my lf pa kp) := hD
  have hR := bnd_eq hR hw_24.symm
  refine lv_iload hx hb dX6_lend_27 (lv_at hl 0 rfl) ?_
  refine va_iast hx hb hK hP hD hS 4 0 rfl rfl (at_in hw_24 hcb hh) dX6_lend_29 (fun H locs hP hD hS => ?_)
  have hP : va_P δ vwCl (wR cI cJ cZ aR0 aR1 aR2 aR3 aR4 aR5 aR6 aR7 aR8 aR9 aR10 aR11 aR12 aR13 aR14 aR15 aR16 aR17 aR18 aR19 aR20 aR21 (vCourtiers u_15, vClock u_15, vTears u_15, vLeft u_15, vRight u_15, vScandals u_15, (upd (vWearOf u_15) r_24.toNatClampNeg ((vWearOf lv) r_6.toNatClampNeg))) sg pd ac dd hd le bd my lf pa kp) H := hP
  have hD : va_D A (wR cI cJ cZ aR0 aR1 aR2 aR3 aR4 aR5 aR6 aR7 aR8 aR9 aR10 aR11 aR12 aR13 aR14 aR15 aR16 aR17 aR18 aR19 aR20 aR21 (vCourtiers u_15, vClock u_15, vTears u_15, vLeft u_15, vRight u_15, vScandals u_15, (upd (vWearOf u_15) r_24.toNatClampNeg ((vWearOf lv) r_6.toNatClampNeg))) sg pd ac dd hd le bd my lf pa kp) := hD
  exact hret _ _ (vCourtiers u_15, vClock u_15, vTears u_15, vLeft u_15, vRight u_15, vScandals u_15, (upd (vWearOf u_15) r_24.toNatClampNeg ((vWearOf lv) r_6.toNatClampNeg))) _ _ hR hP hD hS dX6_lend_30

abbrev rm_X6_happen : Room := { frames := 4, cells := 0, slots := 0, locals := 90 }
set_option maxHeartbeats 4000000 in
set_option maxRecDepth 100000 in
theorem c_X6_happen (l : Launch) (δ : va_G) (cI cJ cZ : ClassId) (aR0 aR1 aR2 aR3 aR4 aR5 aR6 aR7 aR8 aR9 aR10 aR11 aR12 aR13 aR14 aR15 aR16 aR17 aR18 aR19 aR20 aR21 : Nat) (lv : LV) (sg : SG) (pd : PD) (ac : AC) (dd : DD) (hd : HD) (le : LE) (bd : BD) (my : MY) (lf : LF) (pa : PA) (kp : KP) (xw : Int32) (xa : Int32) (xb : Int32) (xh : Int32) (hw : F_X6_whyNot lv xw xa xb xh = 0) (hh : vp_in xh 24) (hrk : rOK lv) (hdb : 0 ≤ (eDeeds dd).toInt ∧ (eDeeds dd).toInt ≤ 1000) : mMv l δ (mTy cI cJ cZ) yX6_happen wsX6_happen rm_X6_happen [.ref aR0, .int xw, .int xa, .int xb, .int xh] (wR cI cJ cZ aR0 aR1 aR2 aR3 aR4 aR5 aR6 aR7 aR8 aR9 aR10 aR11 aR12 aR13 aR14 aR15 aR16 aR17 aR18 aR19 aR20 aR21 lv sg pd ac dd hd le bd my lf pa kp) (S := LV × DD) (fun u => F_X6_happen lv dd xw xa xb xh = u) (fun u => (wR cI cJ cZ aR0 aR1 aR2 aR3 aR4 aR5 aR6 aR7 aR8 aR9 aR10 aR11 aR12 aR13 aR14 aR15 aR16 aR17 aR18 aR19 aR20 aR21 u.1 sg pd ac u.2 hd le bd my lf pa kp)) := by
  refine mk_v (cc := cX6_happen) (maxL := 5) (by decide) rfl (Nat.le_of_ble_eq_true rfl) ?_
  intro p e s m args below meth c A Q ls H locs hx hb hml hts hown hK hNW hA hP hD hS hl hret
  have hown : s.vm.findClass RX6 = some m.cls := hown
  have hl : lv_has ls 5 [(0, .ref aR0), (1, .int xw), (2, .int xa), (3, .int xb), (4, .int xh)] := hl
  have hinX6 : ∀ w ∈ u_ws RX6 TX6 34, w ∈ wsX6_happen := (fun _ h => List.mem_cons_of_mem _ (List.mem_append_right _ (h)))
  have hR := F_X6_happen.eq_1 lv dd xw xa xb xh
  refine lv_iload_n hx hb dX6_happen_0 rfl (lv_at hl 1 rfl) ?_
  by_cases c_1_0 : xw = (0 : Int32)
  · have hR := hR.trans (if_pos c_1_0)
    refine lv_tableIn (tgt := 40) (off := 39) hx hb dX6_happen_1 (by rw [c_1_0]; decide) (by rw [c_1_0]; decide) (by rw [c_1_0]; rfl) (by decide) ?_
    refine lv_aload_n hx hb dX6_happen_40 rfl (lv_at hl 0 rfl) ?_
    refine va_get (D := δ) (ci := 6) (v := .ref aR1) (C := RX6) (T := TX6) (N := 34) hx hb hts hinX6 hown hK hP 0 rfl rfl 3 (by decide) (hts (.fieldLink RX6 7 "GloveHoursModel" "left" "[I") (List.mem_of_getElem? (i := 1) rfl)) (fun _ h9 => h9) rfl dX6_happen_41 ?_
    refine lv_iload_n hx hb dX6_happen_44 rfl (lv_at hl 2 rfl) ?_
    refine lv_iload hx hb dX6_happen_45 (lv_at hl 4 rfl) ?_
    refine va_iast hx hb hK hP hD hS 1 0 rfl rfl (wn_a hw (by rw [c_1_0]; decide)) dX6_happen_47 (fun H locs hP hD hS => ?_)
    have hP : va_P δ vwCl (wR cI cJ cZ aR0 aR1 aR2 aR3 aR4 aR5 aR6 aR7 aR8 aR9 aR10 aR11 aR12 aR13 aR14 aR15 aR16 aR17 aR18 aR19 aR20 aR21 (vCourtiers lv, vClock lv, vTears lv, (upd (vLeft lv) xa.toNatClampNeg xh), vRight lv, vScandals lv, vWearOf lv) sg pd ac dd hd le bd my lf pa kp) H := hP
    have hD : va_D A (wR cI cJ cZ aR0 aR1 aR2 aR3 aR4 aR5 aR6 aR7 aR8 aR9 aR10 aR11 aR12 aR13 aR14 aR15 aR16 aR17 aR18 aR19 aR20 aR21 (vCourtiers lv, vClock lv, vTears lv, (upd (vLeft lv) xa.toNatClampNeg xh), vRight lv, vScandals lv, vWearOf lv) sg pd ac dd hd le bd my lf pa kp) := hD
    refine lv_goto (tgt := 117) hx hb dX6_happen_48 (by decide) ?_
    exact hret _ _ ((vCourtiers lv, vClock lv, vTears lv, (upd (vLeft lv) xa.toNatClampNeg xh), vRight lv, vScandals lv, vWearOf lv), dd) _ _ hR hP hD hS dX6_happen_117
  have hR := hR.trans (if_neg c_1_0)
  by_cases c_1_1 : xw = (1 : Int32)
  · have hR := hR.trans (if_pos c_1_1)
    refine lv_tableIn (tgt := 51) (off := 50) hx hb dX6_happen_1 (by rw [c_1_1]; decide) (by rw [c_1_1]; decide) (by rw [c_1_1]; rfl) (by decide) ?_
    refine lv_aload_n hx hb dX6_happen_51 rfl (lv_at hl 0 rfl) ?_
    refine va_get (D := δ) (ci := 6) (v := .ref aR2) (C := RX6) (T := TX6) (N := 34) hx hb hts hinX6 hown hK hP 0 rfl rfl 4 (by decide) (hts (.fieldLink RX6 13 "GloveHoursModel" "right" "[I") (List.mem_of_getElem? (i := 2) rfl)) (fun _ h9 => h9) rfl dX6_happen_52 ?_
    refine lv_iload_n hx hb dX6_happen_55 rfl (lv_at hl 2 rfl) ?_
    refine lv_iload hx hb dX6_happen_56 (lv_at hl 4 rfl) ?_
    refine va_iast hx hb hK hP hD hS 2 0 rfl rfl (wn_a hw (by rw [c_1_1]; decide)) dX6_happen_58 (fun H locs hP hD hS => ?_)
    have hP : va_P δ vwCl (wR cI cJ cZ aR0 aR1 aR2 aR3 aR4 aR5 aR6 aR7 aR8 aR9 aR10 aR11 aR12 aR13 aR14 aR15 aR16 aR17 aR18 aR19 aR20 aR21 (vCourtiers lv, vClock lv, vTears lv, vLeft lv, (upd (vRight lv) xa.toNatClampNeg xh), vScandals lv, vWearOf lv) sg pd ac dd hd le bd my lf pa kp) H := hP
    have hD : va_D A (wR cI cJ cZ aR0 aR1 aR2 aR3 aR4 aR5 aR6 aR7 aR8 aR9 aR10 aR11 aR12 aR13 aR14 aR15 aR16 aR17 aR18 aR19 aR20 aR21 (vCourtiers lv, vClock lv, vTears lv, vLeft lv, (upd (vRight lv) xa.toNatClampNeg xh), vScandals lv, vWearOf lv) sg pd ac dd hd le bd my lf pa kp) := hD
    refine lv_goto (tgt := 117) hx hb dX6_happen_59 (by decide) ?_
    exact hret _ _ ((vCourtiers lv, vClock lv, vTears lv, vLeft lv, (upd (vRight lv) xa.toNatClampNeg xh), vScandals lv, vWearOf lv), dd) _ _ hR hP hD hS dX6_happen_117
  have hR := hR.trans (if_neg c_1_1)
  by_cases c_1_2 : xw = (2 : Int32)
  · have hR := hR.trans (if_pos c_1_2)
    refine lv_tableIn (tgt := 62) (off := 61) hx hb dX6_happen_1 (by rw [c_1_2]; decide) (by rw [c_1_2]; decide) (by rw [c_1_2]; rfl) (by decide) ?_
    refine lv_aload_n hx hb dX6_happen_62 rfl (lv_at hl 0 rfl) ?_
    refine va_get (D := δ) (ci := 6) (v := .ref aR1) (C := RX6) (T := TX6) (N := 34) hx hb hts hinX6 hown hK hP 0 rfl rfl 3 (by decide) (hts (.fieldLink RX6 7 "GloveHoursModel" "left" "[I") (List.mem_of_getElem? (i := 1) rfl)) (fun _ h9 => h9) rfl dX6_happen_63 ?_
    refine lv_iload_n hx hb dX6_happen_66 rfl (lv_at hl 2 rfl) ?_
    refine lv_bipush (v := (24 : Int32)) hx hb dX6_happen_67 (by decide) ?_
    refine va_iast hx hb hK hP hD hS 1 0 rfl rfl (wn_a hw (by rw [c_1_2]; decide)) dX6_happen_69 (fun H locs hP hD hS => ?_)
    have hP : va_P δ vwCl (wR cI cJ cZ aR0 aR1 aR2 aR3 aR4 aR5 aR6 aR7 aR8 aR9 aR10 aR11 aR12 aR13 aR14 aR15 aR16 aR17 aR18 aR19 aR20 aR21 (vCourtiers lv, vClock lv, vTears lv, (upd (vLeft lv) xa.toNatClampNeg (24 : Int32)), vRight lv, vScandals lv, vWearOf lv) sg pd ac dd hd le bd my lf pa kp) H := hP
    have hD : va_D A (wR cI cJ cZ aR0 aR1 aR2 aR3 aR4 aR5 aR6 aR7 aR8 aR9 aR10 aR11 aR12 aR13 aR14 aR15 aR16 aR17 aR18 aR19 aR20 aR21 (vCourtiers lv, vClock lv, vTears lv, (upd (vLeft lv) xa.toNatClampNeg (24 : Int32)), vRight lv, vScandals lv, vWearOf lv) sg pd ac dd hd le bd my lf pa kp) := hD
    refine lv_aload_n hx hb dX6_happen_70 rfl (lv_at hl 0 rfl) ?_
    refine va_get (D := δ) (ci := 6) (v := .ref aR2) (C := RX6) (T := TX6) (N := 34) hx hb hts hinX6 hown hK hP 0 rfl rfl 4 (by decide) (hts (.fieldLink RX6 13 "GloveHoursModel" "right" "[I") (List.mem_of_getElem? (i := 2) rfl)) (fun _ h9 => h9) rfl dX6_happen_71 ?_
    refine lv_iload_n hx hb dX6_happen_74 rfl (lv_at hl 2 rfl) ?_
    refine lv_bipush (v := (24 : Int32)) hx hb dX6_happen_75 (by decide) ?_
    refine va_iast hx hb hK hP hD hS 2 0 rfl rfl (wn_a hw (by rw [c_1_2]; decide)) dX6_happen_77 (fun H locs hP hD hS => ?_)
    have hP : va_P δ vwCl (wR cI cJ cZ aR0 aR1 aR2 aR3 aR4 aR5 aR6 aR7 aR8 aR9 aR10 aR11 aR12 aR13 aR14 aR15 aR16 aR17 aR18 aR19 aR20 aR21 (vCourtiers lv, vClock lv, vTears lv, (upd (vLeft lv) xa.toNatClampNeg (24 : Int32)), (upd (vRight lv) xa.toNatClampNeg (24 : Int32)), vScandals lv, vWearOf lv) sg pd ac dd hd le bd my lf pa kp) H := hP
    have hD : va_D A (wR cI cJ cZ aR0 aR1 aR2 aR3 aR4 aR5 aR6 aR7 aR8 aR9 aR10 aR11 aR12 aR13 aR14 aR15 aR16 aR17 aR18 aR19 aR20 aR21 (vCourtiers lv, vClock lv, vTears lv, (upd (vLeft lv) xa.toNatClampNeg (24 : Int32)), (upd (vRight lv) xa.toNatClampNeg (24 : Int32)), vScandals lv, vWearOf lv) sg pd ac dd hd le bd my lf pa kp) := hD
    refine lv_goto (tgt := 117) hx hb dX6_happen_78 (by decide) ?_
    exact hret _ _ ((vCourtiers lv, vClock lv, vTears lv, (upd (vLeft lv) xa.toNatClampNeg (24 : Int32)), (upd (vRight lv) xa.toNatClampNeg (24 : Int32)), vScandals lv, vWearOf lv), dd) _ _ hR hP hD hS dX6_happen_117
  have hR := hR.trans (if_neg c_1_2)
  by_cases c_1_3 : xw = (3 : Int32)
  · have hR := hR.trans (if_pos c_1_3)
    refine lv_tableIn (tgt := 81) (off := 80) hx hb dX6_happen_1 (by rw [c_1_3]; decide) (by rw [c_1_3]; decide) (by rw [c_1_3]; rfl) (by decide) ?_
    refine lv_aload_n hx hb dX6_happen_81 rfl (lv_at hl 0 rfl) ?_
    refine lv_iload_n hx hb dX6_happen_82 rfl (lv_at hl 2 rfl) ?_
    have hr := mrV (p := p) (e := e) (R := rm_X6_happen) (below := below) (meth := meth) (H := H) (locs := locs) (ls := ls) (As := [.int xa]) (rest := []) (c_X6_doDeed l δ cI cJ cZ aR0 aR1 aR2 aR3 aR4 aR5 aR6 aR7 aR8 aR9 aR10 aR11 aR12 aR13 aR14 aR15 aR16 aR17 aR18 aR19 aR20 aR21 lv sg pd ac dd hd le bd my lf pa kp xa (wn_a hw (by rw [c_1_3]; decide)) (wn_r hw hrk (Or.inl c_1_3)) hdb.1) hx hb hml hts hown hK hNW hP hD [0, 1, 2, 3, 4, 5, 6, 7, 8, 9, 10, 11, 12, 13, 14, 15, 16, 17, 18, 19, 20, 21] rfl rfl 6 0 rfl rfl (cwV 1 hts gX6_happen_X6_doDeed rfl rfl rfl (by decide +kernel) ⟨(Nat.le_of_ble_eq_true rfl), (Nat.le_of_ble_eq_true rfl)⟩) rfl hl.1 rfl (Nat.le_of_ble_eq_true rfl) dX6_happen_83
    refine mc_v (wr := ([] : va_W)) hr hP hD hS hA [0, 1, 2, 3, 4, 5, 6, 7, 8, 9, 10, 11, 12, 13, 14, 15, 16, 17, 18, 19, 20, 21] [] [0, 1, 2, 3, 4, 5, 6, 7, 8, 9, 10, 11, 12, 13, 14, 15, 16, 17, 18, 19, 20, 21] rfl rfl rfl rfl rfl (wn := fun u_83 => (wR cI cJ cZ aR0 aR1 aR2 aR3 aR4 aR5 aR6 aR7 aR8 aR9 aR10 aR11 aR12 aR13 aR14 aR15 aR16 aR17 aR18 aR19 aR20 aR21 u_83.1 sg pd ac u_83.2 hd le bd my lf pa kp)) (fun _ => rfl) (fun u_83 H locs hw_83 hP hD hS => ?_)
    have hP : va_P δ vwCl (wR cI cJ cZ aR0 aR1 aR2 aR3 aR4 aR5 aR6 aR7 aR8 aR9 aR10 aR11 aR12 aR13 aR14 aR15 aR16 aR17 aR18 aR19 aR20 aR21 u_83.1 sg pd ac u_83.2 hd le bd my lf pa kp) H := hP
    have hD : va_D A (wR cI cJ cZ aR0 aR1 aR2 aR3 aR4 aR5 aR6 aR7 aR8 aR9 aR10 aR11 aR12 aR13 aR14 aR15 aR16 aR17 aR18 aR19 aR20 aR21 u_83.1 sg pd ac u_83.2 hd le bd my lf pa kp) := hD
    have hR := bnd_eq hR hw_83.symm
    refine lv_goto (tgt := 117) hx hb dX6_happen_86 (by decide) ?_
    exact hret _ _ (u_83.1, u_83.2) _ _ hR hP hD hS dX6_happen_117
  have hR := hR.trans (if_neg c_1_3)
  by_cases c_1_4 : xw = (4 : Int32)
  · have hR := hR.trans (if_pos c_1_4)
    refine lv_tableIn (tgt := 89) (off := 88) hx hb dX6_happen_1 (by rw [c_1_4]; decide) (by rw [c_1_4]; decide) (by rw [c_1_4]; rfl) (by decide) ?_
    refine lv_aload_n hx hb dX6_happen_89 rfl (lv_at hl 0 rfl) ?_
    refine lv_iload_n hx hb dX6_happen_90 rfl (lv_at hl 2 rfl) ?_
    have hr := mrV (p := p) (e := e) (R := rm_X6_happen) (below := below) (meth := meth) (H := H) (locs := locs) (ls := ls) (As := [.int xa]) (rest := []) (c_X6_doDeed l δ cI cJ cZ aR0 aR1 aR2 aR3 aR4 aR5 aR6 aR7 aR8 aR9 aR10 aR11 aR12 aR13 aR14 aR15 aR16 aR17 aR18 aR19 aR20 aR21 lv sg pd ac dd hd le bd my lf pa kp xa (wn_a hw (by rw [c_1_4]; decide)) (wn_r hw hrk (Or.inr c_1_4)) hdb.1) hx hb hml hts hown hK hNW hP hD [0, 1, 2, 3, 4, 5, 6, 7, 8, 9, 10, 11, 12, 13, 14, 15, 16, 17, 18, 19, 20, 21] rfl rfl 6 0 rfl rfl (cwV 1 hts gX6_happen_X6_doDeed rfl rfl rfl (by decide +kernel) ⟨(Nat.le_of_ble_eq_true rfl), (Nat.le_of_ble_eq_true rfl)⟩) rfl hl.1 rfl (Nat.le_of_ble_eq_true rfl) dX6_happen_91
    refine mc_v (wr := ([] : va_W)) hr hP hD hS hA [0, 1, 2, 3, 4, 5, 6, 7, 8, 9, 10, 11, 12, 13, 14, 15, 16, 17, 18, 19, 20, 21] [] [0, 1, 2, 3, 4, 5, 6, 7, 8, 9, 10, 11, 12, 13, 14, 15, 16, 17, 18, 19, 20, 21] rfl rfl rfl rfl rfl (wn := fun u_91 => (wR cI cJ cZ aR0 aR1 aR2 aR3 aR4 aR5 aR6 aR7 aR8 aR9 aR10 aR11 aR12 aR13 aR14 aR15 aR16 aR17 aR18 aR19 aR20 aR21 u_91.1 sg pd ac u_91.2 hd le bd my lf pa kp)) (fun _ => rfl) (fun u_91 H locs hw_91 hP hD hS => ?_)
    have hP : va_P δ vwCl (wR cI cJ cZ aR0 aR1 aR2 aR3 aR4 aR5 aR6 aR7 aR8 aR9 aR10 aR11 aR12 aR13 aR14 aR15 aR16 aR17 aR18 aR19 aR20 aR21 u_91.1 sg pd ac u_91.2 hd le bd my lf pa kp) H := hP
    have hD : va_D A (wR cI cJ cZ aR0 aR1 aR2 aR3 aR4 aR5 aR6 aR7 aR8 aR9 aR10 aR11 aR12 aR13 aR14 aR15 aR16 aR17 aR18 aR19 aR20 aR21 u_91.1 sg pd ac u_91.2 hd le bd my lf pa kp) := hD
    have hR := bnd_eq hR hw_91.symm
    refine lv_aload_n hx hb dX6_happen_94 rfl (lv_at hl 0 rfl) ?_
    refine lv_iload_n hx hb dX6_happen_95 rfl (lv_at hl 3 rfl) ?_
    have hr := mrV (p := p) (e := e) (R := rm_X6_happen) (below := below) (meth := meth) (H := H) (locs := locs) (ls := ls) (As := [.int xb]) (rest := []) (c_X6_doDeed l δ cI cJ cZ aR0 aR1 aR2 aR3 aR4 aR5 aR6 aR7 aR8 aR9 aR10 aR11 aR12 aR13 aR14 aR15 aR16 aR17 aR18 aR19 aR20 aR21 u_91.1 sg pd ac u_91.2 hd le bd my lf pa kp xb (wn_b hw (Or.inl c_1_4)) (wn_rb hw hrk c_1_4 hw_91) (dd_ge hdb hw_91)) hx hb hml hts hown hK hNW hP hD [0, 1, 2, 3, 4, 5, 6, 7, 8, 9, 10, 11, 12, 13, 14, 15, 16, 17, 18, 19, 20, 21] rfl rfl 6 0 rfl rfl (cwV 1 hts gX6_happen_X6_doDeed rfl rfl rfl (by decide +kernel) ⟨(Nat.le_of_ble_eq_true rfl), (Nat.le_of_ble_eq_true rfl)⟩) rfl hl.1 rfl (Nat.le_of_ble_eq_true rfl) dX6_happen_96
    refine mc_v (wr := ([] : va_W)) hr hP hD hS hA [0, 1, 2, 3, 4, 5, 6, 7, 8, 9, 10, 11, 12, 13, 14, 15, 16, 17, 18, 19, 20, 21] [] [0, 1, 2, 3, 4, 5, 6, 7, 8, 9, 10, 11, 12, 13, 14, 15, 16, 17, 18, 19, 20, 21] rfl rfl rfl rfl rfl (wn := fun u_96 => (wR cI cJ cZ aR0 aR1 aR2 aR3 aR4 aR5 aR6 aR7 aR8 aR9 aR10 aR11 aR12 aR13 aR14 aR15 aR16 aR17 aR18 aR19 aR20 aR21 u_96.1 sg pd ac u_96.2 hd le bd my lf pa kp)) (fun _ => rfl) (fun u_96 H locs hw_96 hP hD hS => ?_)
    have hP : va_P δ vwCl (wR cI cJ cZ aR0 aR1 aR2 aR3 aR4 aR5 aR6 aR7 aR8 aR9 aR10 aR11 aR12 aR13 aR14 aR15 aR16 aR17 aR18 aR19 aR20 aR21 u_96.1 sg pd ac u_96.2 hd le bd my lf pa kp) H := hP
    have hD : va_D A (wR cI cJ cZ aR0 aR1 aR2 aR3 aR4 aR5 aR6 aR7 aR8 aR9 aR10 aR11 aR12 aR13 aR14 aR15 aR16 aR17 aR18 aR19 aR20 aR21 u_96.1 sg pd ac u_96.2 hd le bd my lf pa kp) := hD
    have hR := bnd_eq hR hw_96.symm
    refine lv_goto (tgt := 117) hx hb dX6_happen_99 (by decide) ?_
    exact hret _ _ (u_96.1, u_96.2) _ _ hR hP hD hS dX6_happen_117
  have hR := hR.trans (if_neg c_1_4)
  by_cases c_1_5 : xw = (5 : Int32)
  · have hR := hR.trans (if_pos c_1_5)
    refine lv_tableIn (tgt := 102) (off := 101) hx hb dX6_happen_1 (by rw [c_1_5]; decide) (by rw [c_1_5]; decide) (by rw [c_1_5]; rfl) (by decide) ?_
    refine lv_aload_n hx hb dX6_happen_102 rfl (lv_at hl 0 rfl) ?_
    refine lv_iload_n hx hb dX6_happen_103 rfl (lv_at hl 2 rfl) ?_
    refine lv_iload_n hx hb dX6_happen_104 rfl (lv_at hl 3 rfl) ?_
    refine lv_iload hx hb dX6_happen_105 (lv_at hl 4 rfl) ?_
    have hr := mrV (p := p) (e := e) (R := rm_X6_happen) (below := below) (meth := meth) (H := H) (locs := locs) (ls := ls) (As := [.int xa, .int xb, .int xh]) (rest := []) (c_X6_lend l δ cI cJ cZ aR0 aR1 aR2 aR3 aR4 aR5 aR6 aR7 aR8 aR9 aR10 aR11 aR12 aR13 aR14 aR15 aR16 aR17 aR18 aR19 aR20 aR21 lv sg pd ac dd hd le bd my lf pa kp xa xb xh (wn_a hw (by rw [c_1_5]; decide)) (wn_b hw (Or.inr c_1_5)) hh) hx hb hml hts hown hK hNW hP hD [0, 1, 2, 3, 4, 5, 6, 7, 8, 9, 10, 11, 12, 13, 14, 15, 16, 17, 18, 19, 20, 21] rfl rfl 6 0 rfl rfl (cwV 3 hts gX6_happen_X6_lend rfl rfl rfl (by decide +kernel) ⟨(Nat.le_of_ble_eq_true rfl), (Nat.le_of_ble_eq_true rfl)⟩) rfl hl.1 rfl (Nat.le_of_ble_eq_true rfl) dX6_happen_107
    refine mc_v (wr := ([] : va_W)) hr hP hD hS hA [0, 1, 2, 3, 4, 5, 6, 7, 8, 9, 10, 11, 12, 13, 14, 15, 16, 17, 18, 19, 20, 21] [] [0, 1, 2, 3, 4, 5, 6, 7, 8, 9, 10, 11, 12, 13, 14, 15, 16, 17, 18, 19, 20, 21] rfl rfl rfl rfl rfl (wn := fun u_107 => (wR cI cJ cZ aR0 aR1 aR2 aR3 aR4 aR5 aR6 aR7 aR8 aR9 aR10 aR11 aR12 aR13 aR14 aR15 aR16 aR17 aR18 aR19 aR20 aR21 u_107 sg pd ac dd hd le bd my lf pa kp)) (fun _ => rfl) (fun u_107 H locs hw_107 hP hD hS => ?_)
    have hP : va_P δ vwCl (wR cI cJ cZ aR0 aR1 aR2 aR3 aR4 aR5 aR6 aR7 aR8 aR9 aR10 aR11 aR12 aR13 aR14 aR15 aR16 aR17 aR18 aR19 aR20 aR21 u_107 sg pd ac dd hd le bd my lf pa kp) H := hP
    have hD : va_D A (wR cI cJ cZ aR0 aR1 aR2 aR3 aR4 aR5 aR6 aR7 aR8 aR9 aR10 aR11 aR12 aR13 aR14 aR15 aR16 aR17 aR18 aR19 aR20 aR21 u_107 sg pd ac dd hd le bd my lf pa kp) := hD
    have hR := bnd_eq hR hw_107.symm
    refine lv_goto (tgt := 117) hx hb dX6_happen_110 (by decide) ?_
    exact hret _ _ (u_107, dd) _ _ hR hP hD hS dX6_happen_117
  have hR := hR.trans (if_neg c_1_5)
  refine lv_tableOut (tgt := 113) hx hb dX6_happen_1 (by have e0 : xw.toInt ≠ 0 := fun e => c_1_0 (Int32.toInt_inj.mp e); have e1 : xw.toInt ≠ 1 := fun e => c_1_1 (Int32.toInt_inj.mp e); have e2 : xw.toInt ≠ 2 := fun e => c_1_2 (Int32.toInt_inj.mp e); have e3 : xw.toInt ≠ 3 := fun e => c_1_3 (Int32.toInt_inj.mp e); have e4 : xw.toInt ≠ 4 := fun e => c_1_4 (Int32.toInt_inj.mp e); have e5 : xw.toInt ≠ 5 := fun e => c_1_5 (Int32.toInt_inj.mp e); omega) (by decide) ?_
  refine lv_aload_n hx hb dX6_happen_113 rfl (lv_at hl 0 rfl) ?_
  have hr := mrV (p := p) (e := e) (R := rm_X6_happen) (below := below) (meth := meth) (H := H) (locs := locs) (ls := ls) (As := []) (rest := []) (c_X6_passHour l δ cI cJ cZ aR0 aR1 aR2 aR3 aR4 aR5 aR6 aR7 aR8 aR9 aR10 aR11 aR12 aR13 aR14 aR15 aR16 aR17 aR18 aR19 aR20 aR21 lv sg pd ac dd hd le bd my lf pa kp) hx hb hml hts hown hK hNW hP hD [0, 1, 2, 3, 4, 5, 6, 7, 8, 9, 10, 11, 12, 13, 14, 15, 16, 17, 18, 19, 20, 21] rfl rfl 6 0 rfl rfl (cwV 0 hts gX6_happen_X6_passHour rfl rfl rfl (by decide +kernel) ⟨(Nat.le_of_ble_eq_true rfl), (Nat.le_of_ble_eq_true rfl)⟩) rfl hl.1 rfl (Nat.le_of_ble_eq_true rfl) dX6_happen_114
  refine mc_v (wr := ([] : va_W)) hr hP hD hS hA [0, 1, 2, 3, 4, 5, 6, 7, 8, 9, 10, 11, 12, 13, 14, 15, 16, 17, 18, 19, 20, 21] [] [0, 1, 2, 3, 4, 5, 6, 7, 8, 9, 10, 11, 12, 13, 14, 15, 16, 17, 18, 19, 20, 21] rfl rfl rfl rfl rfl (wn := fun u_114 => (wR cI cJ cZ aR0 aR1 aR2 aR3 aR4 aR5 aR6 aR7 aR8 aR9 aR10 aR11 aR12 aR13 aR14 aR15 aR16 aR17 aR18 aR19 aR20 aR21 u_114 sg pd ac dd hd le bd my lf pa kp)) (fun _ => rfl) (fun u_114 H locs hw_114 hP hD hS => ?_)
  have hP : va_P δ vwCl (wR cI cJ cZ aR0 aR1 aR2 aR3 aR4 aR5 aR6 aR7 aR8 aR9 aR10 aR11 aR12 aR13 aR14 aR15 aR16 aR17 aR18 aR19 aR20 aR21 u_114 sg pd ac dd hd le bd my lf pa kp) H := hP
  have hD : va_D A (wR cI cJ cZ aR0 aR1 aR2 aR3 aR4 aR5 aR6 aR7 aR8 aR9 aR10 aR11 aR12 aR13 aR14 aR15 aR16 aR17 aR18 aR19 aR20 aR21 u_114 sg pd ac dd hd le bd my lf pa kp) := hD
  have hR := bnd_eq hR hw_114.symm
  exact hret _ _ (u_114, dd) _ _ hR hP hD hS dX6_happen_117

abbrev rm_X6_store_had : Room := { frames := 0, cells := 0, slots := 0, locals := 0 }
set_option maxHeartbeats 4000000 in
set_option maxRecDepth 100000 in
theorem c_X6_store_had (l : Launch) (δ : va_G) (cI cJ cZ : ClassId) (aR0 aR1 aR2 aR3 aR4 aR5 aR6 aR7 aR8 aR9 aR10 aR11 aR12 aR13 aR14 aR15 aR16 aR17 aR18 aR19 aR20 aR21 : Nat) (lv : LV) (sg : SG) (pd : PD) (ac : AC) (dd : DD) (hd : HD) (le : LE) (bd : BD) (my : MY) (lf : LF) (pa : PA) (kp : KP) : mMv l δ (mTy cI cJ cZ) yX6_store wsX6_store rm_X6_store_had [.ref aR0, .ref aR15] (wR cI cJ cZ aR0 aR1 aR2 aR3 aR4 aR5 aR6 aR7 aR8 aR9 aR10 aR11 aR12 aR13 aR14 aR15 aR16 aR17 aR18 aR19 aR20 aR21 lv sg pd ac dd hd le bd my lf pa kp) (S := HD) (fun u => F_X6_store_had lv hd = u) (fun u => (wR cI cJ cZ aR0 aR1 aR2 aR3 aR4 aR5 aR6 aR7 aR8 aR9 aR10 aR11 aR12 aR13 aR14 aR15 aR16 aR17 aR18 aR19 aR20 aR21 lv sg pd ac dd u le bd my lf pa kp)) := by
  refine mk_v (cc := cX6_store) (maxL := 3) (by decide) rfl (Nat.le_of_ble_eq_true rfl) ?_
  intro p e s m args below meth c A Q ls H locs hx hb hml hts hown hK hNW hA hP hD hS hl hret
  have hown : s.vm.findClass RX6 = some m.cls := hown
  have hl : lv_has ls 3 [(0, .ref aR0), (1, .ref aR15)] := hl
  have hinX6 : ∀ w ∈ u_ws RX6 TX6 34, w ∈ wsX6_store := (fun _ h => List.mem_cons_of_mem _ (List.mem_append_right _ (h)))
  have hR := F_X6_store_had.eq_1 lv hd
  refine lv_iconst (v := (0 : Int32)) hx hb dX6_store_0 (by decide) ?_
  refine lv_istore_n (lv' := [(2, .int (0 : Int32)), (0, .ref aR0), (1, .ref aR15)]) hx hb dX6_store_1 rfl hl (by decide) rfl (fun ls hl => ?_)
  have hloop_2 : ∀ (n_2 : Nat) (i_2 : Nat) (hd_2 : HD) (H : Heap) (locs : List Loc) (ls : Array Slot), (hi_2 : i_2 ≤ 6) → (hn_2 : 6 < i_2 + n_2) → (hP : va_P δ vwCl (wR cI cJ cZ aR0 aR1 aR2 aR3 aR4 aR5 aR6 aR7 aR8 aR9 aR10 aR11 aR12 aR13 aR14 aR15 aR16 aR17 aR18 aR19 aR20 aR21 lv sg pd ac dd hd_2 le bd my lf pa kp) H) → (hD : va_D A (wR cI cJ cZ aR0 aR1 aR2 aR3 aR4 aR5 aR6 aR7 aR8 aR9 aR10 aR11 aR12 aR13 aR14 aR15 aR16 aR17 aR18 aR19 aR20 aR21 lv sg pd ac dd hd_2 le bd my lf pa kp)) → (hS : va_S A s.heap H locs) → (hl : lv_has ls 3 [(2, .int (nI i_2)), (0, .ref aR0), (1, .ref aR15)]) → (kk : ∀ (w_2 : HD) (H : Heap) (locs : List Loc) (ls : Array Slot), L_X6_store_had_2 lv n_2 i_2 hd_2 = w_2 → va_P δ vwCl (wR cI cJ cZ aR0 aR1 aR2 aR3 aR4 aR5 aR6 aR7 aR8 aR9 aR10 aR11 aR12 aR13 aR14 aR15 aR16 aR17 aR18 aR19 aR20 aR21 lv sg pd ac dd w_2 le bd my lf pa kp) H → va_D A (wR cI cJ cZ aR0 aR1 aR2 aR3 aR4 aR5 aR6 aR7 aR8 aR9 aR10 aR11 aR12 aR13 aR14 aR15 aR16 aR17 aR18 aR19 aR20 aR21 lv sg pd ac dd w_2 le bd my lf pa kp) → va_S A s.heap H locs → lv_has ls 3 [(0, .ref aR0), (1, .ref aR15)] → W p l e rm_X6_store_had s m args below meth c H locs 0 0 Q (F0 m 47 ls [])) → W p l e rm_X6_store_had s m args below meth c H locs 0 0 Q (F0 m 2 ls []) := by
    intro n_2
    induction n_2 with
    | zero => intro i_2 hd_2 H locs ls hi_2 hn_2 hP hD hS hl kk; exact absurd hn_2 (by omega)
    | succ n_2 ih_2 =>
      intro i_2 hd_2 H locs ls hi_2 hn_2 hP hD hS hl kk
      have hR := L_X6_store_had_2_s lv n_2 i_2 hd_2
      refine lv_iload_n hx hb dX6_store_2 rfl (lv_at hl 0 rfl) ?_
      refine lv_bipush (v := (6 : Int32)) hx hb dX6_store_3 (by decide) ?_
      refine lv_icmp_ge (tgt := 47) hx hb dX6_store_5 (by decide) (fun c_5 => ?_) (fun c_5 => ?_)
      · have c_5 : ((6 : Int32) ≤ (nI i_2)) := c_5
        have hR := hR.trans (if_pos c_5)
        exact kk hd_2 H locs ls hR hP hD hS (lv_sub hl [1, 2] rfl)
      · have c_5 : ¬ ((6 : Int32) ≤ (nI i_2)) := c_5
        have hR := hR.trans (if_neg c_5)
        have hlt_2 : i_2 < 6 := lt_g c_5 hi_2 (by decide)
        refine lv_aload_n hx hb dX6_store_8 rfl (lv_at hl 2 rfl) ?_
        refine lv_iload_n hx hb dX6_store_9 rfl (lv_at hl 0 rfl) ?_
        refine lv_aload_n hx hb dX6_store_10 rfl (lv_at hl 1 rfl) ?_
        refine va_get (D := δ) (ci := 6) (v := .ref aR1) (C := RX6) (T := TX6) (N := 34) hx hb hts hinX6 hown hK hP 0 rfl rfl 3 (by decide) (hts (.fieldLink RX6 7 "GloveHoursModel" "left" "[I") (List.mem_of_getElem? (i := 1) rfl)) (fun _ h9 => h9) rfl dX6_store_11 ?_
        refine lv_iload_n hx hb dX6_store_14 rfl (lv_at hl 0 rfl) ?_
        refine va_iald hx hb hK hP 1 0 rfl rfl (vp_in_nI (by omega) (by decide)) dX6_store_15 ?_
        refine va_iast hx hb hK hP hD hS 15 0 rfl rfl (vp_in_nI (by omega) (by decide)) dX6_store_16 (fun H locs hP hD hS => ?_)
        have hP : va_P δ vwCl (wR cI cJ cZ aR0 aR1 aR2 aR3 aR4 aR5 aR6 aR7 aR8 aR9 aR10 aR11 aR12 aR13 aR14 aR15 aR16 aR17 aR18 aR19 aR20 aR21 lv sg pd ac dd (upd (hHad hd_2) (nI i_2).toNatClampNeg ((vLeft lv) (nI i_2).toNatClampNeg)) le bd my lf pa kp) H := hP
        have hD : va_D A (wR cI cJ cZ aR0 aR1 aR2 aR3 aR4 aR5 aR6 aR7 aR8 aR9 aR10 aR11 aR12 aR13 aR14 aR15 aR16 aR17 aR18 aR19 aR20 aR21 lv sg pd ac dd (upd (hHad hd_2) (nI i_2).toNatClampNeg ((vLeft lv) (nI i_2).toNatClampNeg)) le bd my lf pa kp) := hD
        refine lv_aload_n hx hb dX6_store_17 rfl (lv_at hl 2 rfl) ?_
        refine lv_bipush (v := (6 : Int32)) hx hb dX6_store_18 (by decide) ?_
        refine lv_iload_n hx hb dX6_store_20 rfl (lv_at hl 0 rfl) ?_
        refine lv_iadd hx hb dX6_store_21 ?_
        refine lv_topi (fun y_21 e_21 => ?_)
        obtain rfl : y_21 = (nI (6 + i_2)) := e_21.trans (nI_add 6 i_2)
        refine lv_aload_n hx hb dX6_store_22 rfl (lv_at hl 1 rfl) ?_
        refine va_get (D := δ) (ci := 6) (v := .ref aR2) (C := RX6) (T := TX6) (N := 34) hx hb hts hinX6 hown hK hP 0 rfl rfl 4 (by decide) (hts (.fieldLink RX6 13 "GloveHoursModel" "right" "[I") (List.mem_of_getElem? (i := 2) rfl)) (fun _ h9 => h9) rfl dX6_store_23 ?_
        refine lv_iload_n hx hb dX6_store_26 rfl (lv_at hl 0 rfl) ?_
        refine va_iald hx hb hK hP 2 0 rfl rfl (vp_in_nI (by omega) (by decide)) dX6_store_27 ?_
        refine va_iast hx hb hK hP hD hS 15 0 rfl rfl (vp_in_nI (by omega) (by decide)) dX6_store_28 (fun H locs hP hD hS => ?_)
        have hP : va_P δ vwCl (wR cI cJ cZ aR0 aR1 aR2 aR3 aR4 aR5 aR6 aR7 aR8 aR9 aR10 aR11 aR12 aR13 aR14 aR15 aR16 aR17 aR18 aR19 aR20 aR21 lv sg pd ac dd (upd (upd (hHad hd_2) (nI i_2).toNatClampNeg ((vLeft lv) (nI i_2).toNatClampNeg)) (nI (6 + i_2)).toNatClampNeg ((vRight lv) (nI i_2).toNatClampNeg)) le bd my lf pa kp) H := hP
        have hD : va_D A (wR cI cJ cZ aR0 aR1 aR2 aR3 aR4 aR5 aR6 aR7 aR8 aR9 aR10 aR11 aR12 aR13 aR14 aR15 aR16 aR17 aR18 aR19 aR20 aR21 lv sg pd ac dd (upd (upd (hHad hd_2) (nI i_2).toNatClampNeg ((vLeft lv) (nI i_2).toNatClampNeg)) (nI (6 + i_2)).toNatClampNeg ((vRight lv) (nI i_2).toNatClampNeg)) le bd my lf pa kp) := hD
        refine lv_aload_n hx hb dX6_store_29 rfl (lv_at hl 2 rfl) ?_
        refine lv_bipush (v := (12 : Int32)) hx hb dX6_store_30 (by decide) ?_
        refine lv_iload_n hx hb dX6_store_32 rfl (lv_at hl 0 rfl) ?_
        refine lv_iadd hx hb dX6_store_33 ?_
        refine lv_topi (fun y_33 e_33 => ?_)
        obtain rfl : y_33 = (nI (12 + i_2)) := e_33.trans (nI_add 12 i_2)
        refine lv_aload_n hx hb dX6_store_34 rfl (lv_at hl 1 rfl) ?_
        refine va_get (D := δ) (ci := 6) (v := .ref aR3) (C := RX6) (T := TX6) (N := 34) hx hb hts hinX6 hown hK hP 0 rfl rfl 5 (by decide) (hts (.fieldLink RX6 16 "GloveHoursModel" "scandals" "[I") (List.mem_of_getElem? (i := 3) rfl)) (fun _ h9 => h9) rfl dX6_store_35 ?_
        refine lv_iload_n hx hb dX6_store_38 rfl (lv_at hl 0 rfl) ?_
        refine va_iald hx hb hK hP 3 0 rfl rfl (vp_in_nI (by omega) (by decide)) dX6_store_39 ?_
        refine va_iast hx hb hK hP hD hS 15 0 rfl rfl (vp_in_nI (by omega) (by decide)) dX6_store_40 (fun H locs hP hD hS => ?_)
        have hP : va_P δ vwCl (wR cI cJ cZ aR0 aR1 aR2 aR3 aR4 aR5 aR6 aR7 aR8 aR9 aR10 aR11 aR12 aR13 aR14 aR15 aR16 aR17 aR18 aR19 aR20 aR21 lv sg pd ac dd (upd (upd (upd (hHad hd_2) (nI i_2).toNatClampNeg ((vLeft lv) (nI i_2).toNatClampNeg)) (nI (6 + i_2)).toNatClampNeg ((vRight lv) (nI i_2).toNatClampNeg)) (nI (12 + i_2)).toNatClampNeg ((vScandals lv) (nI i_2).toNatClampNeg)) le bd my lf pa kp) H := hP
        have hD : va_D A (wR cI cJ cZ aR0 aR1 aR2 aR3 aR4 aR5 aR6 aR7 aR8 aR9 aR10 aR11 aR12 aR13 aR14 aR15 aR16 aR17 aR18 aR19 aR20 aR21 lv sg pd ac dd (upd (upd (upd (hHad hd_2) (nI i_2).toNatClampNeg ((vLeft lv) (nI i_2).toNatClampNeg)) (nI (6 + i_2)).toNatClampNeg ((vRight lv) (nI i_2).toNatClampNeg)) (nI (12 + i_2)).toNatClampNeg ((vScandals lv) (nI i_2).toNatClampNeg)) le bd my lf pa kp) := hD
        refine lv_iinc (v := (nI (i_2 + 1))) (lv' := [(2, .int (nI (i_2 + 1))), (0, .ref aR0), (1, .ref aR15)]) hx hb dX6_store_41 hl (k := 0) rfl (nI_1 i_2) (by decide) rfl (fun ls hl => ?_)
        refine lv_goto (tgt := 2) hx hb dX6_store_44 (by decide) ?_
        exact ih_2 (i_2 + 1) (upd (upd (upd (hHad hd_2) (nI i_2).toNatClampNeg ((vLeft lv) (nI i_2).toNatClampNeg)) (nI (6 + i_2)).toNatClampNeg ((vRight lv) (nI i_2).toNatClampNeg)) (nI (12 + i_2)).toNatClampNeg ((vScandals lv) (nI i_2).toNatClampNeg)) _ _ _ (by omega) (by omega) hP hD hS (lv_sub hl [0, 1, 2] rfl) (fun w_2 H locs ls he hP hD hS hl => kk w_2 H locs ls (hR.trans he) hP hD hS hl)
  refine hloop_2 (6 + 1) 0 hd _ _ _ (by omega) (by omega) hP hD hS (lv_sub hl [0, 1, 2] rfl) (fun w_2 H locs ls hw_2 hP hD hS hl => ?_)
  have hP : va_P δ vwCl (wR cI cJ cZ aR0 aR1 aR2 aR3 aR4 aR5 aR6 aR7 aR8 aR9 aR10 aR11 aR12 aR13 aR14 aR15 aR16 aR17 aR18 aR19 aR20 aR21 lv sg pd ac dd w_2 le bd my lf pa kp) H := hP
  have hD : va_D A (wR cI cJ cZ aR0 aR1 aR2 aR3 aR4 aR5 aR6 aR7 aR8 aR9 aR10 aR11 aR12 aR13 aR14 aR15 aR16 aR17 aR18 aR19 aR20 aR21 lv sg pd ac dd w_2 le bd my lf pa kp) := hD
  have hR := bnd_eq hR hw_2.symm
  refine lv_iconst (v := (0 : Int32)) hx hb dX6_store_47 (by decide) ?_
  refine lv_istore_n (lv' := [(2, .int (0 : Int32)), (0, .ref aR0), (1, .ref aR15)]) hx hb dX6_store_48 rfl hl (by decide) rfl (fun ls hl => ?_)
  have hloop_49 : ∀ (n_49 : Nat) (i_49 : Nat) (hd_49 : HD) (H : Heap) (locs : List Loc) (ls : Array Slot), (hi_49 : i_49 ≤ 144) → (hn_49 : 144 < i_49 + n_49) → (hP : va_P δ vwCl (wR cI cJ cZ aR0 aR1 aR2 aR3 aR4 aR5 aR6 aR7 aR8 aR9 aR10 aR11 aR12 aR13 aR14 aR15 aR16 aR17 aR18 aR19 aR20 aR21 lv sg pd ac dd hd_49 le bd my lf pa kp) H) → (hD : va_D A (wR cI cJ cZ aR0 aR1 aR2 aR3 aR4 aR5 aR6 aR7 aR8 aR9 aR10 aR11 aR12 aR13 aR14 aR15 aR16 aR17 aR18 aR19 aR20 aR21 lv sg pd ac dd hd_49 le bd my lf pa kp)) → (hS : va_S A s.heap H locs) → (hl : lv_has ls 3 [(2, .int (nI i_49)), (0, .ref aR0), (1, .ref aR15)]) → (kk : ∀ (w_49 : HD) (H : Heap) (locs : List Loc) (ls : Array Slot), L_X6_store_had_49 lv n_49 i_49 hd_49 = w_49 → va_P δ vwCl (wR cI cJ cZ aR0 aR1 aR2 aR3 aR4 aR5 aR6 aR7 aR8 aR9 aR10 aR11 aR12 aR13 aR14 aR15 aR16 aR17 aR18 aR19 aR20 aR21 lv sg pd ac dd w_49 le bd my lf pa kp) H → va_D A (wR cI cJ cZ aR0 aR1 aR2 aR3 aR4 aR5 aR6 aR7 aR8 aR9 aR10 aR11 aR12 aR13 aR14 aR15 aR16 aR17 aR18 aR19 aR20 aR21 lv sg pd ac dd w_49 le bd my lf pa kp) → va_S A s.heap H locs → lv_has ls 3 [(0, .ref aR0), (1, .ref aR15)] → W p l e rm_X6_store_had s m args below meth c H locs 0 0 Q (F0 m 74 ls [])) → W p l e rm_X6_store_had s m args below meth c H locs 0 0 Q (F0 m 49 ls []) := by
    intro n_49
    induction n_49 with
    | zero => intro i_49 hd_49 H locs ls hi_49 hn_49 hP hD hS hl kk; exact absurd hn_49 (by omega)
    | succ n_49 ih_49 =>
      intro i_49 hd_49 H locs ls hi_49 hn_49 hP hD hS hl kk
      have hR := L_X6_store_had_49_s lv n_49 i_49 hd_49
      refine lv_iload_n hx hb dX6_store_49 rfl (lv_at hl 0 rfl) ?_
      refine lv_sipush (v := (144 : Int32)) hx hb dX6_store_50 (by decide) ?_
      refine lv_icmp_ge (tgt := 74) hx hb dX6_store_53 (by decide) (fun c_53 => ?_) (fun c_53 => ?_)
      · have c_53 : ((144 : Int32) ≤ (nI i_49)) := c_53
        have hR := hR.trans (if_pos c_53)
        exact kk hd_49 H locs ls hR hP hD hS (lv_sub hl [1, 2] rfl)
      · have c_53 : ¬ ((144 : Int32) ≤ (nI i_49)) := c_53
        have hR := hR.trans (if_neg c_53)
        have hlt_49 : i_49 < 144 := lt_g c_53 hi_49 (by decide)
        refine lv_aload_n hx hb dX6_store_56 rfl (lv_at hl 2 rfl) ?_
        refine lv_bipush (v := (18 : Int32)) hx hb dX6_store_57 (by decide) ?_
        refine lv_iload_n hx hb dX6_store_59 rfl (lv_at hl 0 rfl) ?_
        refine lv_iadd hx hb dX6_store_60 ?_
        refine lv_topi (fun y_60 e_60 => ?_)
        obtain rfl : y_60 = (nI (18 + i_49)) := e_60.trans (nI_add 18 i_49)
        refine lv_aload_n hx hb dX6_store_61 rfl (lv_at hl 1 rfl) ?_
        refine va_get (D := δ) (ci := 6) (v := .ref aR4) (C := RX6) (T := TX6) (N := 34) hx hb hts hinX6 hown hK hP 0 rfl rfl 6 (by decide) (hts (.fieldLink RX6 19 "GloveHoursModel" "wearOf" "[I") (List.mem_of_getElem? (i := 4) rfl)) (fun _ h9 => h9) rfl dX6_store_62 ?_
        refine lv_iload_n hx hb dX6_store_65 rfl (lv_at hl 0 rfl) ?_
        refine va_iald hx hb hK hP 4 0 rfl rfl (vp_in_nI (by omega) (by decide)) dX6_store_66 ?_
        refine va_iast hx hb hK hP hD hS 15 0 rfl rfl (vp_in_nI (by omega) (by decide)) dX6_store_67 (fun H locs hP hD hS => ?_)
        have hP : va_P δ vwCl (wR cI cJ cZ aR0 aR1 aR2 aR3 aR4 aR5 aR6 aR7 aR8 aR9 aR10 aR11 aR12 aR13 aR14 aR15 aR16 aR17 aR18 aR19 aR20 aR21 lv sg pd ac dd (upd (hHad hd_49) (nI (18 + i_49)).toNatClampNeg ((vWearOf lv) (nI i_49).toNatClampNeg)) le bd my lf pa kp) H := hP
        have hD : va_D A (wR cI cJ cZ aR0 aR1 aR2 aR3 aR4 aR5 aR6 aR7 aR8 aR9 aR10 aR11 aR12 aR13 aR14 aR15 aR16 aR17 aR18 aR19 aR20 aR21 lv sg pd ac dd (upd (hHad hd_49) (nI (18 + i_49)).toNatClampNeg ((vWearOf lv) (nI i_49).toNatClampNeg)) le bd my lf pa kp) := hD
        refine lv_iinc (v := (nI (i_49 + 1))) (lv' := [(2, .int (nI (i_49 + 1))), (0, .ref aR0), (1, .ref aR15)]) hx hb dX6_store_68 hl (k := 0) rfl (nI_1 i_49) (by decide) rfl (fun ls hl => ?_)
        refine lv_goto (tgt := 49) hx hb dX6_store_71 (by decide) ?_
        exact ih_49 (i_49 + 1) (upd (hHad hd_49) (nI (18 + i_49)).toNatClampNeg ((vWearOf lv) (nI i_49).toNatClampNeg)) _ _ _ (by omega) (by omega) hP hD hS (lv_sub hl [0, 1, 2] rfl) (fun w_49 H locs ls he hP hD hS hl => kk w_49 H locs ls (hR.trans he) hP hD hS hl)
  refine hloop_49 (144 + 1) 0 w_2 _ _ _ (by omega) (by omega) hP hD hS (lv_sub hl [0, 1, 2] rfl) (fun w_49 H locs ls hw_49 hP hD hS hl => ?_)
  have hP : va_P δ vwCl (wR cI cJ cZ aR0 aR1 aR2 aR3 aR4 aR5 aR6 aR7 aR8 aR9 aR10 aR11 aR12 aR13 aR14 aR15 aR16 aR17 aR18 aR19 aR20 aR21 lv sg pd ac dd w_49 le bd my lf pa kp) H := hP
  have hD : va_D A (wR cI cJ cZ aR0 aR1 aR2 aR3 aR4 aR5 aR6 aR7 aR8 aR9 aR10 aR11 aR12 aR13 aR14 aR15 aR16 aR17 aR18 aR19 aR20 aR21 lv sg pd ac dd w_49 le bd my lf pa kp) := hD
  have hR := bnd_eq hR hw_49.symm
  refine lv_aload_n hx hb dX6_store_74 rfl (lv_at hl 1 rfl) ?_
  refine lv_sipush (v := (162 : Int32)) hx hb dX6_store_75 (by decide) ?_
  refine lv_aload_n hx hb dX6_store_78 rfl (lv_at hl 0 rfl) ?_
  refine va_get (D := δ) (ci := 6) (v := .int (vClock lv)) (C := RX6) (T := TX6) (N := 34) hx hb hts hinX6 hown hK hP 0 rfl rfl 1 (by decide) (hts (.fieldLink RX6 110 "GloveHoursModel" "clock" "I") (List.mem_of_getElem? (i := 5) rfl)) (fun _ h9 => h9) rfl dX6_store_79 ?_
  refine va_iast hx hb hK hP hD hS 15 0 rfl rfl (by unfold vp_in; decide) dX6_store_82 (fun H locs hP hD hS => ?_)
  have hP : va_P δ vwCl (wR cI cJ cZ aR0 aR1 aR2 aR3 aR4 aR5 aR6 aR7 aR8 aR9 aR10 aR11 aR12 aR13 aR14 aR15 aR16 aR17 aR18 aR19 aR20 aR21 lv sg pd ac dd (upd (hHad w_49) (162 : Int32).toNatClampNeg (vClock lv)) le bd my lf pa kp) H := hP
  have hD : va_D A (wR cI cJ cZ aR0 aR1 aR2 aR3 aR4 aR5 aR6 aR7 aR8 aR9 aR10 aR11 aR12 aR13 aR14 aR15 aR16 aR17 aR18 aR19 aR20 aR21 lv sg pd ac dd (upd (hHad w_49) (162 : Int32).toNatClampNeg (vClock lv)) le bd my lf pa kp) := hD
  exact hret _ _ (upd (hHad w_49) (162 : Int32).toNatClampNeg (vClock lv)) _ _ hR hP hD hS dX6_store_83

abbrev rm_X6_store_leaves : Room := { frames := 0, cells := 0, slots := 0, locals := 0 }
set_option maxHeartbeats 4000000 in
set_option maxRecDepth 100000 in
theorem c_X6_store_leaves (l : Launch) (δ : va_G) (cI cJ cZ : ClassId) (aR0 aR1 aR2 aR3 aR4 aR5 aR6 aR7 aR8 aR9 aR10 aR11 aR12 aR13 aR14 aR15 aR16 aR17 aR18 aR19 aR20 aR21 : Nat) (lv : LV) (sg : SG) (pd : PD) (ac : AC) (dd : DD) (hd : HD) (le : LE) (bd : BD) (my : MY) (lf : LF) (pa : PA) (kp : KP) : mMv l δ (mTy cI cJ cZ) yX6_store wsX6_store rm_X6_store_leaves [.ref aR0, .ref aR16] (wR cI cJ cZ aR0 aR1 aR2 aR3 aR4 aR5 aR6 aR7 aR8 aR9 aR10 aR11 aR12 aR13 aR14 aR15 aR16 aR17 aR18 aR19 aR20 aR21 lv sg pd ac dd hd le bd my lf pa kp) (S := LE) (fun u => F_X6_store_leaves lv le = u) (fun u => (wR cI cJ cZ aR0 aR1 aR2 aR3 aR4 aR5 aR6 aR7 aR8 aR9 aR10 aR11 aR12 aR13 aR14 aR15 aR16 aR17 aR18 aR19 aR20 aR21 lv sg pd ac dd hd u bd my lf pa kp)) := by
  refine mk_v (cc := cX6_store) (maxL := 3) (by decide) rfl (Nat.le_of_ble_eq_true rfl) ?_
  intro p e s m args below meth c A Q ls H locs hx hb hml hts hown hK hNW hA hP hD hS hl hret
  have hown : s.vm.findClass RX6 = some m.cls := hown
  have hl : lv_has ls 3 [(0, .ref aR0), (1, .ref aR16)] := hl
  have hinX6 : ∀ w ∈ u_ws RX6 TX6 34, w ∈ wsX6_store := (fun _ h => List.mem_cons_of_mem _ (List.mem_append_right _ (h)))
  have hR := F_X6_store_leaves.eq_1 lv le
  refine lv_iconst (v := (0 : Int32)) hx hb dX6_store_0 (by decide) ?_
  refine lv_istore_n (lv' := [(2, .int (0 : Int32)), (0, .ref aR0), (1, .ref aR16)]) hx hb dX6_store_1 rfl hl (by decide) rfl (fun ls hl => ?_)
  have hloop_2 : ∀ (n_2 : Nat) (i_2 : Nat) (le_2 : LE) (H : Heap) (locs : List Loc) (ls : Array Slot), (hi_2 : i_2 ≤ 6) → (hn_2 : 6 < i_2 + n_2) → (hP : va_P δ vwCl (wR cI cJ cZ aR0 aR1 aR2 aR3 aR4 aR5 aR6 aR7 aR8 aR9 aR10 aR11 aR12 aR13 aR14 aR15 aR16 aR17 aR18 aR19 aR20 aR21 lv sg pd ac dd hd le_2 bd my lf pa kp) H) → (hD : va_D A (wR cI cJ cZ aR0 aR1 aR2 aR3 aR4 aR5 aR6 aR7 aR8 aR9 aR10 aR11 aR12 aR13 aR14 aR15 aR16 aR17 aR18 aR19 aR20 aR21 lv sg pd ac dd hd le_2 bd my lf pa kp)) → (hS : va_S A s.heap H locs) → (hl : lv_has ls 3 [(2, .int (nI i_2)), (0, .ref aR0), (1, .ref aR16)]) → (kk : ∀ (w_2 : LE) (H : Heap) (locs : List Loc) (ls : Array Slot), L_X6_store_leaves_2 lv n_2 i_2 le_2 = w_2 → va_P δ vwCl (wR cI cJ cZ aR0 aR1 aR2 aR3 aR4 aR5 aR6 aR7 aR8 aR9 aR10 aR11 aR12 aR13 aR14 aR15 aR16 aR17 aR18 aR19 aR20 aR21 lv sg pd ac dd hd w_2 bd my lf pa kp) H → va_D A (wR cI cJ cZ aR0 aR1 aR2 aR3 aR4 aR5 aR6 aR7 aR8 aR9 aR10 aR11 aR12 aR13 aR14 aR15 aR16 aR17 aR18 aR19 aR20 aR21 lv sg pd ac dd hd w_2 bd my lf pa kp) → va_S A s.heap H locs → lv_has ls 3 [(0, .ref aR0), (1, .ref aR16)] → W p l e rm_X6_store_leaves s m args below meth c H locs 0 0 Q (F0 m 47 ls [])) → W p l e rm_X6_store_leaves s m args below meth c H locs 0 0 Q (F0 m 2 ls []) := by
    intro n_2
    induction n_2 with
    | zero => intro i_2 le_2 H locs ls hi_2 hn_2 hP hD hS hl kk; exact absurd hn_2 (by omega)
    | succ n_2 ih_2 =>
      intro i_2 le_2 H locs ls hi_2 hn_2 hP hD hS hl kk
      have hR := L_X6_store_leaves_2_s lv n_2 i_2 le_2
      refine lv_iload_n hx hb dX6_store_2 rfl (lv_at hl 0 rfl) ?_
      refine lv_bipush (v := (6 : Int32)) hx hb dX6_store_3 (by decide) ?_
      refine lv_icmp_ge (tgt := 47) hx hb dX6_store_5 (by decide) (fun c_5 => ?_) (fun c_5 => ?_)
      · have c_5 : ((6 : Int32) ≤ (nI i_2)) := c_5
        have hR := hR.trans (if_pos c_5)
        exact kk le_2 H locs ls hR hP hD hS (lv_sub hl [1, 2] rfl)
      · have c_5 : ¬ ((6 : Int32) ≤ (nI i_2)) := c_5
        have hR := hR.trans (if_neg c_5)
        have hlt_2 : i_2 < 6 := lt_g c_5 hi_2 (by decide)
        refine lv_aload_n hx hb dX6_store_8 rfl (lv_at hl 2 rfl) ?_
        refine lv_iload_n hx hb dX6_store_9 rfl (lv_at hl 0 rfl) ?_
        refine lv_aload_n hx hb dX6_store_10 rfl (lv_at hl 1 rfl) ?_
        refine va_get (D := δ) (ci := 6) (v := .ref aR1) (C := RX6) (T := TX6) (N := 34) hx hb hts hinX6 hown hK hP 0 rfl rfl 3 (by decide) (hts (.fieldLink RX6 7 "GloveHoursModel" "left" "[I") (List.mem_of_getElem? (i := 1) rfl)) (fun _ h9 => h9) rfl dX6_store_11 ?_
        refine lv_iload_n hx hb dX6_store_14 rfl (lv_at hl 0 rfl) ?_
        refine va_iald hx hb hK hP 1 0 rfl rfl (vp_in_nI (by omega) (by decide)) dX6_store_15 ?_
        refine va_iast hx hb hK hP hD hS 16 0 rfl rfl (vp_in_nI (by omega) (by decide)) dX6_store_16 (fun H locs hP hD hS => ?_)
        have hP : va_P δ vwCl (wR cI cJ cZ aR0 aR1 aR2 aR3 aR4 aR5 aR6 aR7 aR8 aR9 aR10 aR11 aR12 aR13 aR14 aR15 aR16 aR17 aR18 aR19 aR20 aR21 lv sg pd ac dd hd (upd (lLeaves le_2) (nI i_2).toNatClampNeg ((vLeft lv) (nI i_2).toNatClampNeg)) bd my lf pa kp) H := hP
        have hD : va_D A (wR cI cJ cZ aR0 aR1 aR2 aR3 aR4 aR5 aR6 aR7 aR8 aR9 aR10 aR11 aR12 aR13 aR14 aR15 aR16 aR17 aR18 aR19 aR20 aR21 lv sg pd ac dd hd (upd (lLeaves le_2) (nI i_2).toNatClampNeg ((vLeft lv) (nI i_2).toNatClampNeg)) bd my lf pa kp) := hD
        refine lv_aload_n hx hb dX6_store_17 rfl (lv_at hl 2 rfl) ?_
        refine lv_bipush (v := (6 : Int32)) hx hb dX6_store_18 (by decide) ?_
        refine lv_iload_n hx hb dX6_store_20 rfl (lv_at hl 0 rfl) ?_
        refine lv_iadd hx hb dX6_store_21 ?_
        refine lv_topi (fun y_21 e_21 => ?_)
        obtain rfl : y_21 = (nI (6 + i_2)) := e_21.trans (nI_add 6 i_2)
        refine lv_aload_n hx hb dX6_store_22 rfl (lv_at hl 1 rfl) ?_
        refine va_get (D := δ) (ci := 6) (v := .ref aR2) (C := RX6) (T := TX6) (N := 34) hx hb hts hinX6 hown hK hP 0 rfl rfl 4 (by decide) (hts (.fieldLink RX6 13 "GloveHoursModel" "right" "[I") (List.mem_of_getElem? (i := 2) rfl)) (fun _ h9 => h9) rfl dX6_store_23 ?_
        refine lv_iload_n hx hb dX6_store_26 rfl (lv_at hl 0 rfl) ?_
        refine va_iald hx hb hK hP 2 0 rfl rfl (vp_in_nI (by omega) (by decide)) dX6_store_27 ?_
        refine va_iast hx hb hK hP hD hS 16 0 rfl rfl (vp_in_nI (by omega) (by decide)) dX6_store_28 (fun H locs hP hD hS => ?_)
        have hP : va_P δ vwCl (wR cI cJ cZ aR0 aR1 aR2 aR3 aR4 aR5 aR6 aR7 aR8 aR9 aR10 aR11 aR12 aR13 aR14 aR15 aR16 aR17 aR18 aR19 aR20 aR21 lv sg pd ac dd hd (upd (upd (lLeaves le_2) (nI i_2).toNatClampNeg ((vLeft lv) (nI i_2).toNatClampNeg)) (nI (6 + i_2)).toNatClampNeg ((vRight lv) (nI i_2).toNatClampNeg)) bd my lf pa kp) H := hP
        have hD : va_D A (wR cI cJ cZ aR0 aR1 aR2 aR3 aR4 aR5 aR6 aR7 aR8 aR9 aR10 aR11 aR12 aR13 aR14 aR15 aR16 aR17 aR18 aR19 aR20 aR21 lv sg pd ac dd hd (upd (upd (lLeaves le_2) (nI i_2).toNatClampNeg ((vLeft lv) (nI i_2).toNatClampNeg)) (nI (6 + i_2)).toNatClampNeg ((vRight lv) (nI i_2).toNatClampNeg)) bd my lf pa kp) := hD
        refine lv_aload_n hx hb dX6_store_29 rfl (lv_at hl 2 rfl) ?_
        refine lv_bipush (v := (12 : Int32)) hx hb dX6_store_30 (by decide) ?_
        refine lv_iload_n hx hb dX6_store_32 rfl (lv_at hl 0 rfl) ?_
        refine lv_iadd hx hb dX6_store_33 ?_
        refine lv_topi (fun y_33 e_33 => ?_)
        obtain rfl : y_33 = (nI (12 + i_2)) := e_33.trans (nI_add 12 i_2)
        refine lv_aload_n hx hb dX6_store_34 rfl (lv_at hl 1 rfl) ?_
        refine va_get (D := δ) (ci := 6) (v := .ref aR3) (C := RX6) (T := TX6) (N := 34) hx hb hts hinX6 hown hK hP 0 rfl rfl 5 (by decide) (hts (.fieldLink RX6 16 "GloveHoursModel" "scandals" "[I") (List.mem_of_getElem? (i := 3) rfl)) (fun _ h9 => h9) rfl dX6_store_35 ?_
        refine lv_iload_n hx hb dX6_store_38 rfl (lv_at hl 0 rfl) ?_
        refine va_iald hx hb hK hP 3 0 rfl rfl (vp_in_nI (by omega) (by decide)) dX6_store_39 ?_
        refine va_iast hx hb hK hP hD hS 16 0 rfl rfl (vp_in_nI (by omega) (by decide)) dX6_store_40 (fun H locs hP hD hS => ?_)
        have hP : va_P δ vwCl (wR cI cJ cZ aR0 aR1 aR2 aR3 aR4 aR5 aR6 aR7 aR8 aR9 aR10 aR11 aR12 aR13 aR14 aR15 aR16 aR17 aR18 aR19 aR20 aR21 lv sg pd ac dd hd (upd (upd (upd (lLeaves le_2) (nI i_2).toNatClampNeg ((vLeft lv) (nI i_2).toNatClampNeg)) (nI (6 + i_2)).toNatClampNeg ((vRight lv) (nI i_2).toNatClampNeg)) (nI (12 + i_2)).toNatClampNeg ((vScandals lv) (nI i_2).toNatClampNeg)) bd my lf pa kp) H := hP
        have hD : va_D A (wR cI cJ cZ aR0 aR1 aR2 aR3 aR4 aR5 aR6 aR7 aR8 aR9 aR10 aR11 aR12 aR13 aR14 aR15 aR16 aR17 aR18 aR19 aR20 aR21 lv sg pd ac dd hd (upd (upd (upd (lLeaves le_2) (nI i_2).toNatClampNeg ((vLeft lv) (nI i_2).toNatClampNeg)) (nI (6 + i_2)).toNatClampNeg ((vRight lv) (nI i_2).toNatClampNeg)) (nI (12 + i_2)).toNatClampNeg ((vScandals lv) (nI i_2).toNatClampNeg)) bd my lf pa kp) := hD
        refine lv_iinc (v := (nI (i_2 + 1))) (lv' := [(2, .int (nI (i_2 + 1))), (0, .ref aR0), (1, .ref aR16)]) hx hb dX6_store_41 hl (k := 0) rfl (nI_1 i_2) (by decide) rfl (fun ls hl => ?_)
        refine lv_goto (tgt := 2) hx hb dX6_store_44 (by decide) ?_
        exact ih_2 (i_2 + 1) (upd (upd (upd (lLeaves le_2) (nI i_2).toNatClampNeg ((vLeft lv) (nI i_2).toNatClampNeg)) (nI (6 + i_2)).toNatClampNeg ((vRight lv) (nI i_2).toNatClampNeg)) (nI (12 + i_2)).toNatClampNeg ((vScandals lv) (nI i_2).toNatClampNeg)) _ _ _ (by omega) (by omega) hP hD hS (lv_sub hl [0, 1, 2] rfl) (fun w_2 H locs ls he hP hD hS hl => kk w_2 H locs ls (hR.trans he) hP hD hS hl)
  refine hloop_2 (6 + 1) 0 le _ _ _ (by omega) (by omega) hP hD hS (lv_sub hl [0, 1, 2] rfl) (fun w_2 H locs ls hw_2 hP hD hS hl => ?_)
  have hP : va_P δ vwCl (wR cI cJ cZ aR0 aR1 aR2 aR3 aR4 aR5 aR6 aR7 aR8 aR9 aR10 aR11 aR12 aR13 aR14 aR15 aR16 aR17 aR18 aR19 aR20 aR21 lv sg pd ac dd hd w_2 bd my lf pa kp) H := hP
  have hD : va_D A (wR cI cJ cZ aR0 aR1 aR2 aR3 aR4 aR5 aR6 aR7 aR8 aR9 aR10 aR11 aR12 aR13 aR14 aR15 aR16 aR17 aR18 aR19 aR20 aR21 lv sg pd ac dd hd w_2 bd my lf pa kp) := hD
  have hR := bnd_eq hR hw_2.symm
  refine lv_iconst (v := (0 : Int32)) hx hb dX6_store_47 (by decide) ?_
  refine lv_istore_n (lv' := [(2, .int (0 : Int32)), (0, .ref aR0), (1, .ref aR16)]) hx hb dX6_store_48 rfl hl (by decide) rfl (fun ls hl => ?_)
  have hloop_49 : ∀ (n_49 : Nat) (i_49 : Nat) (le_49 : LE) (H : Heap) (locs : List Loc) (ls : Array Slot), (hi_49 : i_49 ≤ 144) → (hn_49 : 144 < i_49 + n_49) → (hP : va_P δ vwCl (wR cI cJ cZ aR0 aR1 aR2 aR3 aR4 aR5 aR6 aR7 aR8 aR9 aR10 aR11 aR12 aR13 aR14 aR15 aR16 aR17 aR18 aR19 aR20 aR21 lv sg pd ac dd hd le_49 bd my lf pa kp) H) → (hD : va_D A (wR cI cJ cZ aR0 aR1 aR2 aR3 aR4 aR5 aR6 aR7 aR8 aR9 aR10 aR11 aR12 aR13 aR14 aR15 aR16 aR17 aR18 aR19 aR20 aR21 lv sg pd ac dd hd le_49 bd my lf pa kp)) → (hS : va_S A s.heap H locs) → (hl : lv_has ls 3 [(2, .int (nI i_49)), (0, .ref aR0), (1, .ref aR16)]) → (kk : ∀ (w_49 : LE) (H : Heap) (locs : List Loc) (ls : Array Slot), L_X6_store_leaves_49 lv n_49 i_49 le_49 = w_49 → va_P δ vwCl (wR cI cJ cZ aR0 aR1 aR2 aR3 aR4 aR5 aR6 aR7 aR8 aR9 aR10 aR11 aR12 aR13 aR14 aR15 aR16 aR17 aR18 aR19 aR20 aR21 lv sg pd ac dd hd w_49 bd my lf pa kp) H → va_D A (wR cI cJ cZ aR0 aR1 aR2 aR3 aR4 aR5 aR6 aR7 aR8 aR9 aR10 aR11 aR12 aR13 aR14 aR15 aR16 aR17 aR18 aR19 aR20 aR21 lv sg pd ac dd hd w_49 bd my lf pa kp) → va_S A s.heap H locs → lv_has ls 3 [(0, .ref aR0), (1, .ref aR16)] → W p l e rm_X6_store_leaves s m args below meth c H locs 0 0 Q (F0 m 74 ls [])) → W p l e rm_X6_store_leaves s m args below meth c H locs 0 0 Q (F0 m 49 ls []) := by
    intro n_49
    induction n_49 with
    | zero => intro i_49 le_49 H locs ls hi_49 hn_49 hP hD hS hl kk; exact absurd hn_49 (by omega)
    | succ n_49 ih_49 =>
      intro i_49 le_49 H locs ls hi_49 hn_49 hP hD hS hl kk
      have hR := L_X6_store_leaves_49_s lv n_49 i_49 le_49
      refine lv_iload_n hx hb dX6_store_49 rfl (lv_at hl 0 rfl) ?_
      refine lv_sipush (v := (144 : Int32)) hx hb dX6_store_50 (by decide) ?_
      refine lv_icmp_ge (tgt := 74) hx hb dX6_store_53 (by decide) (fun c_53 => ?_) (fun c_53 => ?_)
      · have c_53 : ((144 : Int32) ≤ (nI i_49)) := c_53
        have hR := hR.trans (if_pos c_53)
        exact kk le_49 H locs ls hR hP hD hS (lv_sub hl [1, 2] rfl)
      · have c_53 : ¬ ((144 : Int32) ≤ (nI i_49)) := c_53
        have hR := hR.trans (if_neg c_53)
        have hlt_49 : i_49 < 144 := lt_g c_53 hi_49 (by decide)
        refine lv_aload_n hx hb dX6_store_56 rfl (lv_at hl 2 rfl) ?_
        refine lv_bipush (v := (18 : Int32)) hx hb dX6_store_57 (by decide) ?_
        refine lv_iload_n hx hb dX6_store_59 rfl (lv_at hl 0 rfl) ?_
        refine lv_iadd hx hb dX6_store_60 ?_
        refine lv_topi (fun y_60 e_60 => ?_)
        obtain rfl : y_60 = (nI (18 + i_49)) := e_60.trans (nI_add 18 i_49)
        refine lv_aload_n hx hb dX6_store_61 rfl (lv_at hl 1 rfl) ?_
        refine va_get (D := δ) (ci := 6) (v := .ref aR4) (C := RX6) (T := TX6) (N := 34) hx hb hts hinX6 hown hK hP 0 rfl rfl 6 (by decide) (hts (.fieldLink RX6 19 "GloveHoursModel" "wearOf" "[I") (List.mem_of_getElem? (i := 4) rfl)) (fun _ h9 => h9) rfl dX6_store_62 ?_
        refine lv_iload_n hx hb dX6_store_65 rfl (lv_at hl 0 rfl) ?_
        refine va_iald hx hb hK hP 4 0 rfl rfl (vp_in_nI (by omega) (by decide)) dX6_store_66 ?_
        refine va_iast hx hb hK hP hD hS 16 0 rfl rfl (vp_in_nI (by omega) (by decide)) dX6_store_67 (fun H locs hP hD hS => ?_)
        have hP : va_P δ vwCl (wR cI cJ cZ aR0 aR1 aR2 aR3 aR4 aR5 aR6 aR7 aR8 aR9 aR10 aR11 aR12 aR13 aR14 aR15 aR16 aR17 aR18 aR19 aR20 aR21 lv sg pd ac dd hd (upd (lLeaves le_49) (nI (18 + i_49)).toNatClampNeg ((vWearOf lv) (nI i_49).toNatClampNeg)) bd my lf pa kp) H := hP
        have hD : va_D A (wR cI cJ cZ aR0 aR1 aR2 aR3 aR4 aR5 aR6 aR7 aR8 aR9 aR10 aR11 aR12 aR13 aR14 aR15 aR16 aR17 aR18 aR19 aR20 aR21 lv sg pd ac dd hd (upd (lLeaves le_49) (nI (18 + i_49)).toNatClampNeg ((vWearOf lv) (nI i_49).toNatClampNeg)) bd my lf pa kp) := hD
        refine lv_iinc (v := (nI (i_49 + 1))) (lv' := [(2, .int (nI (i_49 + 1))), (0, .ref aR0), (1, .ref aR16)]) hx hb dX6_store_68 hl (k := 0) rfl (nI_1 i_49) (by decide) rfl (fun ls hl => ?_)
        refine lv_goto (tgt := 49) hx hb dX6_store_71 (by decide) ?_
        exact ih_49 (i_49 + 1) (upd (lLeaves le_49) (nI (18 + i_49)).toNatClampNeg ((vWearOf lv) (nI i_49).toNatClampNeg)) _ _ _ (by omega) (by omega) hP hD hS (lv_sub hl [0, 1, 2] rfl) (fun w_49 H locs ls he hP hD hS hl => kk w_49 H locs ls (hR.trans he) hP hD hS hl)
  refine hloop_49 (144 + 1) 0 w_2 _ _ _ (by omega) (by omega) hP hD hS (lv_sub hl [0, 1, 2] rfl) (fun w_49 H locs ls hw_49 hP hD hS hl => ?_)
  have hP : va_P δ vwCl (wR cI cJ cZ aR0 aR1 aR2 aR3 aR4 aR5 aR6 aR7 aR8 aR9 aR10 aR11 aR12 aR13 aR14 aR15 aR16 aR17 aR18 aR19 aR20 aR21 lv sg pd ac dd hd w_49 bd my lf pa kp) H := hP
  have hD : va_D A (wR cI cJ cZ aR0 aR1 aR2 aR3 aR4 aR5 aR6 aR7 aR8 aR9 aR10 aR11 aR12 aR13 aR14 aR15 aR16 aR17 aR18 aR19 aR20 aR21 lv sg pd ac dd hd w_49 bd my lf pa kp) := hD
  have hR := bnd_eq hR hw_49.symm
  refine lv_aload_n hx hb dX6_store_74 rfl (lv_at hl 1 rfl) ?_
  refine lv_sipush (v := (162 : Int32)) hx hb dX6_store_75 (by decide) ?_
  refine lv_aload_n hx hb dX6_store_78 rfl (lv_at hl 0 rfl) ?_
  refine va_get (D := δ) (ci := 6) (v := .int (vClock lv)) (C := RX6) (T := TX6) (N := 34) hx hb hts hinX6 hown hK hP 0 rfl rfl 1 (by decide) (hts (.fieldLink RX6 110 "GloveHoursModel" "clock" "I") (List.mem_of_getElem? (i := 5) rfl)) (fun _ h9 => h9) rfl dX6_store_79 ?_
  refine va_iast hx hb hK hP hD hS 16 0 rfl rfl (by unfold vp_in; decide) dX6_store_82 (fun H locs hP hD hS => ?_)
  have hP : va_P δ vwCl (wR cI cJ cZ aR0 aR1 aR2 aR3 aR4 aR5 aR6 aR7 aR8 aR9 aR10 aR11 aR12 aR13 aR14 aR15 aR16 aR17 aR18 aR19 aR20 aR21 lv sg pd ac dd hd (upd (lLeaves w_49) (162 : Int32).toNatClampNeg (vClock lv)) bd my lf pa kp) H := hP
  have hD : va_D A (wR cI cJ cZ aR0 aR1 aR2 aR3 aR4 aR5 aR6 aR7 aR8 aR9 aR10 aR11 aR12 aR13 aR14 aR15 aR16 aR17 aR18 aR19 aR20 aR21 lv sg pd ac dd hd (upd (lLeaves w_49) (162 : Int32).toNatClampNeg (vClock lv)) bd my lf pa kp) := hD
  exact hret _ _ (upd (lLeaves w_49) (162 : Int32).toNatClampNeg (vClock lv)) _ _ hR hP hD hS dX6_store_83

abbrev rm_X6_lay_had : Room := { frames := 0, cells := 0, slots := 0, locals := 0 }
set_option maxHeartbeats 4000000 in
set_option maxRecDepth 100000 in
theorem c_X6_lay_had (l : Launch) (δ : va_G) (cI cJ cZ : ClassId) (aR0 aR1 aR2 aR3 aR4 aR5 aR6 aR7 aR8 aR9 aR10 aR11 aR12 aR13 aR14 aR15 aR16 aR17 aR18 aR19 aR20 aR21 : Nat) (lv : LV) (sg : SG) (pd : PD) (ac : AC) (dd : DD) (hd : HD) (le : LE) (bd : BD) (my : MY) (lf : LF) (pa : PA) (kp : KP) : mMv l δ (mTy cI cJ cZ) yX6_lay wsX6_lay rm_X6_lay_had [.ref aR0, .ref aR15] (wR cI cJ cZ aR0 aR1 aR2 aR3 aR4 aR5 aR6 aR7 aR8 aR9 aR10 aR11 aR12 aR13 aR14 aR15 aR16 aR17 aR18 aR19 aR20 aR21 lv sg pd ac dd hd le bd my lf pa kp) (S := LV) (fun u => F_X6_lay_had lv hd = u) (fun u => (wR cI cJ cZ aR0 aR1 aR2 aR3 aR4 aR5 aR6 aR7 aR8 aR9 aR10 aR11 aR12 aR13 aR14 aR15 aR16 aR17 aR18 aR19 aR20 aR21 u sg pd ac dd hd le bd my lf pa kp)) := by
  refine mk_v (cc := cX6_lay) (maxL := 3) (by decide) rfl (Nat.le_of_ble_eq_true rfl) ?_
  intro p e s m args below meth c A Q ls H locs hx hb hml hts hown hK hNW hA hP hD hS hl hret
  have hown : s.vm.findClass RX6 = some m.cls := hown
  have hl : lv_has ls 3 [(0, .ref aR0), (1, .ref aR15)] := hl
  have hinX6 : ∀ w ∈ u_ws RX6 TX6 34, w ∈ wsX6_lay := (fun _ h => List.mem_cons_of_mem _ (List.mem_append_right _ (h)))
  have hR := F_X6_lay_had.eq_1 lv hd
  refine lv_iconst (v := (0 : Int32)) hx hb dX6_lay_0 (by decide) ?_
  refine lv_istore_n (lv' := [(2, .int (0 : Int32)), (0, .ref aR0), (1, .ref aR15)]) hx hb dX6_lay_1 rfl hl (by decide) rfl (fun ls hl => ?_)
  have hloop_2 : ∀ (n_2 : Nat) (i_2 : Nat) (lv_2 : LV) (H : Heap) (locs : List Loc) (ls : Array Slot), (hi_2 : i_2 ≤ 6) → (hn_2 : 6 < i_2 + n_2) → (hP : va_P δ vwCl (wR cI cJ cZ aR0 aR1 aR2 aR3 aR4 aR5 aR6 aR7 aR8 aR9 aR10 aR11 aR12 aR13 aR14 aR15 aR16 aR17 aR18 aR19 aR20 aR21 lv_2 sg pd ac dd hd le bd my lf pa kp) H) → (hD : va_D A (wR cI cJ cZ aR0 aR1 aR2 aR3 aR4 aR5 aR6 aR7 aR8 aR9 aR10 aR11 aR12 aR13 aR14 aR15 aR16 aR17 aR18 aR19 aR20 aR21 lv_2 sg pd ac dd hd le bd my lf pa kp)) → (hS : va_S A s.heap H locs) → (hl : lv_has ls 3 [(2, .int (nI i_2)), (0, .ref aR0), (1, .ref aR15)]) → (kk : ∀ (w_2 : LV) (H : Heap) (locs : List Loc) (ls : Array Slot), L_X6_lay_had_2 hd n_2 i_2 lv_2 = w_2 → va_P δ vwCl (wR cI cJ cZ aR0 aR1 aR2 aR3 aR4 aR5 aR6 aR7 aR8 aR9 aR10 aR11 aR12 aR13 aR14 aR15 aR16 aR17 aR18 aR19 aR20 aR21 w_2 sg pd ac dd hd le bd my lf pa kp) H → va_D A (wR cI cJ cZ aR0 aR1 aR2 aR3 aR4 aR5 aR6 aR7 aR8 aR9 aR10 aR11 aR12 aR13 aR14 aR15 aR16 aR17 aR18 aR19 aR20 aR21 w_2 sg pd ac dd hd le bd my lf pa kp) → va_S A s.heap H locs → lv_has ls 3 [(0, .ref aR0), (1, .ref aR15)] → W p l e rm_X6_lay_had s m args below meth c H locs 0 0 Q (F0 m 47 ls [])) → W p l e rm_X6_lay_had s m args below meth c H locs 0 0 Q (F0 m 2 ls []) := by
    intro n_2
    induction n_2 with
    | zero => intro i_2 lv_2 H locs ls hi_2 hn_2 hP hD hS hl kk; exact absurd hn_2 (by omega)
    | succ n_2 ih_2 =>
      intro i_2 lv_2 H locs ls hi_2 hn_2 hP hD hS hl kk
      have hR := L_X6_lay_had_2_s hd n_2 i_2 lv_2
      refine lv_iload_n hx hb dX6_lay_2 rfl (lv_at hl 0 rfl) ?_
      refine lv_bipush (v := (6 : Int32)) hx hb dX6_lay_3 (by decide) ?_
      refine lv_icmp_ge (tgt := 47) hx hb dX6_lay_5 (by decide) (fun c_5 => ?_) (fun c_5 => ?_)
      · have c_5 : ((6 : Int32) ≤ (nI i_2)) := c_5
        have hR := hR.trans (if_pos c_5)
        exact kk lv_2 H locs ls hR hP hD hS (lv_sub hl [1, 2] rfl)
      · have c_5 : ¬ ((6 : Int32) ≤ (nI i_2)) := c_5
        have hR := hR.trans (if_neg c_5)
        have hlt_2 : i_2 < 6 := lt_g c_5 hi_2 (by decide)
        refine lv_aload_n hx hb dX6_lay_8 rfl (lv_at hl 1 rfl) ?_
        refine va_get (D := δ) (ci := 6) (v := .ref aR1) (C := RX6) (T := TX6) (N := 34) hx hb hts hinX6 hown hK hP 0 rfl rfl 3 (by decide) (hts (.fieldLink RX6 7 "GloveHoursModel" "left" "[I") (List.mem_of_getElem? (i := 1) rfl)) (fun _ h9 => h9) rfl dX6_lay_9 ?_
        refine lv_iload_n hx hb dX6_lay_12 rfl (lv_at hl 0 rfl) ?_
        refine lv_aload_n hx hb dX6_lay_13 rfl (lv_at hl 2 rfl) ?_
        refine lv_iload_n hx hb dX6_lay_14 rfl (lv_at hl 0 rfl) ?_
        refine va_iald hx hb hK hP 15 0 rfl rfl (vp_in_nI (by omega) (by decide)) dX6_lay_15 ?_
        refine va_iast hx hb hK hP hD hS 1 0 rfl rfl (vp_in_nI (by omega) (by decide)) dX6_lay_16 (fun H locs hP hD hS => ?_)
        have hP : va_P δ vwCl (wR cI cJ cZ aR0 aR1 aR2 aR3 aR4 aR5 aR6 aR7 aR8 aR9 aR10 aR11 aR12 aR13 aR14 aR15 aR16 aR17 aR18 aR19 aR20 aR21 (vCourtiers lv_2, vClock lv_2, vTears lv_2, (upd (vLeft lv_2) (nI i_2).toNatClampNeg ((hHad hd) (nI i_2).toNatClampNeg)), vRight lv_2, vScandals lv_2, vWearOf lv_2) sg pd ac dd hd le bd my lf pa kp) H := hP
        have hD : va_D A (wR cI cJ cZ aR0 aR1 aR2 aR3 aR4 aR5 aR6 aR7 aR8 aR9 aR10 aR11 aR12 aR13 aR14 aR15 aR16 aR17 aR18 aR19 aR20 aR21 (vCourtiers lv_2, vClock lv_2, vTears lv_2, (upd (vLeft lv_2) (nI i_2).toNatClampNeg ((hHad hd) (nI i_2).toNatClampNeg)), vRight lv_2, vScandals lv_2, vWearOf lv_2) sg pd ac dd hd le bd my lf pa kp) := hD
        refine lv_aload_n hx hb dX6_lay_17 rfl (lv_at hl 1 rfl) ?_
        refine va_get (D := δ) (ci := 6) (v := .ref aR2) (C := RX6) (T := TX6) (N := 34) hx hb hts hinX6 hown hK hP 0 rfl rfl 4 (by decide) (hts (.fieldLink RX6 13 "GloveHoursModel" "right" "[I") (List.mem_of_getElem? (i := 2) rfl)) (fun _ h9 => h9) rfl dX6_lay_18 ?_
        refine lv_iload_n hx hb dX6_lay_21 rfl (lv_at hl 0 rfl) ?_
        refine lv_aload_n hx hb dX6_lay_22 rfl (lv_at hl 2 rfl) ?_
        refine lv_bipush (v := (6 : Int32)) hx hb dX6_lay_23 (by decide) ?_
        refine lv_iload_n hx hb dX6_lay_25 rfl (lv_at hl 0 rfl) ?_
        refine lv_iadd hx hb dX6_lay_26 ?_
        refine lv_topi (fun y_26 e_26 => ?_)
        obtain rfl : y_26 = (nI (6 + i_2)) := e_26.trans (nI_add 6 i_2)
        refine va_iald hx hb hK hP 15 0 rfl rfl (vp_in_nI (by omega) (by decide)) dX6_lay_27 ?_
        refine va_iast hx hb hK hP hD hS 2 0 rfl rfl (vp_in_nI (by omega) (by decide)) dX6_lay_28 (fun H locs hP hD hS => ?_)
        have hP : va_P δ vwCl (wR cI cJ cZ aR0 aR1 aR2 aR3 aR4 aR5 aR6 aR7 aR8 aR9 aR10 aR11 aR12 aR13 aR14 aR15 aR16 aR17 aR18 aR19 aR20 aR21 (vCourtiers lv_2, vClock lv_2, vTears lv_2, (upd (vLeft lv_2) (nI i_2).toNatClampNeg ((hHad hd) (nI i_2).toNatClampNeg)), (upd (vRight lv_2) (nI i_2).toNatClampNeg ((hHad hd) (nI (6 + i_2)).toNatClampNeg)), vScandals lv_2, vWearOf lv_2) sg pd ac dd hd le bd my lf pa kp) H := hP
        have hD : va_D A (wR cI cJ cZ aR0 aR1 aR2 aR3 aR4 aR5 aR6 aR7 aR8 aR9 aR10 aR11 aR12 aR13 aR14 aR15 aR16 aR17 aR18 aR19 aR20 aR21 (vCourtiers lv_2, vClock lv_2, vTears lv_2, (upd (vLeft lv_2) (nI i_2).toNatClampNeg ((hHad hd) (nI i_2).toNatClampNeg)), (upd (vRight lv_2) (nI i_2).toNatClampNeg ((hHad hd) (nI (6 + i_2)).toNatClampNeg)), vScandals lv_2, vWearOf lv_2) sg pd ac dd hd le bd my lf pa kp) := hD
        refine lv_aload_n hx hb dX6_lay_29 rfl (lv_at hl 1 rfl) ?_
        refine va_get (D := δ) (ci := 6) (v := .ref aR3) (C := RX6) (T := TX6) (N := 34) hx hb hts hinX6 hown hK hP 0 rfl rfl 5 (by decide) (hts (.fieldLink RX6 16 "GloveHoursModel" "scandals" "[I") (List.mem_of_getElem? (i := 3) rfl)) (fun _ h9 => h9) rfl dX6_lay_30 ?_
        refine lv_iload_n hx hb dX6_lay_33 rfl (lv_at hl 0 rfl) ?_
        refine lv_aload_n hx hb dX6_lay_34 rfl (lv_at hl 2 rfl) ?_
        refine lv_bipush (v := (12 : Int32)) hx hb dX6_lay_35 (by decide) ?_
        refine lv_iload_n hx hb dX6_lay_37 rfl (lv_at hl 0 rfl) ?_
        refine lv_iadd hx hb dX6_lay_38 ?_
        refine lv_topi (fun y_38 e_38 => ?_)
        obtain rfl : y_38 = (nI (12 + i_2)) := e_38.trans (nI_add 12 i_2)
        refine va_iald hx hb hK hP 15 0 rfl rfl (vp_in_nI (by omega) (by decide)) dX6_lay_39 ?_
        refine va_iast hx hb hK hP hD hS 3 0 rfl rfl (vp_in_nI (by omega) (by decide)) dX6_lay_40 (fun H locs hP hD hS => ?_)
        have hP : va_P δ vwCl (wR cI cJ cZ aR0 aR1 aR2 aR3 aR4 aR5 aR6 aR7 aR8 aR9 aR10 aR11 aR12 aR13 aR14 aR15 aR16 aR17 aR18 aR19 aR20 aR21 (vCourtiers lv_2, vClock lv_2, vTears lv_2, (upd (vLeft lv_2) (nI i_2).toNatClampNeg ((hHad hd) (nI i_2).toNatClampNeg)), (upd (vRight lv_2) (nI i_2).toNatClampNeg ((hHad hd) (nI (6 + i_2)).toNatClampNeg)), (upd (vScandals lv_2) (nI i_2).toNatClampNeg ((hHad hd) (nI (12 + i_2)).toNatClampNeg)), vWearOf lv_2) sg pd ac dd hd le bd my lf pa kp) H := hP
        have hD : va_D A (wR cI cJ cZ aR0 aR1 aR2 aR3 aR4 aR5 aR6 aR7 aR8 aR9 aR10 aR11 aR12 aR13 aR14 aR15 aR16 aR17 aR18 aR19 aR20 aR21 (vCourtiers lv_2, vClock lv_2, vTears lv_2, (upd (vLeft lv_2) (nI i_2).toNatClampNeg ((hHad hd) (nI i_2).toNatClampNeg)), (upd (vRight lv_2) (nI i_2).toNatClampNeg ((hHad hd) (nI (6 + i_2)).toNatClampNeg)), (upd (vScandals lv_2) (nI i_2).toNatClampNeg ((hHad hd) (nI (12 + i_2)).toNatClampNeg)), vWearOf lv_2) sg pd ac dd hd le bd my lf pa kp) := hD
        refine lv_iinc (v := (nI (i_2 + 1))) (lv' := [(2, .int (nI (i_2 + 1))), (0, .ref aR0), (1, .ref aR15)]) hx hb dX6_lay_41 hl (k := 0) rfl (nI_1 i_2) (by decide) rfl (fun ls hl => ?_)
        refine lv_goto (tgt := 2) hx hb dX6_lay_44 (by decide) ?_
        exact ih_2 (i_2 + 1) (vCourtiers lv_2, vClock lv_2, vTears lv_2, (upd (vLeft lv_2) (nI i_2).toNatClampNeg ((hHad hd) (nI i_2).toNatClampNeg)), (upd (vRight lv_2) (nI i_2).toNatClampNeg ((hHad hd) (nI (6 + i_2)).toNatClampNeg)), (upd (vScandals lv_2) (nI i_2).toNatClampNeg ((hHad hd) (nI (12 + i_2)).toNatClampNeg)), vWearOf lv_2) _ _ _ (by omega) (by omega) hP hD hS (lv_sub hl [0, 1, 2] rfl) (fun w_2 H locs ls he hP hD hS hl => kk w_2 H locs ls (hR.trans he) hP hD hS hl)
  refine hloop_2 (6 + 1) 0 lv _ _ _ (by omega) (by omega) hP hD hS (lv_sub hl [0, 1, 2] rfl) (fun w_2 H locs ls hw_2 hP hD hS hl => ?_)
  have hP : va_P δ vwCl (wR cI cJ cZ aR0 aR1 aR2 aR3 aR4 aR5 aR6 aR7 aR8 aR9 aR10 aR11 aR12 aR13 aR14 aR15 aR16 aR17 aR18 aR19 aR20 aR21 w_2 sg pd ac dd hd le bd my lf pa kp) H := hP
  have hD : va_D A (wR cI cJ cZ aR0 aR1 aR2 aR3 aR4 aR5 aR6 aR7 aR8 aR9 aR10 aR11 aR12 aR13 aR14 aR15 aR16 aR17 aR18 aR19 aR20 aR21 w_2 sg pd ac dd hd le bd my lf pa kp) := hD
  have hR := bnd_eq hR hw_2.symm
  refine lv_iconst (v := (0 : Int32)) hx hb dX6_lay_47 (by decide) ?_
  refine lv_istore_n (lv' := [(2, .int (0 : Int32)), (0, .ref aR0), (1, .ref aR15)]) hx hb dX6_lay_48 rfl hl (by decide) rfl (fun ls hl => ?_)
  have hloop_49 : ∀ (n_49 : Nat) (i_49 : Nat) (lv_49 : LV) (H : Heap) (locs : List Loc) (ls : Array Slot), (hi_49 : i_49 ≤ 144) → (hn_49 : 144 < i_49 + n_49) → (hP : va_P δ vwCl (wR cI cJ cZ aR0 aR1 aR2 aR3 aR4 aR5 aR6 aR7 aR8 aR9 aR10 aR11 aR12 aR13 aR14 aR15 aR16 aR17 aR18 aR19 aR20 aR21 lv_49 sg pd ac dd hd le bd my lf pa kp) H) → (hD : va_D A (wR cI cJ cZ aR0 aR1 aR2 aR3 aR4 aR5 aR6 aR7 aR8 aR9 aR10 aR11 aR12 aR13 aR14 aR15 aR16 aR17 aR18 aR19 aR20 aR21 lv_49 sg pd ac dd hd le bd my lf pa kp)) → (hS : va_S A s.heap H locs) → (hl : lv_has ls 3 [(2, .int (nI i_49)), (0, .ref aR0), (1, .ref aR15)]) → (kk : ∀ (w_49 : LV) (H : Heap) (locs : List Loc) (ls : Array Slot), L_X6_lay_had_49 hd n_49 i_49 lv_49 = w_49 → va_P δ vwCl (wR cI cJ cZ aR0 aR1 aR2 aR3 aR4 aR5 aR6 aR7 aR8 aR9 aR10 aR11 aR12 aR13 aR14 aR15 aR16 aR17 aR18 aR19 aR20 aR21 w_49 sg pd ac dd hd le bd my lf pa kp) H → va_D A (wR cI cJ cZ aR0 aR1 aR2 aR3 aR4 aR5 aR6 aR7 aR8 aR9 aR10 aR11 aR12 aR13 aR14 aR15 aR16 aR17 aR18 aR19 aR20 aR21 w_49 sg pd ac dd hd le bd my lf pa kp) → va_S A s.heap H locs → lv_has ls 3 [(0, .ref aR0), (1, .ref aR15)] → W p l e rm_X6_lay_had s m args below meth c H locs 0 0 Q (F0 m 74 ls [])) → W p l e rm_X6_lay_had s m args below meth c H locs 0 0 Q (F0 m 49 ls []) := by
    intro n_49
    induction n_49 with
    | zero => intro i_49 lv_49 H locs ls hi_49 hn_49 hP hD hS hl kk; exact absurd hn_49 (by omega)
    | succ n_49 ih_49 =>
      intro i_49 lv_49 H locs ls hi_49 hn_49 hP hD hS hl kk
      have hR := L_X6_lay_had_49_s hd n_49 i_49 lv_49
      refine lv_iload_n hx hb dX6_lay_49 rfl (lv_at hl 0 rfl) ?_
      refine lv_sipush (v := (144 : Int32)) hx hb dX6_lay_50 (by decide) ?_
      refine lv_icmp_ge (tgt := 74) hx hb dX6_lay_53 (by decide) (fun c_53 => ?_) (fun c_53 => ?_)
      · have c_53 : ((144 : Int32) ≤ (nI i_49)) := c_53
        have hR := hR.trans (if_pos c_53)
        exact kk lv_49 H locs ls hR hP hD hS (lv_sub hl [1, 2] rfl)
      · have c_53 : ¬ ((144 : Int32) ≤ (nI i_49)) := c_53
        have hR := hR.trans (if_neg c_53)
        have hlt_49 : i_49 < 144 := lt_g c_53 hi_49 (by decide)
        refine lv_aload_n hx hb dX6_lay_56 rfl (lv_at hl 1 rfl) ?_
        refine va_get (D := δ) (ci := 6) (v := .ref aR4) (C := RX6) (T := TX6) (N := 34) hx hb hts hinX6 hown hK hP 0 rfl rfl 6 (by decide) (hts (.fieldLink RX6 19 "GloveHoursModel" "wearOf" "[I") (List.mem_of_getElem? (i := 4) rfl)) (fun _ h9 => h9) rfl dX6_lay_57 ?_
        refine lv_iload_n hx hb dX6_lay_60 rfl (lv_at hl 0 rfl) ?_
        refine lv_aload_n hx hb dX6_lay_61 rfl (lv_at hl 2 rfl) ?_
        refine lv_bipush (v := (18 : Int32)) hx hb dX6_lay_62 (by decide) ?_
        refine lv_iload_n hx hb dX6_lay_64 rfl (lv_at hl 0 rfl) ?_
        refine lv_iadd hx hb dX6_lay_65 ?_
        refine lv_topi (fun y_65 e_65 => ?_)
        obtain rfl : y_65 = (nI (18 + i_49)) := e_65.trans (nI_add 18 i_49)
        refine va_iald hx hb hK hP 15 0 rfl rfl (vp_in_nI (by omega) (by decide)) dX6_lay_66 ?_
        refine va_iast hx hb hK hP hD hS 4 0 rfl rfl (vp_in_nI (by omega) (by decide)) dX6_lay_67 (fun H locs hP hD hS => ?_)
        have hP : va_P δ vwCl (wR cI cJ cZ aR0 aR1 aR2 aR3 aR4 aR5 aR6 aR7 aR8 aR9 aR10 aR11 aR12 aR13 aR14 aR15 aR16 aR17 aR18 aR19 aR20 aR21 (vCourtiers lv_49, vClock lv_49, vTears lv_49, vLeft lv_49, vRight lv_49, vScandals lv_49, (upd (vWearOf lv_49) (nI i_49).toNatClampNeg ((hHad hd) (nI (18 + i_49)).toNatClampNeg))) sg pd ac dd hd le bd my lf pa kp) H := hP
        have hD : va_D A (wR cI cJ cZ aR0 aR1 aR2 aR3 aR4 aR5 aR6 aR7 aR8 aR9 aR10 aR11 aR12 aR13 aR14 aR15 aR16 aR17 aR18 aR19 aR20 aR21 (vCourtiers lv_49, vClock lv_49, vTears lv_49, vLeft lv_49, vRight lv_49, vScandals lv_49, (upd (vWearOf lv_49) (nI i_49).toNatClampNeg ((hHad hd) (nI (18 + i_49)).toNatClampNeg))) sg pd ac dd hd le bd my lf pa kp) := hD
        refine lv_iinc (v := (nI (i_49 + 1))) (lv' := [(2, .int (nI (i_49 + 1))), (0, .ref aR0), (1, .ref aR15)]) hx hb dX6_lay_68 hl (k := 0) rfl (nI_1 i_49) (by decide) rfl (fun ls hl => ?_)
        refine lv_goto (tgt := 49) hx hb dX6_lay_71 (by decide) ?_
        exact ih_49 (i_49 + 1) (vCourtiers lv_49, vClock lv_49, vTears lv_49, vLeft lv_49, vRight lv_49, vScandals lv_49, (upd (vWearOf lv_49) (nI i_49).toNatClampNeg ((hHad hd) (nI (18 + i_49)).toNatClampNeg))) _ _ _ (by omega) (by omega) hP hD hS (lv_sub hl [0, 1, 2] rfl) (fun w_49 H locs ls he hP hD hS hl => kk w_49 H locs ls (hR.trans he) hP hD hS hl)
  refine hloop_49 (144 + 1) 0 w_2 _ _ _ (by omega) (by omega) hP hD hS (lv_sub hl [0, 1, 2] rfl) (fun w_49 H locs ls hw_49 hP hD hS hl => ?_)
  have hP : va_P δ vwCl (wR cI cJ cZ aR0 aR1 aR2 aR3 aR4 aR5 aR6 aR7 aR8 aR9 aR10 aR11 aR12 aR13 aR14 aR15 aR16 aR17 aR18 aR19 aR20 aR21 w_49 sg pd ac dd hd le bd my lf pa kp) H := hP
  have hD : va_D A (wR cI cJ cZ aR0 aR1 aR2 aR3 aR4 aR5 aR6 aR7 aR8 aR9 aR10 aR11 aR12 aR13 aR14 aR15 aR16 aR17 aR18 aR19 aR20 aR21 w_49 sg pd ac dd hd le bd my lf pa kp) := hD
  have hR := bnd_eq hR hw_49.symm
  refine lv_aload_n hx hb dX6_lay_74 rfl (lv_at hl 0 rfl) ?_
  refine lv_aload_n hx hb dX6_lay_75 rfl (lv_at hl 1 rfl) ?_
  refine lv_sipush (v := (162 : Int32)) hx hb dX6_lay_76 (by decide) ?_
  refine va_iald hx hb hK hP 15 0 rfl rfl (by unfold vp_in; decide) dX6_lay_79 ?_
  refine va_put (D := δ) (ci := 6) (v := .int ((hHad hd) (162 : Int32).toNatClampNeg)) (ty := .int) (C := RX6) (T := TX6) (N := 34) hx hb hts hinX6 tyX6 tyX6_ok nmX6 hown hK hP hD hS 0 rfl rfl 1 (by decide) (hts (.fieldLink RX6 110 "GloveHoursModel" "clock" "I") (List.mem_of_getElem? (i := 5) rfl)) (fun _ h9 => h9) rfl (by decide +kernel) rfl rfl (Nat.le_of_ble_eq_true rfl) dX6_lay_80 (fun H locs hP hD hS => ?_)
  have hP : va_P δ vwCl (wR cI cJ cZ aR0 aR1 aR2 aR3 aR4 aR5 aR6 aR7 aR8 aR9 aR10 aR11 aR12 aR13 aR14 aR15 aR16 aR17 aR18 aR19 aR20 aR21 (vCourtiers w_49, ((hHad hd) (162 : Int32).toNatClampNeg), vTears w_49, vLeft w_49, vRight w_49, vScandals w_49, vWearOf w_49) sg pd ac dd hd le bd my lf pa kp) H := hP
  have hD : va_D A (wR cI cJ cZ aR0 aR1 aR2 aR3 aR4 aR5 aR6 aR7 aR8 aR9 aR10 aR11 aR12 aR13 aR14 aR15 aR16 aR17 aR18 aR19 aR20 aR21 (vCourtiers w_49, ((hHad hd) (162 : Int32).toNatClampNeg), vTears w_49, vLeft w_49, vRight w_49, vScandals w_49, vWearOf w_49) sg pd ac dd hd le bd my lf pa kp) := hD
  exact hret _ _ (vCourtiers w_49, ((hHad hd) (162 : Int32).toNatClampNeg), vTears w_49, vLeft w_49, vRight w_49, vScandals w_49, vWearOf w_49) _ _ hR hP hD hS dX6_lay_83

abbrev rm_X6_beginCount : Room := { frames := 0, cells := 0, slots := 0, locals := 0 }
set_option maxHeartbeats 4000000 in
set_option maxRecDepth 100000 in
theorem c_X6_beginCount (l : Launch) (δ : va_G) (cI cJ cZ : ClassId) (aR0 aR1 aR2 aR3 aR4 aR5 aR6 aR7 aR8 aR9 aR10 aR11 aR12 aR13 aR14 aR15 aR16 aR17 aR18 aR19 aR20 aR21 : Nat) (lv : LV) (sg : SG) (pd : PD) (ac : AC) (dd : DD) (hd : HD) (le : LE) (bd : BD) (my : MY) (lf : LF) (pa : PA) (kp : KP) : mMv l δ (mTy cI cJ cZ) yX6_beginCount wsX6_beginCount rm_X6_beginCount [.ref aR0] (wR cI cJ cZ aR0 aR1 aR2 aR3 aR4 aR5 aR6 aR7 aR8 aR9 aR10 aR11 aR12 aR13 aR14 aR15 aR16 aR17 aR18 aR19 aR20 aR21 lv sg pd ac dd hd le bd my lf pa kp) (S := DD) (fun u => F_X6_beginCount dd = u) (fun u => (wR cI cJ cZ aR0 aR1 aR2 aR3 aR4 aR5 aR6 aR7 aR8 aR9 aR10 aR11 aR12 aR13 aR14 aR15 aR16 aR17 aR18 aR19 aR20 aR21 lv sg pd ac u hd le bd my lf pa kp)) := by
  refine mk_v (cc := cX6_beginCount) (maxL := 1) (by decide) rfl (Nat.le_of_ble_eq_true rfl) ?_
  intro p e s m args below meth c A Q ls H locs hx hb hml hts hown hK hNW hA hP hD hS hl hret
  have hown : s.vm.findClass RX6 = some m.cls := hown
  have hl : lv_has ls 1 [(0, .ref aR0)] := hl
  have hinX6 : ∀ w ∈ u_ws RX6 TX6 34, w ∈ wsX6_beginCount := (fun _ h => List.mem_cons_of_mem _ (List.mem_append_right _ (h)))
  have hR := F_X6_beginCount.eq_1 dd
  refine lv_aload_n hx hb dX6_beginCount_0 rfl (lv_at hl 0 rfl) ?_
  refine lv_iconst (v := (0 : Int32)) hx hb dX6_beginCount_1 (by decide) ?_
  refine va_put (D := δ) (ci := 6) (v := .int (0 : Int32)) (ty := .int) (C := RX6) (T := TX6) (N := 34) hx hb hts hinX6 tyX6 tyX6_ok nmX6 hown hK hP hD hS 0 rfl rfl 20 (by decide) (hts (.fieldLink RX6 154 "GloveHoursModel" "deeds" "I") (List.mem_of_getElem? (i := 1) rfl)) (fun _ h9 => h9) rfl (by decide +kernel) rfl rfl (Nat.le_of_ble_eq_true rfl) dX6_beginCount_2 (fun H locs hP hD hS => ?_)
  have hP : va_P δ vwCl (wR cI cJ cZ aR0 aR1 aR2 aR3 aR4 aR5 aR6 aR7 aR8 aR9 aR10 aR11 aR12 aR13 aR14 aR15 aR16 aR17 aR18 aR19 aR20 aR21 lv sg pd ac ((0 : Int32), eFirstLate dd, eLateMany dd, eDeedHour dd, eDeedClock dd, eDeedWho dd) hd le bd my lf pa kp) H := hP
  have hD : va_D A (wR cI cJ cZ aR0 aR1 aR2 aR3 aR4 aR5 aR6 aR7 aR8 aR9 aR10 aR11 aR12 aR13 aR14 aR15 aR16 aR17 aR18 aR19 aR20 aR21 lv sg pd ac ((0 : Int32), eFirstLate dd, eLateMany dd, eDeedHour dd, eDeedClock dd, eDeedWho dd) hd le bd my lf pa kp) := hD
  refine lv_aload_n hx hb dX6_beginCount_5 rfl (lv_at hl 0 rfl) ?_
  refine lv_bipush (v := (-6 : Int32)) hx hb dX6_beginCount_6 (by decide) ?_
  refine va_put (D := δ) (ci := 6) (v := .int (-6 : Int32)) (ty := .int) (C := RX6) (T := TX6) (N := 34) hx hb hts hinX6 tyX6 tyX6_ok nmX6 hown hK hP hD hS 0 rfl rfl 21 (by decide) (hts (.fieldLink RX6 157 "GloveHoursModel" "firstLate" "I") (List.mem_of_getElem? (i := 2) rfl)) (fun _ h9 => h9) rfl (by decide +kernel) rfl rfl (Nat.le_of_ble_eq_true rfl) dX6_beginCount_8 (fun H locs hP hD hS => ?_)
  have hP : va_P δ vwCl (wR cI cJ cZ aR0 aR1 aR2 aR3 aR4 aR5 aR6 aR7 aR8 aR9 aR10 aR11 aR12 aR13 aR14 aR15 aR16 aR17 aR18 aR19 aR20 aR21 lv sg pd ac ((0 : Int32), (-6 : Int32), eLateMany dd, eDeedHour dd, eDeedClock dd, eDeedWho dd) hd le bd my lf pa kp) H := hP
  have hD : va_D A (wR cI cJ cZ aR0 aR1 aR2 aR3 aR4 aR5 aR6 aR7 aR8 aR9 aR10 aR11 aR12 aR13 aR14 aR15 aR16 aR17 aR18 aR19 aR20 aR21 lv sg pd ac ((0 : Int32), (-6 : Int32), eLateMany dd, eDeedHour dd, eDeedClock dd, eDeedWho dd) hd le bd my lf pa kp) := hD
  refine lv_aload_n hx hb dX6_beginCount_11 rfl (lv_at hl 0 rfl) ?_
  refine lv_iconst (v := (0 : Int32)) hx hb dX6_beginCount_12 (by decide) ?_
  refine va_put (D := δ) (ci := 6) (v := .int (0 : Int32)) (ty := .int) (C := RX6) (T := TX6) (N := 34) hx hb hts hinX6 tyX6 tyX6_ok nmX6 hown hK hP hD hS 0 rfl rfl 22 (by decide) (hts (.fieldLink RX6 160 "GloveHoursModel" "lateMany" "I") (List.mem_of_getElem? (i := 3) rfl)) (fun _ h9 => h9) rfl (by decide +kernel) rfl rfl (Nat.le_of_ble_eq_true rfl) dX6_beginCount_13 (fun H locs hP hD hS => ?_)
  have hP : va_P δ vwCl (wR cI cJ cZ aR0 aR1 aR2 aR3 aR4 aR5 aR6 aR7 aR8 aR9 aR10 aR11 aR12 aR13 aR14 aR15 aR16 aR17 aR18 aR19 aR20 aR21 lv sg pd ac ((0 : Int32), (-6 : Int32), (0 : Int32), eDeedHour dd, eDeedClock dd, eDeedWho dd) hd le bd my lf pa kp) H := hP
  have hD : va_D A (wR cI cJ cZ aR0 aR1 aR2 aR3 aR4 aR5 aR6 aR7 aR8 aR9 aR10 aR11 aR12 aR13 aR14 aR15 aR16 aR17 aR18 aR19 aR20 aR21 lv sg pd ac ((0 : Int32), (-6 : Int32), (0 : Int32), eDeedHour dd, eDeedClock dd, eDeedWho dd) hd le bd my lf pa kp) := hD
  exact hret _ _ ((0 : Int32), (-6 : Int32), (0 : Int32), eDeedHour dd, eDeedClock dd, eDeedWho dd) _ _ hR hP hD hS dX6_beginCount_16

abbrev rm_X6_goDay : Room := { frames := 5, cells := 0, slots := 0, locals := 116 }
set_option maxHeartbeats 4000000 in
set_option maxRecDepth 100000 in
theorem c_X6_goDay (l : Launch) (δ : va_G) (cI cJ cZ : ClassId) (aR0 aR1 aR2 aR3 aR4 aR5 aR6 aR7 aR8 aR9 aR10 aR11 aR12 aR13 aR14 aR15 aR16 aR17 aR18 aR19 aR20 aR21 : Nat) (lv : LV) (sg : SG) (pd : PD) (ac : AC) (dd : DD) (hd : HD) (le : LE) (bd : BD) (my : MY) (lf : LF) (pa : PA) (kp : KP) (hac : (aActs ac).toNatClampNeg ≤ 60) (hho : ∀ j, j < (aActs ac).toNatClampNeg → vp_in (aHour ac j) 24) (hrk : rOK lv) : mMv l δ (mTy cI cJ cZ) yX6_goDay wsX6_goDay rm_X6_goDay [.ref aR0] (wR cI cJ cZ aR0 aR1 aR2 aR3 aR4 aR5 aR6 aR7 aR8 aR9 aR10 aR11 aR12 aR13 aR14 aR15 aR16 aR17 aR18 aR19 aR20 aR21 lv sg pd ac dd hd le bd my lf pa kp) (S := LV × DD × BD) (fun u => F_X6_goDay lv ac dd bd = u) (fun u => (wR cI cJ cZ aR0 aR1 aR2 aR3 aR4 aR5 aR6 aR7 aR8 aR9 aR10 aR11 aR12 aR13 aR14 aR15 aR16 aR17 aR18 aR19 aR20 aR21 u.1 sg pd ac u.2.1 hd le u.2.2 my lf pa kp)) := by
  refine mk_v (cc := cX6_goDay) (maxL := 3) (by decide) rfl (Nat.le_of_ble_eq_true rfl) ?_
  intro p e s m args below meth c A Q ls H locs hx hb hml hts hown hK hNW hA hP hD hS hl hret
  have hown : s.vm.findClass RX6 = some m.cls := hown
  have hl : lv_has ls 3 [(0, .ref aR0)] := hl
  have hinX6 : ∀ w ∈ u_ws RX6 TX6 34, w ∈ wsX6_goDay := (fun _ h => List.mem_cons_of_mem _ (List.mem_append_right _ (h)))
  have hR := F_X6_goDay.eq_1 lv ac dd bd
  refine lv_aload_n hx hb dX6_goDay_0 rfl (lv_at hl 0 rfl) ?_
  have hr := mrV (p := p) (e := e) (R := rm_X6_goDay) (below := below) (meth := meth) (H := H) (locs := locs) (ls := ls) (As := []) (rest := []) (c_X6_beginCount l δ cI cJ cZ aR0 aR1 aR2 aR3 aR4 aR5 aR6 aR7 aR8 aR9 aR10 aR11 aR12 aR13 aR14 aR15 aR16 aR17 aR18 aR19 aR20 aR21 lv sg pd ac dd hd le bd my lf pa kp) hx hb hml hts hown hK hNW hP hD [0, 1, 2, 3, 4, 5, 6, 7, 8, 9, 10, 11, 12, 13, 14, 15, 16, 17, 18, 19, 20, 21] rfl rfl 6 0 rfl rfl (cwV 0 hts gX6_goDay_X6_beginCount rfl rfl rfl (by decide +kernel) ⟨(Nat.le_of_ble_eq_true rfl), (Nat.le_of_ble_eq_true rfl)⟩) rfl hl.1 rfl (Nat.le_of_ble_eq_true rfl) dX6_goDay_1
  refine mc_v (wr := ([] : va_W)) hr hP hD hS hA [0, 1, 2, 3, 4, 5, 6, 7, 8, 9, 10, 11, 12, 13, 14, 15, 16, 17, 18, 19, 20, 21] [] [0, 1, 2, 3, 4, 5, 6, 7, 8, 9, 10, 11, 12, 13, 14, 15, 16, 17, 18, 19, 20, 21] rfl rfl rfl rfl rfl (wn := fun u_1 => (wR cI cJ cZ aR0 aR1 aR2 aR3 aR4 aR5 aR6 aR7 aR8 aR9 aR10 aR11 aR12 aR13 aR14 aR15 aR16 aR17 aR18 aR19 aR20 aR21 lv sg pd ac u_1 hd le bd my lf pa kp)) (fun _ => rfl) (fun u_1 H locs hw_1 hP hD hS => ?_)
  have hP : va_P δ vwCl (wR cI cJ cZ aR0 aR1 aR2 aR3 aR4 aR5 aR6 aR7 aR8 aR9 aR10 aR11 aR12 aR13 aR14 aR15 aR16 aR17 aR18 aR19 aR20 aR21 lv sg pd ac u_1 hd le bd my lf pa kp) H := hP
  have hD : va_D A (wR cI cJ cZ aR0 aR1 aR2 aR3 aR4 aR5 aR6 aR7 aR8 aR9 aR10 aR11 aR12 aR13 aR14 aR15 aR16 aR17 aR18 aR19 aR20 aR21 lv sg pd ac u_1 hd le bd my lf pa kp) := hD
  have hR := bnd_eq hR hw_1.symm
  refine lv_aload_n hx hb dX6_goDay_4 rfl (lv_at hl 0 rfl) ?_
  refine lv_bipush (v := (-6 : Int32)) hx hb dX6_goDay_5 (by decide) ?_
  refine va_put (D := δ) (ci := 6) (v := .int (-6 : Int32)) (ty := .int) (C := RX6) (T := TX6) (N := 34) hx hb hts hinX6 tyX6 tyX6_ok nmX6 hown hK hP hD hS 0 rfl rfl 25 (by decide) (hts (.fieldLink RX6 184 "GloveHoursModel" "badAct" "I") (List.mem_of_getElem? (i := 1) rfl)) (fun _ h9 => h9) rfl (by decide +kernel) rfl rfl (Nat.le_of_ble_eq_true rfl) dX6_goDay_7 (fun H locs hP hD hS => ?_)
  have hP : va_P δ vwCl (wR cI cJ cZ aR0 aR1 aR2 aR3 aR4 aR5 aR6 aR7 aR8 aR9 aR10 aR11 aR12 aR13 aR14 aR15 aR16 aR17 aR18 aR19 aR20 aR21 lv sg pd ac u_1 hd le ((-6 : Int32), bBadWhy bd) my lf pa kp) H := hP
  have hD : va_D A (wR cI cJ cZ aR0 aR1 aR2 aR3 aR4 aR5 aR6 aR7 aR8 aR9 aR10 aR11 aR12 aR13 aR14 aR15 aR16 aR17 aR18 aR19 aR20 aR21 lv sg pd ac u_1 hd le ((-6 : Int32), bBadWhy bd) my lf pa kp) := hD
  refine lv_aload_n hx hb dX6_goDay_10 rfl (lv_at hl 0 rfl) ?_
  refine lv_bipush (v := (-6 : Int32)) hx hb dX6_goDay_11 (by decide) ?_
  refine va_put (D := δ) (ci := 6) (v := .int (-6 : Int32)) (ty := .int) (C := RX6) (T := TX6) (N := 34) hx hb hts hinX6 tyX6 tyX6_ok nmX6 hown hK hP hD hS 0 rfl rfl 26 (by decide) (hts (.fieldLink RX6 187 "GloveHoursModel" "badWhy" "I") (List.mem_of_getElem? (i := 2) rfl)) (fun _ h9 => h9) rfl (by decide +kernel) rfl rfl (Nat.le_of_ble_eq_true rfl) dX6_goDay_13 (fun H locs hP hD hS => ?_)
  have hP : va_P δ vwCl (wR cI cJ cZ aR0 aR1 aR2 aR3 aR4 aR5 aR6 aR7 aR8 aR9 aR10 aR11 aR12 aR13 aR14 aR15 aR16 aR17 aR18 aR19 aR20 aR21 lv sg pd ac u_1 hd le ((-6 : Int32), (-6 : Int32)) my lf pa kp) H := hP
  have hD : va_D A (wR cI cJ cZ aR0 aR1 aR2 aR3 aR4 aR5 aR6 aR7 aR8 aR9 aR10 aR11 aR12 aR13 aR14 aR15 aR16 aR17 aR18 aR19 aR20 aR21 lv sg pd ac u_1 hd le ((-6 : Int32), (-6 : Int32)) my lf pa kp) := hD
  refine lv_iconst (v := (0 : Int32)) hx hb dX6_goDay_16 (by decide) ?_
  refine lv_istore_n (lv' := [(1, .int (0 : Int32)), (0, .ref aR0)]) hx hb dX6_goDay_17 rfl hl (by decide) rfl (fun ls hl => ?_)
  have hloop_18 : ∀ (n_18 : Nat) (i_18 : Nat) (lv_18 : LV) (dd_18 : DD) (bd_18 : BD) (H : Heap) (locs : List Loc) (ls : Array Slot), (hi_18 : i_18 ≤ (aActs ac).toNatClampNeg) → (hn_18 : (aActs ac).toNatClampNeg < i_18 + n_18) → (hrk_18 : rOK lv_18) → (hdb_18 : 0 ≤ (eDeeds dd_18).toInt ∧ (eDeeds dd_18).toInt ≤ 2 * i_18) → (hP : va_P δ vwCl (wR cI cJ cZ aR0 aR1 aR2 aR3 aR4 aR5 aR6 aR7 aR8 aR9 aR10 aR11 aR12 aR13 aR14 aR15 aR16 aR17 aR18 aR19 aR20 aR21 lv_18 sg pd ac dd_18 hd le bd_18 my lf pa kp) H) → (hD : va_D A (wR cI cJ cZ aR0 aR1 aR2 aR3 aR4 aR5 aR6 aR7 aR8 aR9 aR10 aR11 aR12 aR13 aR14 aR15 aR16 aR17 aR18 aR19 aR20 aR21 lv_18 sg pd ac dd_18 hd le bd_18 my lf pa kp)) → (hS : va_S A s.heap H locs) → (hl : lv_has ls 3 [(1, .int (nI i_18)), (0, .ref aR0)]) → (kk : ∀ (w_18 : LV × DD × BD) (H : Heap) (locs : List Loc) (ls : Array Slot), L_X6_goDay_18 ac n_18 i_18 lv_18 dd_18 bd_18 = w_18 → va_P δ vwCl (wR cI cJ cZ aR0 aR1 aR2 aR3 aR4 aR5 aR6 aR7 aR8 aR9 aR10 aR11 aR12 aR13 aR14 aR15 aR16 aR17 aR18 aR19 aR20 aR21 w_18.1 sg pd ac w_18.2.1 hd le w_18.2.2 my lf pa kp) H → va_D A (wR cI cJ cZ aR0 aR1 aR2 aR3 aR4 aR5 aR6 aR7 aR8 aR9 aR10 aR11 aR12 aR13 aR14 aR15 aR16 aR17 aR18 aR19 aR20 aR21 w_18.1 sg pd ac w_18.2.1 hd le w_18.2.2 my lf pa kp) → va_S A s.heap H locs → lv_has ls 3 [(0, .ref aR0)] → W p l e rm_X6_goDay s m args below meth c H locs 0 0 Q (F0 m 128 ls [])) → W p l e rm_X6_goDay s m args below meth c H locs 0 0 Q (F0 m 18 ls []) := by
    intro n_18
    induction n_18 with
    | zero => intro i_18 lv_18 dd_18 bd_18 H locs ls hi_18 hn_18 hrk_18 hdb_18 hP hD hS hl kk; exact absurd hn_18 (by omega)
    | succ n_18 ih_18 =>
      intro i_18 lv_18 dd_18 bd_18 H locs ls hi_18 hn_18 hrk_18 hdb_18 hP hD hS hl kk
      have hR := L_X6_goDay_18_s ac n_18 i_18 lv_18 dd_18 bd_18
      refine lv_iload_n hx hb dX6_goDay_18 rfl (lv_at hl 0 rfl) ?_
      refine lv_aload_n hx hb dX6_goDay_19 rfl (lv_at hl 1 rfl) ?_
      refine va_get (D := δ) (ci := 6) (v := .int (aActs ac)) (C := RX6) (T := TX6) (N := 34) hx hb hts hinX6 hown hK hP 0 rfl rfl 16 (by decide) (hts (.fieldLink RX6 124 "GloveHoursModel" "acts" "I") (List.mem_of_getElem? (i := 3) rfl)) (fun _ h9 => h9) rfl dX6_goDay_20 ?_
      refine lv_icmp_ge (tgt := 128) hx hb dX6_goDay_23 (by decide) (fun c_23 => ?_) (fun c_23 => ?_)
      · have c_23 : ((aActs ac) ≤ (nI i_18)) := c_23
        have hR := hR.trans (if_pos c_23)
        exact kk (lv_18, dd_18, bd_18) H locs ls hR hP hD hS (lv_sub hl [1] rfl)
      · have c_23 : ¬ ((aActs ac) ≤ (nI i_18)) := c_23
        have hR := hR.trans (if_neg c_23)
        have hlt_18 : i_18 < (aActs ac).toNatClampNeg := lt_c c_23 hi_18
        refine lv_aload_n hx hb dX6_goDay_26 rfl (lv_at hl 1 rfl) ?_
        refine va_get (D := δ) (ci := 6) (v := .int (bBadAct bd_18)) (C := RX6) (T := TX6) (N := 34) hx hb hts hinX6 hown hK hP 0 rfl rfl 25 (by decide) (hts (.fieldLink RX6 184 "GloveHoursModel" "badAct" "I") (List.mem_of_getElem? (i := 1) rfl)) (fun _ h9 => h9) rfl dX6_goDay_27 ?_
        refine lv_if_ge (tgt := 128) hx hb dX6_goDay_30 (by decide) (fun c_30 => ?_) (fun c_30 => ?_)
        · have c_30 : (0 ≤ (bBadAct bd_18)) := c_30
          have hR := hR.trans (if_pos c_30)
          exact kk (lv_18, dd_18, bd_18) H locs ls hR hP hD hS (lv_sub hl [1] rfl)
        · have c_30 : ¬ (0 ≤ (bBadAct bd_18)) := c_30
          have hR := hR.trans (if_neg c_30)
          refine lv_aload_n hx hb dX6_goDay_33 rfl (lv_at hl 1 rfl) ?_
          refine lv_aload_n hx hb dX6_goDay_34 rfl (lv_at hl 1 rfl) ?_
          refine va_get (D := δ) (ci := 6) (v := .ref aR8) (C := RX6) (T := TX6) (N := 34) hx hb hts hinX6 hown hK hP 0 rfl rfl 12 (by decide) (hts (.fieldLink RX6 31 "GloveHoursModel" "act" "[I") (List.mem_of_getElem? (i := 4) rfl)) (fun _ h9 => h9) rfl dX6_goDay_35 ?_
          refine lv_iload_n hx hb dX6_goDay_38 rfl (lv_at hl 0 rfl) ?_
          refine va_iald hx hb hK hP 8 0 rfl rfl (vp_in_nI (by omega) (by decide)) dX6_goDay_39 ?_
          refine lv_aload_n hx hb dX6_goDay_40 rfl (lv_at hl 1 rfl) ?_
          refine va_get (D := δ) (ci := 6) (v := .ref aR9) (C := RX6) (T := TX6) (N := 34) hx hb hts hinX6 hown hK hP 0 rfl rfl 13 (by decide) (hts (.fieldLink RX6 34 "GloveHoursModel" "who" "[I") (List.mem_of_getElem? (i := 5) rfl)) (fun _ h9 => h9) rfl dX6_goDay_41 ?_
          refine lv_iload_n hx hb dX6_goDay_44 rfl (lv_at hl 0 rfl) ?_
          refine va_iald hx hb hK hP 9 0 rfl rfl (vp_in_nI (by omega) (by decide)) dX6_goDay_45 ?_
          refine lv_aload_n hx hb dX6_goDay_46 rfl (lv_at hl 1 rfl) ?_
          refine va_get (D := δ) (ci := 6) (v := .ref aR11) (C := RX6) (T := TX6) (N := 34) hx hb hts hinX6 hown hK hP 0 rfl rfl 15 (by decide) (hts (.fieldLink RX6 40 "GloveHoursModel" "whom" "[I") (List.mem_of_getElem? (i := 6) rfl)) (fun _ h9 => h9) rfl dX6_goDay_47 ?_
          refine lv_iload_n hx hb dX6_goDay_50 rfl (lv_at hl 0 rfl) ?_
          refine va_iald hx hb hK hP 11 0 rfl rfl (vp_in_nI (by omega) (by decide)) dX6_goDay_51 ?_
          refine lv_aload_n hx hb dX6_goDay_52 rfl (lv_at hl 1 rfl) ?_
          refine va_get (D := δ) (ci := 6) (v := .ref aR10) (C := RX6) (T := TX6) (N := 34) hx hb hts hinX6 hown hK hP 0 rfl rfl 14 (by decide) (hts (.fieldLink RX6 37 "GloveHoursModel" "hour" "[I") (List.mem_of_getElem? (i := 7) rfl)) (fun _ h9 => h9) rfl dX6_goDay_53 ?_
          refine lv_iload_n hx hb dX6_goDay_56 rfl (lv_at hl 0 rfl) ?_
          refine va_iald hx hb hK hP 10 0 rfl rfl (vp_in_nI (by omega) (by decide)) dX6_goDay_57 ?_
          have hr := mrV (p := p) (e := e) (R := rm_X6_goDay) (below := below) (meth := meth) (H := H) (locs := locs) (ls := ls) (As := [.int ((aAct ac) (nI i_18).toNatClampNeg), .int ((aWho ac) (nI i_18).toNatClampNeg), .int ((aWhom ac) (nI i_18).toNatClampNeg), .int ((aHour ac) (nI i_18).toNatClampNeg)]) (rest := []) (c_X6_whyNot l δ cI cJ cZ aR0 aR1 aR2 aR3 aR4 aR5 aR6 aR7 aR8 aR9 aR10 aR11 aR12 aR13 aR14 aR15 aR16 aR17 aR18 aR19 aR20 aR21 lv_18 sg pd ac dd_18 hd le bd_18 my lf pa kp ((aAct ac) (nI i_18).toNatClampNeg) ((aWho ac) (nI i_18).toNatClampNeg) ((aWhom ac) (nI i_18).toNatClampNeg) ((aHour ac) (nI i_18).toNatClampNeg) (by rw [nI_clamp (by omega)]; exact hho _ hlt_18)) hx hb hml hts hown hK hNW hP hD [0, 1, 2, 3, 4, 5, 6, 7, 8, 9, 10, 11, 12, 13, 14, 15, 16, 17, 18, 19, 20, 21] rfl rfl 6 0 rfl rfl (cwV 4 hts gX6_goDay_X6_whyNot rfl rfl rfl (by decide +kernel) ⟨(Nat.le_of_ble_eq_true rfl), (Nat.le_of_ble_eq_true rfl)⟩) rfl hl.1 rfl (Nat.le_of_ble_eq_true rfl) dX6_goDay_58
          refine mc_i (wr := ([] : va_W)) hr hP hD hS hA [0, 1, 2, 3, 4, 5, 6, 7, 8, 9, 10, 11, 12, 13, 14, 15, 16, 17, 18, 19, 20, 21] [] [0, 1, 2, 3, 4, 5, 6, 7, 8, 9, 10, 11, 12, 13, 14, 15, 16, 17, 18, 19, 20, 21] rfl rfl rfl rfl rfl (wn := fun _ => (wR cI cJ cZ aR0 aR1 aR2 aR3 aR4 aR5 aR6 aR7 aR8 aR9 aR10 aR11 aR12 aR13 aR14 aR15 aR16 aR17 aR18 aR19 aR20 aR21 lv_18 sg pd ac dd_18 hd le bd_18 my lf pa kp)) (fun _ => rfl) (fun r_58 _ H locs hw_58 hP hD hS => ?_)
          have hP : va_P δ vwCl (wR cI cJ cZ aR0 aR1 aR2 aR3 aR4 aR5 aR6 aR7 aR8 aR9 aR10 aR11 aR12 aR13 aR14 aR15 aR16 aR17 aR18 aR19 aR20 aR21 lv_18 sg pd ac dd_18 hd le bd_18 my lf pa kp) H := hP
          have hD : va_D A (wR cI cJ cZ aR0 aR1 aR2 aR3 aR4 aR5 aR6 aR7 aR8 aR9 aR10 aR11 aR12 aR13 aR14 aR15 aR16 aR17 aR18 aR19 aR20 aR21 lv_18 sg pd ac dd_18 hd le bd_18 my lf pa kp) := hD
          have hR := bnd_eq hR hw_58.symm
          refine lv_istore_n (lv' := [(2, .int r_58), (1, .int (nI i_18)), (0, .ref aR0)]) hx hb dX6_goDay_61 rfl hl (by decide) rfl (fun ls hl => ?_)
          refine lv_aload_n hx hb dX6_goDay_62 rfl (lv_at hl 2 rfl) ?_
          refine lv_iload_n hx hb dX6_goDay_63 rfl (lv_at hl 0 rfl) ?_
          refine lv_if_le (tgt := 71) hx hb dX6_goDay_64 (by decide) (fun c_64 => ?_) (fun c_64 => ?_)
          · have c_64 : (r_58 ≤ 0) := c_64
            have hR := hR.trans (if_pos c_64)
            refine lv_bipush (v := (-6 : Int32)) hx hb dX6_goDay_71 (by decide) ?_
            refine va_put (D := δ) (ci := 6) (v := .int (-6 : Int32)) (ty := .int) (C := RX6) (T := TX6) (N := 34) hx hb hts hinX6 tyX6 tyX6_ok nmX6 hown hK hP hD hS 0 rfl rfl 25 (by decide) (hts (.fieldLink RX6 184 "GloveHoursModel" "badAct" "I") (List.mem_of_getElem? (i := 1) rfl)) (fun _ h9 => h9) rfl (by decide +kernel) rfl rfl (Nat.le_of_ble_eq_true rfl) dX6_goDay_73 (fun H locs hP hD hS => ?_)
            have hP : va_P δ vwCl (wR cI cJ cZ aR0 aR1 aR2 aR3 aR4 aR5 aR6 aR7 aR8 aR9 aR10 aR11 aR12 aR13 aR14 aR15 aR16 aR17 aR18 aR19 aR20 aR21 lv_18 sg pd ac dd_18 hd le ((-6 : Int32), bBadWhy bd_18) my lf pa kp) H := hP
            have hD : va_D A (wR cI cJ cZ aR0 aR1 aR2 aR3 aR4 aR5 aR6 aR7 aR8 aR9 aR10 aR11 aR12 aR13 aR14 aR15 aR16 aR17 aR18 aR19 aR20 aR21 lv_18 sg pd ac dd_18 hd le ((-6 : Int32), bBadWhy bd_18) my lf pa kp) := hD
            refine lv_aload_n hx hb dX6_goDay_76 rfl (lv_at hl 2 rfl) ?_
            refine lv_iload_n hx hb dX6_goDay_77 rfl (lv_at hl 0 rfl) ?_
            refine lv_if_le (tgt := 85) hx hb dX6_goDay_78 (by decide) (fun c_78 => ?_) (fun c_78 => ?_)
            · have c_78 : (r_58 ≤ 0) := c_78
              have hR := hR.trans (if_pos c_78)
              refine lv_bipush (v := (-6 : Int32)) hx hb dX6_goDay_85 (by decide) ?_
              refine va_put (D := δ) (ci := 6) (v := .int (-6 : Int32)) (ty := .int) (C := RX6) (T := TX6) (N := 34) hx hb hts hinX6 tyX6 tyX6_ok nmX6 hown hK hP hD hS 0 rfl rfl 26 (by decide) (hts (.fieldLink RX6 187 "GloveHoursModel" "badWhy" "I") (List.mem_of_getElem? (i := 2) rfl)) (fun _ h9 => h9) rfl (by decide +kernel) rfl rfl (Nat.le_of_ble_eq_true rfl) dX6_goDay_87 (fun H locs hP hD hS => ?_)
              have hP : va_P δ vwCl (wR cI cJ cZ aR0 aR1 aR2 aR3 aR4 aR5 aR6 aR7 aR8 aR9 aR10 aR11 aR12 aR13 aR14 aR15 aR16 aR17 aR18 aR19 aR20 aR21 lv_18 sg pd ac dd_18 hd le ((-6 : Int32), (-6 : Int32)) my lf pa kp) H := hP
              have hD : va_D A (wR cI cJ cZ aR0 aR1 aR2 aR3 aR4 aR5 aR6 aR7 aR8 aR9 aR10 aR11 aR12 aR13 aR14 aR15 aR16 aR17 aR18 aR19 aR20 aR21 lv_18 sg pd ac dd_18 hd le ((-6 : Int32), (-6 : Int32)) my lf pa kp) := hD
              refine lv_iload_n hx hb dX6_goDay_90 rfl (lv_at hl 0 rfl) ?_
              refine lv_if_ne (tgt := 122) hx hb dX6_goDay_91 (by decide) (fun c_91 => ?_) (fun c_91 => ?_)
              · have c_91 : ¬ (r_58 = 0) := c_91
                have hR := hR.trans (if_neg c_91)
                refine lv_iinc (v := (nI (i_18 + 1))) (lv' := [(1, .int (nI (i_18 + 1))), (2, .int r_58), (0, .ref aR0)]) hx hb dX6_goDay_122 hl (k := 1) rfl (nI_1 i_18) (by decide) rfl (fun ls hl => ?_)
                refine lv_goto (tgt := 18) hx hb dX6_goDay_125 (by decide) ?_
                exact ih_18 (i_18 + 1) lv_18 dd_18 ((-6 : Int32), (-6 : Int32)) _ _ _ (by omega) (by omega) (by first | exact happen_rok hw_119 hrk_18 (by rw [nI_clamp (by omega)]; exact hho _ hlt_18) | exact hrk_18) (by first | exact happen_deeds hw_119 (by omega) hdb_18 | exact dd_le hdb_18) hP hD hS (lv_sub hl [0, 2] rfl) (fun w_18 H locs ls he hP hD hS hl => kk w_18 H locs ls (hR.trans he) hP hD hS hl)
              · have c_91 : (r_58 = 0) := c_91
                have hR := hR.trans (if_pos c_91)
                refine lv_aload_n hx hb dX6_goDay_94 rfl (lv_at hl 2 rfl) ?_
                refine lv_aload_n hx hb dX6_goDay_95 rfl (lv_at hl 2 rfl) ?_
                refine va_get (D := δ) (ci := 6) (v := .ref aR8) (C := RX6) (T := TX6) (N := 34) hx hb hts hinX6 hown hK hP 0 rfl rfl 12 (by decide) (hts (.fieldLink RX6 31 "GloveHoursModel" "act" "[I") (List.mem_of_getElem? (i := 4) rfl)) (fun _ h9 => h9) rfl dX6_goDay_96 ?_
                refine lv_iload_n hx hb dX6_goDay_99 rfl (lv_at hl 1 rfl) ?_
                refine va_iald hx hb hK hP 8 0 rfl rfl (vp_in_nI (by omega) (by decide)) dX6_goDay_100 ?_
                refine lv_aload_n hx hb dX6_goDay_101 rfl (lv_at hl 2 rfl) ?_
                refine va_get (D := δ) (ci := 6) (v := .ref aR9) (C := RX6) (T := TX6) (N := 34) hx hb hts hinX6 hown hK hP 0 rfl rfl 13 (by decide) (hts (.fieldLink RX6 34 "GloveHoursModel" "who" "[I") (List.mem_of_getElem? (i := 5) rfl)) (fun _ h9 => h9) rfl dX6_goDay_102 ?_
                refine lv_iload_n hx hb dX6_goDay_105 rfl (lv_at hl 1 rfl) ?_
                refine va_iald hx hb hK hP 9 0 rfl rfl (vp_in_nI (by omega) (by decide)) dX6_goDay_106 ?_
                refine lv_aload_n hx hb dX6_goDay_107 rfl (lv_at hl 2 rfl) ?_
                refine va_get (D := δ) (ci := 6) (v := .ref aR11) (C := RX6) (T := TX6) (N := 34) hx hb hts hinX6 hown hK hP 0 rfl rfl 15 (by decide) (hts (.fieldLink RX6 40 "GloveHoursModel" "whom" "[I") (List.mem_of_getElem? (i := 6) rfl)) (fun _ h9 => h9) rfl dX6_goDay_108 ?_
                refine lv_iload_n hx hb dX6_goDay_111 rfl (lv_at hl 1 rfl) ?_
                refine va_iald hx hb hK hP 11 0 rfl rfl (vp_in_nI (by omega) (by decide)) dX6_goDay_112 ?_
                refine lv_aload_n hx hb dX6_goDay_113 rfl (lv_at hl 2 rfl) ?_
                refine va_get (D := δ) (ci := 6) (v := .ref aR10) (C := RX6) (T := TX6) (N := 34) hx hb hts hinX6 hown hK hP 0 rfl rfl 14 (by decide) (hts (.fieldLink RX6 37 "GloveHoursModel" "hour" "[I") (List.mem_of_getElem? (i := 7) rfl)) (fun _ h9 => h9) rfl dX6_goDay_114 ?_
                refine lv_iload_n hx hb dX6_goDay_117 rfl (lv_at hl 1 rfl) ?_
                refine va_iald hx hb hK hP 10 0 rfl rfl (vp_in_nI (by omega) (by decide)) dX6_goDay_118 ?_
                have hr := mrV (p := p) (e := e) (R := rm_X6_goDay) (below := below) (meth := meth) (H := H) (locs := locs) (ls := ls) (As := [.int ((aAct ac) (nI i_18).toNatClampNeg), .int ((aWho ac) (nI i_18).toNatClampNeg), .int ((aWhom ac) (nI i_18).toNatClampNeg), .int ((aHour ac) (nI i_18).toNatClampNeg)]) (rest := []) (c_X6_happen l δ cI cJ cZ aR0 aR1 aR2 aR3 aR4 aR5 aR6 aR7 aR8 aR9 aR10 aR11 aR12 aR13 aR14 aR15 aR16 aR17 aR18 aR19 aR20 aR21 lv_18 sg pd ac dd_18 hd le ((-6 : Int32), (-6 : Int32)) my lf pa kp ((aAct ac) (nI i_18).toNatClampNeg) ((aWho ac) (nI i_18).toNatClampNeg) ((aWhom ac) (nI i_18).toNatClampNeg) ((aHour ac) (nI i_18).toNatClampNeg) (hw_58.trans c_91) (by rw [nI_clamp (by omega)]; exact hho _ hlt_18) hrk_18 (⟨hdb_18.1, by omega⟩)) hx hb hml hts hown hK hNW hP hD [0, 1, 2, 3, 4, 5, 6, 7, 8, 9, 10, 11, 12, 13, 14, 15, 16, 17, 18, 19, 20, 21] rfl rfl 6 0 rfl rfl (cwV 4 hts gX6_goDay_X6_happen rfl rfl rfl (by decide +kernel) ⟨(Nat.le_of_ble_eq_true rfl), (Nat.le_of_ble_eq_true rfl)⟩) rfl hl.1 rfl (Nat.le_of_ble_eq_true rfl) dX6_goDay_119
                refine mc_v (wr := ([] : va_W)) hr hP hD hS hA [0, 1, 2, 3, 4, 5, 6, 7, 8, 9, 10, 11, 12, 13, 14, 15, 16, 17, 18, 19, 20, 21] [] [0, 1, 2, 3, 4, 5, 6, 7, 8, 9, 10, 11, 12, 13, 14, 15, 16, 17, 18, 19, 20, 21] rfl rfl rfl rfl rfl (wn := fun u_119 => (wR cI cJ cZ aR0 aR1 aR2 aR3 aR4 aR5 aR6 aR7 aR8 aR9 aR10 aR11 aR12 aR13 aR14 aR15 aR16 aR17 aR18 aR19 aR20 aR21 u_119.1 sg pd ac u_119.2 hd le ((-6 : Int32), (-6 : Int32)) my lf pa kp)) (fun _ => rfl) (fun u_119 H locs hw_119 hP hD hS => ?_)
                have hP : va_P δ vwCl (wR cI cJ cZ aR0 aR1 aR2 aR3 aR4 aR5 aR6 aR7 aR8 aR9 aR10 aR11 aR12 aR13 aR14 aR15 aR16 aR17 aR18 aR19 aR20 aR21 u_119.1 sg pd ac u_119.2 hd le ((-6 : Int32), (-6 : Int32)) my lf pa kp) H := hP
                have hD : va_D A (wR cI cJ cZ aR0 aR1 aR2 aR3 aR4 aR5 aR6 aR7 aR8 aR9 aR10 aR11 aR12 aR13 aR14 aR15 aR16 aR17 aR18 aR19 aR20 aR21 u_119.1 sg pd ac u_119.2 hd le ((-6 : Int32), (-6 : Int32)) my lf pa kp) := hD
                have hR := bnd_eq hR hw_119.symm
                refine lv_iinc (v := (nI (i_18 + 1))) (lv' := [(1, .int (nI (i_18 + 1))), (2, .int r_58), (0, .ref aR0)]) hx hb dX6_goDay_122 hl (k := 1) rfl (nI_1 i_18) (by decide) rfl (fun ls hl => ?_)
                refine lv_goto (tgt := 18) hx hb dX6_goDay_125 (by decide) ?_
                exact ih_18 (i_18 + 1) u_119.1 u_119.2 ((-6 : Int32), (-6 : Int32)) _ _ _ (by omega) (by omega) (by first | exact happen_rok hw_119 hrk_18 (by rw [nI_clamp (by omega)]; exact hho _ hlt_18) | exact hrk_18) (by first | exact happen_deeds hw_119 (by omega) hdb_18 | exact dd_le hdb_18) hP hD hS (lv_sub hl [0, 2] rfl) (fun w_18 H locs ls he hP hD hS hl => kk w_18 H locs ls (hR.trans he) hP hD hS hl)
            · have c_78 : ¬ (r_58 ≤ 0) := c_78
              have hR := hR.trans (if_neg c_78)
              refine lv_iload_n hx hb dX6_goDay_81 rfl (lv_at hl 0 rfl) ?_
              refine lv_goto (tgt := 87) hx hb dX6_goDay_82 (by decide) ?_
              refine va_put (D := δ) (ci := 6) (v := .int r_58) (ty := .int) (C := RX6) (T := TX6) (N := 34) hx hb hts hinX6 tyX6 tyX6_ok nmX6 hown hK hP hD hS 0 rfl rfl 26 (by decide) (hts (.fieldLink RX6 187 "GloveHoursModel" "badWhy" "I") (List.mem_of_getElem? (i := 2) rfl)) (fun _ h9 => h9) rfl (by decide +kernel) rfl rfl (Nat.le_of_ble_eq_true rfl) dX6_goDay_87 (fun H locs hP hD hS => ?_)
              have hP : va_P δ vwCl (wR cI cJ cZ aR0 aR1 aR2 aR3 aR4 aR5 aR6 aR7 aR8 aR9 aR10 aR11 aR12 aR13 aR14 aR15 aR16 aR17 aR18 aR19 aR20 aR21 lv_18 sg pd ac dd_18 hd le ((-6 : Int32), r_58) my lf pa kp) H := hP
              have hD : va_D A (wR cI cJ cZ aR0 aR1 aR2 aR3 aR4 aR5 aR6 aR7 aR8 aR9 aR10 aR11 aR12 aR13 aR14 aR15 aR16 aR17 aR18 aR19 aR20 aR21 lv_18 sg pd ac dd_18 hd le ((-6 : Int32), r_58) my lf pa kp) := hD
              refine lv_iload_n hx hb dX6_goDay_90 rfl (lv_at hl 0 rfl) ?_
              refine lv_if_ne (tgt := 122) hx hb dX6_goDay_91 (by decide) (fun c_91 => ?_) (fun c_91 => ?_)
              · have c_91 : ¬ (r_58 = 0) := c_91
                have hR := hR.trans (if_neg c_91)
                refine lv_iinc (v := (nI (i_18 + 1))) (lv' := [(1, .int (nI (i_18 + 1))), (2, .int r_58), (0, .ref aR0)]) hx hb dX6_goDay_122 hl (k := 1) rfl (nI_1 i_18) (by decide) rfl (fun ls hl => ?_)
                refine lv_goto (tgt := 18) hx hb dX6_goDay_125 (by decide) ?_
                exact ih_18 (i_18 + 1) lv_18 dd_18 ((-6 : Int32), r_58) _ _ _ (by omega) (by omega) (by first | exact happen_rok hw_119 hrk_18 (by rw [nI_clamp (by omega)]; exact hho _ hlt_18) | exact hrk_18) (by first | exact happen_deeds hw_119 (by omega) hdb_18 | exact dd_le hdb_18) hP hD hS (lv_sub hl [0, 2] rfl) (fun w_18 H locs ls he hP hD hS hl => kk w_18 H locs ls (hR.trans he) hP hD hS hl)
              · have c_91 : (r_58 = 0) := c_91
                have hR := hR.trans (if_pos c_91)
                refine lv_aload_n hx hb dX6_goDay_94 rfl (lv_at hl 2 rfl) ?_
                refine lv_aload_n hx hb dX6_goDay_95 rfl (lv_at hl 2 rfl) ?_
                refine va_get (D := δ) (ci := 6) (v := .ref aR8) (C := RX6) (T := TX6) (N := 34) hx hb hts hinX6 hown hK hP 0 rfl rfl 12 (by decide) (hts (.fieldLink RX6 31 "GloveHoursModel" "act" "[I") (List.mem_of_getElem? (i := 4) rfl)) (fun _ h9 => h9) rfl dX6_goDay_96 ?_
                refine lv_iload_n hx hb dX6_goDay_99 rfl (lv_at hl 1 rfl) ?_
                refine va_iald hx hb hK hP 8 0 rfl rfl (vp_in_nI (by omega) (by decide)) dX6_goDay_100 ?_
                refine lv_aload_n hx hb dX6_goDay_101 rfl (lv_at hl 2 rfl) ?_
                refine va_get (D := δ) (ci := 6) (v := .ref aR9) (C := RX6) (T := TX6) (N := 34) hx hb hts hinX6 hown hK hP 0 rfl rfl 13 (by decide) (hts (.fieldLink RX6 34 "GloveHoursModel" "who" "[I") (List.mem_of_getElem? (i := 5) rfl)) (fun _ h9 => h9) rfl dX6_goDay_102 ?_
                refine lv_iload_n hx hb dX6_goDay_105 rfl (lv_at hl 1 rfl) ?_
                refine va_iald hx hb hK hP 9 0 rfl rfl (vp_in_nI (by omega) (by decide)) dX6_goDay_106 ?_
                refine lv_aload_n hx hb dX6_goDay_107 rfl (lv_at hl 2 rfl) ?_
                refine va_get (D := δ) (ci := 6) (v := .ref aR11) (C := RX6) (T := TX6) (N := 34) hx hb hts hinX6 hown hK hP 0 rfl rfl 15 (by decide) (hts (.fieldLink RX6 40 "GloveHoursModel" "whom" "[I") (List.mem_of_getElem? (i := 6) rfl)) (fun _ h9 => h9) rfl dX6_goDay_108 ?_
                refine lv_iload_n hx hb dX6_goDay_111 rfl (lv_at hl 1 rfl) ?_
                refine va_iald hx hb hK hP 11 0 rfl rfl (vp_in_nI (by omega) (by decide)) dX6_goDay_112 ?_
                refine lv_aload_n hx hb dX6_goDay_113 rfl (lv_at hl 2 rfl) ?_
                refine va_get (D := δ) (ci := 6) (v := .ref aR10) (C := RX6) (T := TX6) (N := 34) hx hb hts hinX6 hown hK hP 0 rfl rfl 14 (by decide) (hts (.fieldLink RX6 37 "GloveHoursModel" "hour" "[I") (List.mem_of_getElem? (i := 7) rfl)) (fun _ h9 => h9) rfl dX6_goDay_114 ?_
                refine lv_iload_n hx hb dX6_goDay_117 rfl (lv_at hl 1 rfl) ?_
                refine va_iald hx hb hK hP 10 0 rfl rfl (vp_in_nI (by omega) (by decide)) dX6_goDay_118 ?_
                have hr := mrV (p := p) (e := e) (R := rm_X6_goDay) (below := below) (meth := meth) (H := H) (locs := locs) (ls := ls) (As := [.int ((aAct ac) (nI i_18).toNatClampNeg), .int ((aWho ac) (nI i_18).toNatClampNeg), .int ((aWhom ac) (nI i_18).toNatClampNeg), .int ((aHour ac) (nI i_18).toNatClampNeg)]) (rest := []) (c_X6_happen l δ cI cJ cZ aR0 aR1 aR2 aR3 aR4 aR5 aR6 aR7 aR8 aR9 aR10 aR11 aR12 aR13 aR14 aR15 aR16 aR17 aR18 aR19 aR20 aR21 lv_18 sg pd ac dd_18 hd le ((-6 : Int32), r_58) my lf pa kp ((aAct ac) (nI i_18).toNatClampNeg) ((aWho ac) (nI i_18).toNatClampNeg) ((aWhom ac) (nI i_18).toNatClampNeg) ((aHour ac) (nI i_18).toNatClampNeg) (hw_58.trans c_91) (by rw [nI_clamp (by omega)]; exact hho _ hlt_18) hrk_18 (⟨hdb_18.1, by omega⟩)) hx hb hml hts hown hK hNW hP hD [0, 1, 2, 3, 4, 5, 6, 7, 8, 9, 10, 11, 12, 13, 14, 15, 16, 17, 18, 19, 20, 21] rfl rfl 6 0 rfl rfl (cwV 4 hts gX6_goDay_X6_happen rfl rfl rfl (by decide +kernel) ⟨(Nat.le_of_ble_eq_true rfl), (Nat.le_of_ble_eq_true rfl)⟩) rfl hl.1 rfl (Nat.le_of_ble_eq_true rfl) dX6_goDay_119
                refine mc_v (wr := ([] : va_W)) hr hP hD hS hA [0, 1, 2, 3, 4, 5, 6, 7, 8, 9, 10, 11, 12, 13, 14, 15, 16, 17, 18, 19, 20, 21] [] [0, 1, 2, 3, 4, 5, 6, 7, 8, 9, 10, 11, 12, 13, 14, 15, 16, 17, 18, 19, 20, 21] rfl rfl rfl rfl rfl (wn := fun u_119 => (wR cI cJ cZ aR0 aR1 aR2 aR3 aR4 aR5 aR6 aR7 aR8 aR9 aR10 aR11 aR12 aR13 aR14 aR15 aR16 aR17 aR18 aR19 aR20 aR21 u_119.1 sg pd ac u_119.2 hd le ((-6 : Int32), r_58) my lf pa kp)) (fun _ => rfl) (fun u_119 H locs hw_119 hP hD hS => ?_)
                have hP : va_P δ vwCl (wR cI cJ cZ aR0 aR1 aR2 aR3 aR4 aR5 aR6 aR7 aR8 aR9 aR10 aR11 aR12 aR13 aR14 aR15 aR16 aR17 aR18 aR19 aR20 aR21 u_119.1 sg pd ac u_119.2 hd le ((-6 : Int32), r_58) my lf pa kp) H := hP
                have hD : va_D A (wR cI cJ cZ aR0 aR1 aR2 aR3 aR4 aR5 aR6 aR7 aR8 aR9 aR10 aR11 aR12 aR13 aR14 aR15 aR16 aR17 aR18 aR19 aR20 aR21 u_119.1 sg pd ac u_119.2 hd le ((-6 : Int32), r_58) my lf pa kp) := hD
                have hR := bnd_eq hR hw_119.symm
                refine lv_iinc (v := (nI (i_18 + 1))) (lv' := [(1, .int (nI (i_18 + 1))), (2, .int r_58), (0, .ref aR0)]) hx hb dX6_goDay_122 hl (k := 1) rfl (nI_1 i_18) (by decide) rfl (fun ls hl => ?_)
                refine lv_goto (tgt := 18) hx hb dX6_goDay_125 (by decide) ?_
                exact ih_18 (i_18 + 1) u_119.1 u_119.2 ((-6 : Int32), r_58) _ _ _ (by omega) (by omega) (by first | exact happen_rok hw_119 hrk_18 (by rw [nI_clamp (by omega)]; exact hho _ hlt_18) | exact hrk_18) (by first | exact happen_deeds hw_119 (by omega) hdb_18 | exact dd_le hdb_18) hP hD hS (lv_sub hl [0, 2] rfl) (fun w_18 H locs ls he hP hD hS hl => kk w_18 H locs ls (hR.trans he) hP hD hS hl)
          · have c_64 : ¬ (r_58 ≤ 0) := c_64
            have hR := hR.trans (if_neg c_64)
            refine lv_iload_n hx hb dX6_goDay_67 rfl (lv_at hl 1 rfl) ?_
            refine lv_goto (tgt := 73) hx hb dX6_goDay_68 (by decide) ?_
            refine va_put (D := δ) (ci := 6) (v := .int (nI i_18)) (ty := .int) (C := RX6) (T := TX6) (N := 34) hx hb hts hinX6 tyX6 tyX6_ok nmX6 hown hK hP hD hS 0 rfl rfl 25 (by decide) (hts (.fieldLink RX6 184 "GloveHoursModel" "badAct" "I") (List.mem_of_getElem? (i := 1) rfl)) (fun _ h9 => h9) rfl (by decide +kernel) rfl rfl (Nat.le_of_ble_eq_true rfl) dX6_goDay_73 (fun H locs hP hD hS => ?_)
            have hP : va_P δ vwCl (wR cI cJ cZ aR0 aR1 aR2 aR3 aR4 aR5 aR6 aR7 aR8 aR9 aR10 aR11 aR12 aR13 aR14 aR15 aR16 aR17 aR18 aR19 aR20 aR21 lv_18 sg pd ac dd_18 hd le ((nI i_18), bBadWhy bd_18) my lf pa kp) H := hP
            have hD : va_D A (wR cI cJ cZ aR0 aR1 aR2 aR3 aR4 aR5 aR6 aR7 aR8 aR9 aR10 aR11 aR12 aR13 aR14 aR15 aR16 aR17 aR18 aR19 aR20 aR21 lv_18 sg pd ac dd_18 hd le ((nI i_18), bBadWhy bd_18) my lf pa kp) := hD
            refine lv_aload_n hx hb dX6_goDay_76 rfl (lv_at hl 2 rfl) ?_
            refine lv_iload_n hx hb dX6_goDay_77 rfl (lv_at hl 0 rfl) ?_
            refine lv_if_le (tgt := 85) hx hb dX6_goDay_78 (by decide) (fun c_78 => ?_) (fun c_78 => ?_)
            · have c_78 : (r_58 ≤ 0) := c_78
              have hR := hR.trans (if_pos c_78)
              refine lv_bipush (v := (-6 : Int32)) hx hb dX6_goDay_85 (by decide) ?_
              refine va_put (D := δ) (ci := 6) (v := .int (-6 : Int32)) (ty := .int) (C := RX6) (T := TX6) (N := 34) hx hb hts hinX6 tyX6 tyX6_ok nmX6 hown hK hP hD hS 0 rfl rfl 26 (by decide) (hts (.fieldLink RX6 187 "GloveHoursModel" "badWhy" "I") (List.mem_of_getElem? (i := 2) rfl)) (fun _ h9 => h9) rfl (by decide +kernel) rfl rfl (Nat.le_of_ble_eq_true rfl) dX6_goDay_87 (fun H locs hP hD hS => ?_)
              have hP : va_P δ vwCl (wR cI cJ cZ aR0 aR1 aR2 aR3 aR4 aR5 aR6 aR7 aR8 aR9 aR10 aR11 aR12 aR13 aR14 aR15 aR16 aR17 aR18 aR19 aR20 aR21 lv_18 sg pd ac dd_18 hd le ((nI i_18), (-6 : Int32)) my lf pa kp) H := hP
              have hD : va_D A (wR cI cJ cZ aR0 aR1 aR2 aR3 aR4 aR5 aR6 aR7 aR8 aR9 aR10 aR11 aR12 aR13 aR14 aR15 aR16 aR17 aR18 aR19 aR20 aR21 lv_18 sg pd ac dd_18 hd le ((nI i_18), (-6 : Int32)) my lf pa kp) := hD
              refine lv_iload_n hx hb dX6_goDay_90 rfl (lv_at hl 0 rfl) ?_
              refine lv_if_ne (tgt := 122) hx hb dX6_goDay_91 (by decide) (fun c_91 => ?_) (fun c_91 => ?_)
              · have c_91 : ¬ (r_58 = 0) := c_91
                have hR := hR.trans (if_neg c_91)
                refine lv_iinc (v := (nI (i_18 + 1))) (lv' := [(1, .int (nI (i_18 + 1))), (2, .int r_58), (0, .ref aR0)]) hx hb dX6_goDay_122 hl (k := 1) rfl (nI_1 i_18) (by decide) rfl (fun ls hl => ?_)
                refine lv_goto (tgt := 18) hx hb dX6_goDay_125 (by decide) ?_
                exact ih_18 (i_18 + 1) lv_18 dd_18 ((nI i_18), (-6 : Int32)) _ _ _ (by omega) (by omega) (by first | exact happen_rok hw_119 hrk_18 (by rw [nI_clamp (by omega)]; exact hho _ hlt_18) | exact hrk_18) (by first | exact happen_deeds hw_119 (by omega) hdb_18 | exact dd_le hdb_18) hP hD hS (lv_sub hl [0, 2] rfl) (fun w_18 H locs ls he hP hD hS hl => kk w_18 H locs ls (hR.trans he) hP hD hS hl)
              · have c_91 : (r_58 = 0) := c_91
                have hR := hR.trans (if_pos c_91)
                refine lv_aload_n hx hb dX6_goDay_94 rfl (lv_at hl 2 rfl) ?_
                refine lv_aload_n hx hb dX6_goDay_95 rfl (lv_at hl 2 rfl) ?_
                refine va_get (D := δ) (ci := 6) (v := .ref aR8) (C := RX6) (T := TX6) (N := 34) hx hb hts hinX6 hown hK hP 0 rfl rfl 12 (by decide) (hts (.fieldLink RX6 31 "GloveHoursModel" "act" "[I") (List.mem_of_getElem? (i := 4) rfl)) (fun _ h9 => h9) rfl dX6_goDay_96 ?_
                refine lv_iload_n hx hb dX6_goDay_99 rfl (lv_at hl 1 rfl) ?_
                refine va_iald hx hb hK hP 8 0 rfl rfl (vp_in_nI (by omega) (by decide)) dX6_goDay_100 ?_
                refine lv_aload_n hx hb dX6_goDay_101 rfl (lv_at hl 2 rfl) ?_
                refine va_get (D := δ) (ci := 6) (v := .ref aR9) (C := RX6) (T := TX6) (N := 34) hx hb hts hinX6 hown hK hP 0 rfl rfl 13 (by decide) (hts (.fieldLink RX6 34 "GloveHoursModel" "who" "[I") (List.mem_of_getElem? (i := 5) rfl)) (fun _ h9 => h9) rfl dX6_goDay_102 ?_
                refine lv_iload_n hx hb dX6_goDay_105 rfl (lv_at hl 1 rfl) ?_
                refine va_iald hx hb hK hP 9 0 rfl rfl (vp_in_nI (by omega) (by decide)) dX6_goDay_106 ?_
                refine lv_aload_n hx hb dX6_goDay_107 rfl (lv_at hl 2 rfl) ?_
                refine va_get (D := δ) (ci := 6) (v := .ref aR11) (C := RX6) (T := TX6) (N := 34) hx hb hts hinX6 hown hK hP 0 rfl rfl 15 (by decide) (hts (.fieldLink RX6 40 "GloveHoursModel" "whom" "[I") (List.mem_of_getElem? (i := 6) rfl)) (fun _ h9 => h9) rfl dX6_goDay_108 ?_
                refine lv_iload_n hx hb dX6_goDay_111 rfl (lv_at hl 1 rfl) ?_
                refine va_iald hx hb hK hP 11 0 rfl rfl (vp_in_nI (by omega) (by decide)) dX6_goDay_112 ?_
                refine lv_aload_n hx hb dX6_goDay_113 rfl (lv_at hl 2 rfl) ?_
                refine va_get (D := δ) (ci := 6) (v := .ref aR10) (C := RX6) (T := TX6) (N := 34) hx hb hts hinX6 hown hK hP 0 rfl rfl 14 (by decide) (hts (.fieldLink RX6 37 "GloveHoursModel" "hour" "[I") (List.mem_of_getElem? (i := 7) rfl)) (fun _ h9 => h9) rfl dX6_goDay_114 ?_
                refine lv_iload_n hx hb dX6_goDay_117 rfl (lv_at hl 1 rfl) ?_
                refine va_iald hx hb hK hP 10 0 rfl rfl (vp_in_nI (by omega) (by decide)) dX6_goDay_118 ?_
                have hr := mrV (p := p) (e := e) (R := rm_X6_goDay) (below := below) (meth := meth) (H := H) (locs := locs) (ls := ls) (As := [.int ((aAct ac) (nI i_18).toNatClampNeg), .int ((aWho ac) (nI i_18).toNatClampNeg), .int ((aWhom ac) (nI i_18).toNatClampNeg), .int ((aHour ac) (nI i_18).toNatClampNeg)]) (rest := []) (c_X6_happen l δ cI cJ cZ aR0 aR1 aR2 aR3 aR4 aR5 aR6 aR7 aR8 aR9 aR10 aR11 aR12 aR13 aR14 aR15 aR16 aR17 aR18 aR19 aR20 aR21 lv_18 sg pd ac dd_18 hd le ((nI i_18), (-6 : Int32)) my lf pa kp ((aAct ac) (nI i_18).toNatClampNeg) ((aWho ac) (nI i_18).toNatClampNeg) ((aWhom ac) (nI i_18).toNatClampNeg) ((aHour ac) (nI i_18).toNatClampNeg) (hw_58.trans c_91) (by rw [nI_clamp (by omega)]; exact hho _ hlt_18) hrk_18 (⟨hdb_18.1, by omega⟩)) hx hb hml hts hown hK hNW hP hD [0, 1, 2, 3, 4, 5, 6, 7, 8, 9, 10, 11, 12, 13, 14, 15, 16, 17, 18, 19, 20, 21] rfl rfl 6 0 rfl rfl (cwV 4 hts gX6_goDay_X6_happen rfl rfl rfl (by decide +kernel) ⟨(Nat.le_of_ble_eq_true rfl), (Nat.le_of_ble_eq_true rfl)⟩) rfl hl.1 rfl (Nat.le_of_ble_eq_true rfl) dX6_goDay_119
                refine mc_v (wr := ([] : va_W)) hr hP hD hS hA [0, 1, 2, 3, 4, 5, 6, 7, 8, 9, 10, 11, 12, 13, 14, 15, 16, 17, 18, 19, 20, 21] [] [0, 1, 2, 3, 4, 5, 6, 7, 8, 9, 10, 11, 12, 13, 14, 15, 16, 17, 18, 19, 20, 21] rfl rfl rfl rfl rfl (wn := fun u_119 => (wR cI cJ cZ aR0 aR1 aR2 aR3 aR4 aR5 aR6 aR7 aR8 aR9 aR10 aR11 aR12 aR13 aR14 aR15 aR16 aR17 aR18 aR19 aR20 aR21 u_119.1 sg pd ac u_119.2 hd le ((nI i_18), (-6 : Int32)) my lf pa kp)) (fun _ => rfl) (fun u_119 H locs hw_119 hP hD hS => ?_)
                have hP : va_P δ vwCl (wR cI cJ cZ aR0 aR1 aR2 aR3 aR4 aR5 aR6 aR7 aR8 aR9 aR10 aR11 aR12 aR13 aR14 aR15 aR16 aR17 aR18 aR19 aR20 aR21 u_119.1 sg pd ac u_119.2 hd le ((nI i_18), (-6 : Int32)) my lf pa kp) H := hP
                have hD : va_D A (wR cI cJ cZ aR0 aR1 aR2 aR3 aR4 aR5 aR6 aR7 aR8 aR9 aR10 aR11 aR12 aR13 aR14 aR15 aR16 aR17 aR18 aR19 aR20 aR21 u_119.1 sg pd ac u_119.2 hd le ((nI i_18), (-6 : Int32)) my lf pa kp) := hD
                have hR := bnd_eq hR hw_119.symm
                refine lv_iinc (v := (nI (i_18 + 1))) (lv' := [(1, .int (nI (i_18 + 1))), (2, .int r_58), (0, .ref aR0)]) hx hb dX6_goDay_122 hl (k := 1) rfl (nI_1 i_18) (by decide) rfl (fun ls hl => ?_)
                refine lv_goto (tgt := 18) hx hb dX6_goDay_125 (by decide) ?_
                exact ih_18 (i_18 + 1) u_119.1 u_119.2 ((nI i_18), (-6 : Int32)) _ _ _ (by omega) (by omega) (by first | exact happen_rok hw_119 hrk_18 (by rw [nI_clamp (by omega)]; exact hho _ hlt_18) | exact hrk_18) (by first | exact happen_deeds hw_119 (by omega) hdb_18 | exact dd_le hdb_18) hP hD hS (lv_sub hl [0, 2] rfl) (fun w_18 H locs ls he hP hD hS hl => kk w_18 H locs ls (hR.trans he) hP hD hS hl)
            · have c_78 : ¬ (r_58 ≤ 0) := c_78
              have hR := hR.trans (if_neg c_78)
              refine lv_iload_n hx hb dX6_goDay_81 rfl (lv_at hl 0 rfl) ?_
              refine lv_goto (tgt := 87) hx hb dX6_goDay_82 (by decide) ?_
              refine va_put (D := δ) (ci := 6) (v := .int r_58) (ty := .int) (C := RX6) (T := TX6) (N := 34) hx hb hts hinX6 tyX6 tyX6_ok nmX6 hown hK hP hD hS 0 rfl rfl 26 (by decide) (hts (.fieldLink RX6 187 "GloveHoursModel" "badWhy" "I") (List.mem_of_getElem? (i := 2) rfl)) (fun _ h9 => h9) rfl (by decide +kernel) rfl rfl (Nat.le_of_ble_eq_true rfl) dX6_goDay_87 (fun H locs hP hD hS => ?_)
              have hP : va_P δ vwCl (wR cI cJ cZ aR0 aR1 aR2 aR3 aR4 aR5 aR6 aR7 aR8 aR9 aR10 aR11 aR12 aR13 aR14 aR15 aR16 aR17 aR18 aR19 aR20 aR21 lv_18 sg pd ac dd_18 hd le ((nI i_18), r_58) my lf pa kp) H := hP
              have hD : va_D A (wR cI cJ cZ aR0 aR1 aR2 aR3 aR4 aR5 aR6 aR7 aR8 aR9 aR10 aR11 aR12 aR13 aR14 aR15 aR16 aR17 aR18 aR19 aR20 aR21 lv_18 sg pd ac dd_18 hd le ((nI i_18), r_58) my lf pa kp) := hD
              refine lv_iload_n hx hb dX6_goDay_90 rfl (lv_at hl 0 rfl) ?_
              refine lv_if_ne (tgt := 122) hx hb dX6_goDay_91 (by decide) (fun c_91 => ?_) (fun c_91 => ?_)
              · have c_91 : ¬ (r_58 = 0) := c_91
                have hR := hR.trans (if_neg c_91)
                refine lv_iinc (v := (nI (i_18 + 1))) (lv' := [(1, .int (nI (i_18 + 1))), (2, .int r_58), (0, .ref aR0)]) hx hb dX6_goDay_122 hl (k := 1) rfl (nI_1 i_18) (by decide) rfl (fun ls hl => ?_)
                refine lv_goto (tgt := 18) hx hb dX6_goDay_125 (by decide) ?_
                exact ih_18 (i_18 + 1) lv_18 dd_18 ((nI i_18), r_58) _ _ _ (by omega) (by omega) (by first | exact happen_rok hw_119 hrk_18 (by rw [nI_clamp (by omega)]; exact hho _ hlt_18) | exact hrk_18) (by first | exact happen_deeds hw_119 (by omega) hdb_18 | exact dd_le hdb_18) hP hD hS (lv_sub hl [0, 2] rfl) (fun w_18 H locs ls he hP hD hS hl => kk w_18 H locs ls (hR.trans he) hP hD hS hl)
              · have c_91 : (r_58 = 0) := c_91
                have hR := hR.trans (if_pos c_91)
                refine lv_aload_n hx hb dX6_goDay_94 rfl (lv_at hl 2 rfl) ?_
                refine lv_aload_n hx hb dX6_goDay_95 rfl (lv_at hl 2 rfl) ?_
                refine va_get (D := δ) (ci := 6) (v := .ref aR8) (C := RX6) (T := TX6) (N := 34) hx hb hts hinX6 hown hK hP 0 rfl rfl 12 (by decide) (hts (.fieldLink RX6 31 "GloveHoursModel" "act" "[I") (List.mem_of_getElem? (i := 4) rfl)) (fun _ h9 => h9) rfl dX6_goDay_96 ?_
                refine lv_iload_n hx hb dX6_goDay_99 rfl (lv_at hl 1 rfl) ?_
                refine va_iald hx hb hK hP 8 0 rfl rfl (vp_in_nI (by omega) (by decide)) dX6_goDay_100 ?_
                refine lv_aload_n hx hb dX6_goDay_101 rfl (lv_at hl 2 rfl) ?_
                refine va_get (D := δ) (ci := 6) (v := .ref aR9) (C := RX6) (T := TX6) (N := 34) hx hb hts hinX6 hown hK hP 0 rfl rfl 13 (by decide) (hts (.fieldLink RX6 34 "GloveHoursModel" "who" "[I") (List.mem_of_getElem? (i := 5) rfl)) (fun _ h9 => h9) rfl dX6_goDay_102 ?_
                refine lv_iload_n hx hb dX6_goDay_105 rfl (lv_at hl 1 rfl) ?_
                refine va_iald hx hb hK hP 9 0 rfl rfl (vp_in_nI (by omega) (by decide)) dX6_goDay_106 ?_
                refine lv_aload_n hx hb dX6_goDay_107 rfl (lv_at hl 2 rfl) ?_
                refine va_get (D := δ) (ci := 6) (v := .ref aR11) (C := RX6) (T := TX6) (N := 34) hx hb hts hinX6 hown hK hP 0 rfl rfl 15 (by decide) (hts (.fieldLink RX6 40 "GloveHoursModel" "whom" "[I") (List.mem_of_getElem? (i := 6) rfl)) (fun _ h9 => h9) rfl dX6_goDay_108 ?_
                refine lv_iload_n hx hb dX6_goDay_111 rfl (lv_at hl 1 rfl) ?_
                refine va_iald hx hb hK hP 11 0 rfl rfl (vp_in_nI (by omega) (by decide)) dX6_goDay_112 ?_
                refine lv_aload_n hx hb dX6_goDay_113 rfl (lv_at hl 2 rfl) ?_
                refine va_get (D := δ) (ci := 6) (v := .ref aR10) (C := RX6) (T := TX6) (N := 34) hx hb hts hinX6 hown hK hP 0 rfl rfl 14 (by decide) (hts (.fieldLink RX6 37 "GloveHoursModel" "hour" "[I") (List.mem_of_getElem? (i := 7) rfl)) (fun _ h9 => h9) rfl dX6_goDay_114 ?_
                refine lv_iload_n hx hb dX6_goDay_117 rfl (lv_at hl 1 rfl) ?_
                refine va_iald hx hb hK hP 10 0 rfl rfl (vp_in_nI (by omega) (by decide)) dX6_goDay_118 ?_
                have hr := mrV (p := p) (e := e) (R := rm_X6_goDay) (below := below) (meth := meth) (H := H) (locs := locs) (ls := ls) (As := [.int ((aAct ac) (nI i_18).toNatClampNeg), .int ((aWho ac) (nI i_18).toNatClampNeg), .int ((aWhom ac) (nI i_18).toNatClampNeg), .int ((aHour ac) (nI i_18).toNatClampNeg)]) (rest := []) (c_X6_happen l δ cI cJ cZ aR0 aR1 aR2 aR3 aR4 aR5 aR6 aR7 aR8 aR9 aR10 aR11 aR12 aR13 aR14 aR15 aR16 aR17 aR18 aR19 aR20 aR21 lv_18 sg pd ac dd_18 hd le ((nI i_18), r_58) my lf pa kp ((aAct ac) (nI i_18).toNatClampNeg) ((aWho ac) (nI i_18).toNatClampNeg) ((aWhom ac) (nI i_18).toNatClampNeg) ((aHour ac) (nI i_18).toNatClampNeg) (hw_58.trans c_91) (by rw [nI_clamp (by omega)]; exact hho _ hlt_18) hrk_18 (⟨hdb_18.1, by omega⟩)) hx hb hml hts hown hK hNW hP hD [0, 1, 2, 3, 4, 5, 6, 7, 8, 9, 10, 11, 12, 13, 14, 15, 16, 17, 18, 19, 20, 21] rfl rfl 6 0 rfl rfl (cwV 4 hts gX6_goDay_X6_happen rfl rfl rfl (by decide +kernel) ⟨(Nat.le_of_ble_eq_true rfl), (Nat.le_of_ble_eq_true rfl)⟩) rfl hl.1 rfl (Nat.le_of_ble_eq_true rfl) dX6_goDay_119
                refine mc_v (wr := ([] : va_W)) hr hP hD hS hA [0, 1, 2, 3, 4, 5, 6, 7, 8, 9, 10, 11, 12, 13, 14, 15, 16, 17, 18, 19, 20, 21] [] [0, 1, 2, 3, 4, 5, 6, 7, 8, 9, 10, 11, 12, 13, 14, 15, 16, 17, 18, 19, 20, 21] rfl rfl rfl rfl rfl (wn := fun u_119 => (wR cI cJ cZ aR0 aR1 aR2 aR3 aR4 aR5 aR6 aR7 aR8 aR9 aR10 aR11 aR12 aR13 aR14 aR15 aR16 aR17 aR18 aR19 aR20 aR21 u_119.1 sg pd ac u_119.2 hd le ((nI i_18), r_58) my lf pa kp)) (fun _ => rfl) (fun u_119 H locs hw_119 hP hD hS => ?_)
                have hP : va_P δ vwCl (wR cI cJ cZ aR0 aR1 aR2 aR3 aR4 aR5 aR6 aR7 aR8 aR9 aR10 aR11 aR12 aR13 aR14 aR15 aR16 aR17 aR18 aR19 aR20 aR21 u_119.1 sg pd ac u_119.2 hd le ((nI i_18), r_58) my lf pa kp) H := hP
                have hD : va_D A (wR cI cJ cZ aR0 aR1 aR2 aR3 aR4 aR5 aR6 aR7 aR8 aR9 aR10 aR11 aR12 aR13 aR14 aR15 aR16 aR17 aR18 aR19 aR20 aR21 u_119.1 sg pd ac u_119.2 hd le ((nI i_18), r_58) my lf pa kp) := hD
                have hR := bnd_eq hR hw_119.symm
                refine lv_iinc (v := (nI (i_18 + 1))) (lv' := [(1, .int (nI (i_18 + 1))), (2, .int r_58), (0, .ref aR0)]) hx hb dX6_goDay_122 hl (k := 1) rfl (nI_1 i_18) (by decide) rfl (fun ls hl => ?_)
                refine lv_goto (tgt := 18) hx hb dX6_goDay_125 (by decide) ?_
                exact ih_18 (i_18 + 1) u_119.1 u_119.2 ((nI i_18), r_58) _ _ _ (by omega) (by omega) (by first | exact happen_rok hw_119 hrk_18 (by rw [nI_clamp (by omega)]; exact hho _ hlt_18) | exact hrk_18) (by first | exact happen_deeds hw_119 (by omega) hdb_18 | exact dd_le hdb_18) hP hD hS (lv_sub hl [0, 2] rfl) (fun w_18 H locs ls he hP hD hS hl => kk w_18 H locs ls (hR.trans he) hP hD hS hl)
  refine hloop_18 ((aActs ac).toNatClampNeg + 1) 0 lv u_1 ((-6 : Int32), (-6 : Int32)) _ _ _ (by omega) (by omega) hrk (bc_deeds hw_1) hP hD hS (lv_sub hl [0, 1] rfl) (fun w_18 H locs ls hw_18 hP hD hS hl => ?_)
  have hP : va_P δ vwCl (wR cI cJ cZ aR0 aR1 aR2 aR3 aR4 aR5 aR6 aR7 aR8 aR9 aR10 aR11 aR12 aR13 aR14 aR15 aR16 aR17 aR18 aR19 aR20 aR21 w_18.1 sg pd ac w_18.2.1 hd le w_18.2.2 my lf pa kp) H := hP
  have hD : va_D A (wR cI cJ cZ aR0 aR1 aR2 aR3 aR4 aR5 aR6 aR7 aR8 aR9 aR10 aR11 aR12 aR13 aR14 aR15 aR16 aR17 aR18 aR19 aR20 aR21 w_18.1 sg pd ac w_18.2.1 hd le w_18.2.2 my lf pa kp) := hD
  have hR := bnd_eq hR hw_18.symm
  exact hret _ _ (w_18.1, w_18.2.1, w_18.2.2) _ _ hR hP hD hS dX6_goDay_128

abbrev rm_X6_refusal : Room := { frames := 6, cells := 0, slots := 0, locals := 138 }
set_option maxHeartbeats 4000000 in
set_option maxRecDepth 100000 in
theorem c_X6_refusal (l : Launch) (δ : va_G) (cI cJ cZ : ClassId) (aR0 aR1 aR2 aR3 aR4 aR5 aR6 aR7 aR8 aR9 aR10 aR11 aR12 aR13 aR14 aR15 aR16 aR17 aR18 aR19 aR20 aR21 : Nat) (lv : LV) (sg : SG) (pd : PD) (ac : AC) (dd : DD) (hd : HD) (le : LE) (bd : BD) (my : MY) (lf : LF) (pa : PA) (kp : KP) (hq : vp_in (qPadMany pd) 61) (hrk : rOK lv) : mMi l δ (mTy cI cJ cZ) yX6_refusal wsX6_refusal rm_X6_refusal [.ref aR0] (wR cI cJ cZ aR0 aR1 aR2 aR3 aR4 aR5 aR6 aR7 aR8 aR9 aR10 aR11 aR12 aR13 aR14 aR15 aR16 aR17 aR18 aR19 aR20 aR21 lv sg pd ac dd hd le bd my lf pa kp) (S := LV × AC × DD × HD × LE × BD) (fun r u => F_X6_refusal lv pd ac dd hd le bd = (r, u)) (fun u => (wR cI cJ cZ aR0 aR1 aR2 aR3 aR4 aR5 aR6 aR7 aR8 aR9 aR10 aR11 aR12 aR13 aR14 aR15 aR16 aR17 aR18 aR19 aR20 aR21 u.1 sg pd u.2.1 u.2.2.1 u.2.2.2.1 u.2.2.2.2.1 u.2.2.2.2.2 my lf pa kp)) := by
  refine mk_i (cc := cX6_refusal) (maxL := 1) (by decide) rfl (Nat.le_of_ble_eq_true rfl) ?_
  intro p e s m args below meth c A Q ls H locs hx hb hml hts hown hK hNW hA hP hD hS hl hret
  have hown : s.vm.findClass RX6 = some m.cls := hown
  have hl : lv_has ls 1 [(0, .ref aR0)] := hl
  have hinX6 : ∀ w ∈ u_ws RX6 TX6 34, w ∈ wsX6_refusal := (fun _ h => List.mem_cons_of_mem _ (List.mem_append_right _ (h)))
  have hR := F_X6_refusal.eq_1 lv pd ac dd hd le bd
  refine lv_aload_n hx hb dX6_refusal_0 rfl (lv_at hl 0 rfl) ?_
  have hr := mrV (p := p) (e := e) (R := rm_X6_refusal) (below := below) (meth := meth) (H := H) (locs := locs) (ls := ls) (As := []) (rest := []) (c_X6_fault l δ cI cJ cZ aR0 aR1 aR2 aR3 aR4 aR5 aR6 aR7 aR8 aR9 aR10 aR11 aR12 aR13 aR14 aR15 aR16 aR17 aR18 aR19 aR20 aR21 lv sg pd ac dd hd le bd my lf pa kp hq) hx hb hml hts hown hK hNW hP hD [0, 1, 2, 3, 4, 5, 6, 7, 8, 9, 10, 11, 12, 13, 14, 15, 16, 17, 18, 19, 20, 21] rfl rfl 6 0 rfl rfl (cwV 0 hts gX6_refusal_X6_fault rfl rfl rfl (by decide +kernel) ⟨(Nat.le_of_ble_eq_true rfl), (Nat.le_of_ble_eq_true rfl)⟩) rfl hl.1 rfl (Nat.le_of_ble_eq_true rfl) dX6_refusal_1
  refine mc_i (wr := ([] : va_W)) hr hP hD hS hA [0, 1, 2, 3, 4, 5, 6, 7, 8, 9, 10, 11, 12, 13, 14, 15, 16, 17, 18, 19, 20, 21] [] [0, 1, 2, 3, 4, 5, 6, 7, 8, 9, 10, 11, 12, 13, 14, 15, 16, 17, 18, 19, 20, 21] rfl rfl rfl rfl rfl (wn := fun u_1 => (wR cI cJ cZ aR0 aR1 aR2 aR3 aR4 aR5 aR6 aR7 aR8 aR9 aR10 aR11 aR12 aR13 aR14 aR15 aR16 aR17 aR18 aR19 aR20 aR21 lv sg pd u_1 dd hd le bd my lf pa kp)) (fun _ => rfl) (fun r_1 u_1 H locs hw_1 hP hD hS => ?_)
  have hP : va_P δ vwCl (wR cI cJ cZ aR0 aR1 aR2 aR3 aR4 aR5 aR6 aR7 aR8 aR9 aR10 aR11 aR12 aR13 aR14 aR15 aR16 aR17 aR18 aR19 aR20 aR21 lv sg pd u_1 dd hd le bd my lf pa kp) H := hP
  have hD : va_D A (wR cI cJ cZ aR0 aR1 aR2 aR3 aR4 aR5 aR6 aR7 aR8 aR9 aR10 aR11 aR12 aR13 aR14 aR15 aR16 aR17 aR18 aR19 aR20 aR21 lv sg pd u_1 dd hd le bd my lf pa kp) := hD
  have hR := bnd_eq hR hw_1.symm
  refine lv_if_lt (tgt := 10) hx hb dX6_refusal_4 (by decide) (fun c_4 => ?_) (fun c_4 => ?_)
  · have c_4 : (r_1 < 0) := c_4
    have hR := hR.trans (if_pos c_4)
    refine lv_aload_n hx hb dX6_refusal_10 rfl (lv_at hl 0 rfl) ?_
    refine lv_aload_n hx hb dX6_refusal_11 rfl (lv_at hl 0 rfl) ?_
    refine va_get (D := δ) (ci := 6) (v := .ref aR15) (C := RX6) (T := TX6) (N := 34) hx hb hts hinX6 hown hK hP 0 rfl rfl 23 (by decide) (hts (.fieldLink RX6 52 "GloveHoursModel" "had" "[I") (List.mem_of_getElem? (i := 1) rfl)) (fun _ h9 => h9) rfl dX6_refusal_12 ?_
    have hr := mrV (p := p) (e := e) (R := rm_X6_refusal) (below := below) (meth := meth) (H := H) (locs := locs) (ls := ls) (As := [.ref aR15]) (rest := []) (c_X6_store_had l δ cI cJ cZ aR0 aR1 aR2 aR3 aR4 aR5 aR6 aR7 aR8 aR9 aR10 aR11 aR12 aR13 aR14 aR15 aR16 aR17 aR18 aR19 aR20 aR21 lv sg pd u_1 dd hd le bd my lf pa kp) hx hb hml hts hown hK hNW hP hD [0, 1, 2, 3, 4, 5, 6, 7, 8, 9, 10, 11, 12, 13, 14, 15, 16, 17, 18, 19, 20, 21] rfl rfl 6 0 rfl rfl (cwV 1 hts gX6_refusal_X6_store rfl rfl rfl (by decide +kernel) ⟨(Nat.le_of_ble_eq_true rfl), (Nat.le_of_ble_eq_true rfl)⟩) rfl hl.1 rfl (Nat.le_of_ble_eq_true rfl) dX6_refusal_15
    refine mc_v (wr := ([] : va_W)) hr hP hD hS hA [0, 1, 2, 3, 4, 5, 6, 7, 8, 9, 10, 11, 12, 13, 14, 15, 16, 17, 18, 19, 20, 21] [] [0, 1, 2, 3, 4, 5, 6, 7, 8, 9, 10, 11, 12, 13, 14, 15, 16, 17, 18, 19, 20, 21] rfl rfl rfl rfl rfl (wn := fun u_15 => (wR cI cJ cZ aR0 aR1 aR2 aR3 aR4 aR5 aR6 aR7 aR8 aR9 aR10 aR11 aR12 aR13 aR14 aR15 aR16 aR17 aR18 aR19 aR20 aR21 lv sg pd u_1 dd u_15 le bd my lf pa kp)) (fun _ => rfl) (fun u_15 H locs hw_15 hP hD hS => ?_)
    have hP : va_P δ vwCl (wR cI cJ cZ aR0 aR1 aR2 aR3 aR4 aR5 aR6 aR7 aR8 aR9 aR10 aR11 aR12 aR13 aR14 aR15 aR16 aR17 aR18 aR19 aR20 aR21 lv sg pd u_1 dd u_15 le bd my lf pa kp) H := hP
    have hD : va_D A (wR cI cJ cZ aR0 aR1 aR2 aR3 aR4 aR5 aR6 aR7 aR8 aR9 aR10 aR11 aR12 aR13 aR14 aR15 aR16 aR17 aR18 aR19 aR20 aR21 lv sg pd u_1 dd u_15 le bd my lf pa kp) := hD
    have hR := bnd_eq hR hw_15.symm
    refine lv_aload_n hx hb dX6_refusal_18 rfl (lv_at hl 0 rfl) ?_
    have hr := mrV (p := p) (e := e) (R := rm_X6_refusal) (below := below) (meth := meth) (H := H) (locs := locs) (ls := ls) (As := []) (rest := []) (c_X6_goDay l δ cI cJ cZ aR0 aR1 aR2 aR3 aR4 aR5 aR6 aR7 aR8 aR9 aR10 aR11 aR12 aR13 aR14 aR15 aR16 aR17 aR18 aR19 aR20 aR21 lv sg pd u_1 dd u_15 le bd my lf pa kp ((fault_ok hw_1 c_4 hq).1) ((fault_ok hw_1 c_4 hq).2) hrk) hx hb hml hts hown hK hNW hP hD [0, 1, 2, 3, 4, 5, 6, 7, 8, 9, 10, 11, 12, 13, 14, 15, 16, 17, 18, 19, 20, 21] rfl rfl 6 0 rfl rfl (cwV 0 hts gX6_refusal_X6_goDay rfl rfl rfl (by decide +kernel) ⟨(Nat.le_of_ble_eq_true rfl), (Nat.le_of_ble_eq_true rfl)⟩) rfl hl.1 rfl (Nat.le_of_ble_eq_true rfl) dX6_refusal_19
    refine mc_v (wr := ([] : va_W)) hr hP hD hS hA [0, 1, 2, 3, 4, 5, 6, 7, 8, 9, 10, 11, 12, 13, 14, 15, 16, 17, 18, 19, 20, 21] [] [0, 1, 2, 3, 4, 5, 6, 7, 8, 9, 10, 11, 12, 13, 14, 15, 16, 17, 18, 19, 20, 21] rfl rfl rfl rfl rfl (wn := fun u_19 => (wR cI cJ cZ aR0 aR1 aR2 aR3 aR4 aR5 aR6 aR7 aR8 aR9 aR10 aR11 aR12 aR13 aR14 aR15 aR16 aR17 aR18 aR19 aR20 aR21 u_19.1 sg pd u_1 u_19.2.1 u_15 le u_19.2.2 my lf pa kp)) (fun _ => rfl) (fun u_19 H locs hw_19 hP hD hS => ?_)
    have hP : va_P δ vwCl (wR cI cJ cZ aR0 aR1 aR2 aR3 aR4 aR5 aR6 aR7 aR8 aR9 aR10 aR11 aR12 aR13 aR14 aR15 aR16 aR17 aR18 aR19 aR20 aR21 u_19.1 sg pd u_1 u_19.2.1 u_15 le u_19.2.2 my lf pa kp) H := hP
    have hD : va_D A (wR cI cJ cZ aR0 aR1 aR2 aR3 aR4 aR5 aR6 aR7 aR8 aR9 aR10 aR11 aR12 aR13 aR14 aR15 aR16 aR17 aR18 aR19 aR20 aR21 u_19.1 sg pd u_1 u_19.2.1 u_15 le u_19.2.2 my lf pa kp) := hD
    have hR := bnd_eq hR hw_19.symm
    refine lv_aload_n hx hb dX6_refusal_22 rfl (lv_at hl 0 rfl) ?_
    refine lv_aload_n hx hb dX6_refusal_23 rfl (lv_at hl 0 rfl) ?_
    refine va_get (D := δ) (ci := 6) (v := .ref aR16) (C := RX6) (T := TX6) (N := 34) hx hb hts hinX6 hown hK hP 0 rfl rfl 24 (by decide) (hts (.fieldLink RX6 55 "GloveHoursModel" "leaves" "[I") (List.mem_of_getElem? (i := 2) rfl)) (fun _ h9 => h9) rfl dX6_refusal_24 ?_
    have hr := mrV (p := p) (e := e) (R := rm_X6_refusal) (below := below) (meth := meth) (H := H) (locs := locs) (ls := ls) (As := [.ref aR16]) (rest := []) (c_X6_store_leaves l δ cI cJ cZ aR0 aR1 aR2 aR3 aR4 aR5 aR6 aR7 aR8 aR9 aR10 aR11 aR12 aR13 aR14 aR15 aR16 aR17 aR18 aR19 aR20 aR21 u_19.1 sg pd u_1 u_19.2.1 u_15 le u_19.2.2 my lf pa kp) hx hb hml hts hown hK hNW hP hD [0, 1, 2, 3, 4, 5, 6, 7, 8, 9, 10, 11, 12, 13, 14, 15, 16, 17, 18, 19, 20, 21] rfl rfl 6 0 rfl rfl (cwV 1 hts gX6_refusal_X6_store rfl rfl rfl (by decide +kernel) ⟨(Nat.le_of_ble_eq_true rfl), (Nat.le_of_ble_eq_true rfl)⟩) rfl hl.1 rfl (Nat.le_of_ble_eq_true rfl) dX6_refusal_27
    refine mc_v (wr := ([] : va_W)) hr hP hD hS hA [0, 1, 2, 3, 4, 5, 6, 7, 8, 9, 10, 11, 12, 13, 14, 15, 16, 17, 18, 19, 20, 21] [] [0, 1, 2, 3, 4, 5, 6, 7, 8, 9, 10, 11, 12, 13, 14, 15, 16, 17, 18, 19, 20, 21] rfl rfl rfl rfl rfl (wn := fun u_27 => (wR cI cJ cZ aR0 aR1 aR2 aR3 aR4 aR5 aR6 aR7 aR8 aR9 aR10 aR11 aR12 aR13 aR14 aR15 aR16 aR17 aR18 aR19 aR20 aR21 u_19.1 sg pd u_1 u_19.2.1 u_15 u_27 u_19.2.2 my lf pa kp)) (fun _ => rfl) (fun u_27 H locs hw_27 hP hD hS => ?_)
    have hP : va_P δ vwCl (wR cI cJ cZ aR0 aR1 aR2 aR3 aR4 aR5 aR6 aR7 aR8 aR9 aR10 aR11 aR12 aR13 aR14 aR15 aR16 aR17 aR18 aR19 aR20 aR21 u_19.1 sg pd u_1 u_19.2.1 u_15 u_27 u_19.2.2 my lf pa kp) H := hP
    have hD : va_D A (wR cI cJ cZ aR0 aR1 aR2 aR3 aR4 aR5 aR6 aR7 aR8 aR9 aR10 aR11 aR12 aR13 aR14 aR15 aR16 aR17 aR18 aR19 aR20 aR21 u_19.1 sg pd u_1 u_19.2.1 u_15 u_27 u_19.2.2 my lf pa kp) := hD
    have hR := bnd_eq hR hw_27.symm
    refine lv_aload_n hx hb dX6_refusal_30 rfl (lv_at hl 0 rfl) ?_
    refine lv_aload_n hx hb dX6_refusal_31 rfl (lv_at hl 0 rfl) ?_
    refine va_get (D := δ) (ci := 6) (v := .ref aR15) (C := RX6) (T := TX6) (N := 34) hx hb hts hinX6 hown hK hP 0 rfl rfl 23 (by decide) (hts (.fieldLink RX6 52 "GloveHoursModel" "had" "[I") (List.mem_of_getElem? (i := 1) rfl)) (fun _ h9 => h9) rfl dX6_refusal_32 ?_
    have hr := mrV (p := p) (e := e) (R := rm_X6_refusal) (below := below) (meth := meth) (H := H) (locs := locs) (ls := ls) (As := [.ref aR15]) (rest := []) (c_X6_lay_had l δ cI cJ cZ aR0 aR1 aR2 aR3 aR4 aR5 aR6 aR7 aR8 aR9 aR10 aR11 aR12 aR13 aR14 aR15 aR16 aR17 aR18 aR19 aR20 aR21 u_19.1 sg pd u_1 u_19.2.1 u_15 u_27 u_19.2.2 my lf pa kp) hx hb hml hts hown hK hNW hP hD [0, 1, 2, 3, 4, 5, 6, 7, 8, 9, 10, 11, 12, 13, 14, 15, 16, 17, 18, 19, 20, 21] rfl rfl 6 0 rfl rfl (cwV 1 hts gX6_refusal_X6_lay rfl rfl rfl (by decide +kernel) ⟨(Nat.le_of_ble_eq_true rfl), (Nat.le_of_ble_eq_true rfl)⟩) rfl hl.1 rfl (Nat.le_of_ble_eq_true rfl) dX6_refusal_35
    refine mc_v (wr := ([] : va_W)) hr hP hD hS hA [0, 1, 2, 3, 4, 5, 6, 7, 8, 9, 10, 11, 12, 13, 14, 15, 16, 17, 18, 19, 20, 21] [] [0, 1, 2, 3, 4, 5, 6, 7, 8, 9, 10, 11, 12, 13, 14, 15, 16, 17, 18, 19, 20, 21] rfl rfl rfl rfl rfl (wn := fun u_35 => (wR cI cJ cZ aR0 aR1 aR2 aR3 aR4 aR5 aR6 aR7 aR8 aR9 aR10 aR11 aR12 aR13 aR14 aR15 aR16 aR17 aR18 aR19 aR20 aR21 u_35 sg pd u_1 u_19.2.1 u_15 u_27 u_19.2.2 my lf pa kp)) (fun _ => rfl) (fun u_35 H locs hw_35 hP hD hS => ?_)
    have hP : va_P δ vwCl (wR cI cJ cZ aR0 aR1 aR2 aR3 aR4 aR5 aR6 aR7 aR8 aR9 aR10 aR11 aR12 aR13 aR14 aR15 aR16 aR17 aR18 aR19 aR20 aR21 u_35 sg pd u_1 u_19.2.1 u_15 u_27 u_19.2.2 my lf pa kp) H := hP
    have hD : va_D A (wR cI cJ cZ aR0 aR1 aR2 aR3 aR4 aR5 aR6 aR7 aR8 aR9 aR10 aR11 aR12 aR13 aR14 aR15 aR16 aR17 aR18 aR19 aR20 aR21 u_35 sg pd u_1 u_19.2.1 u_15 u_27 u_19.2.2 my lf pa kp) := hD
    have hR := bnd_eq hR hw_35.symm
    refine lv_aload_n hx hb dX6_refusal_38 rfl (lv_at hl 0 rfl) ?_
    refine va_get (D := δ) (ci := 6) (v := .int (bBadAct u_19.2.2)) (C := RX6) (T := TX6) (N := 34) hx hb hts hinX6 hown hK hP 0 rfl rfl 25 (by decide) (hts (.fieldLink RX6 184 "GloveHoursModel" "badAct" "I") (List.mem_of_getElem? (i := 3) rfl)) (fun _ h9 => h9) rfl dX6_refusal_39 ?_
    refine lv_if_lt (tgt := 50) hx hb dX6_refusal_42 (by decide) (fun c_42 => ?_) (fun c_42 => ?_)
    · have c_42 : ((bBadAct u_19.2.2) < 0) := c_42
      have hR := hR.trans (if_pos c_42)
      refine lv_bipush (v := (-6 : Int32)) hx hb dX6_refusal_50 (by decide) ?_
      exact hret _ _ (-6 : Int32) (u_35, u_1, u_19.2.1, u_15, u_27, u_19.2.2) _ _ hR hP hD hS dX6_refusal_52
    · have c_42 : ¬ ((bBadAct u_19.2.2) < 0) := c_42
      have hR := hR.trans (if_neg c_42)
      refine lv_bipush (v := (-3 : Int32)) hx hb dX6_refusal_45 (by decide) ?_
      refine lv_goto (tgt := 52) hx hb dX6_refusal_47 (by decide) ?_
      exact hret _ _ (-3 : Int32) (u_35, u_1, u_19.2.1, u_15, u_27, u_19.2.2) _ _ hR hP hD hS dX6_refusal_52
  · have c_4 : ¬ (r_1 < 0) := c_4
    have hR := hR.trans (if_neg c_4)
    refine lv_bipush (v := (-5 : Int32)) hx hb dX6_refusal_7 (by decide) ?_
    exact hret _ _ (-5 : Int32) (lv, u_1, dd, hd, le, bd) _ _ hR hP hD hS dX6_refusal_9

abbrev rm_X6_judge : Room := { frames := 7, cells := 0, slots := 0, locals := 158 }
set_option maxHeartbeats 4000000 in
set_option maxRecDepth 100000 in
theorem c_X6_judge (l : Launch) (δ : va_G) (cI cJ cZ : ClassId) (aR0 aR1 aR2 aR3 aR4 aR5 aR6 aR7 aR8 aR9 aR10 aR11 aR12 aR13 aR14 aR15 aR16 aR17 aR18 aR19 aR20 aR21 : Nat) (lv : LV) (sg : SG) (pd : PD) (ac : AC) (dd : DD) (hd : HD) (le : LE) (bd : BD) (my : MY) (lf : LF) (pa : PA) (kp : KP) (xw : Int32) (hq : vp_in (qPadMany pd) 61) (hrk : rOK lv) : mMi l δ (mTy cI cJ cZ) yX6_judge wsX6_judge rm_X6_judge [.ref aR0, .int xw] (wR cI cJ cZ aR0 aR1 aR2 aR3 aR4 aR5 aR6 aR7 aR8 aR9 aR10 aR11 aR12 aR13 aR14 aR15 aR16 aR17 aR18 aR19 aR20 aR21 lv sg pd ac dd hd le bd my lf pa kp) (S := LV × AC × DD × HD × LE × BD) (fun r u => F_X6_judge lv pd ac dd hd le bd xw = (r, u)) (fun u => (wR cI cJ cZ aR0 aR1 aR2 aR3 aR4 aR5 aR6 aR7 aR8 aR9 aR10 aR11 aR12 aR13 aR14 aR15 aR16 aR17 aR18 aR19 aR20 aR21 u.1 sg pd u.2.1 u.2.2.1 u.2.2.2.1 u.2.2.2.2.1 u.2.2.2.2.2 my lf pa kp)) := by
  refine mk_i (cc := cX6_judge) (maxL := 3) (by decide) rfl (Nat.le_of_ble_eq_true rfl) ?_
  intro p e s m args below meth c A Q ls H locs hx hb hml hts hown hK hNW hA hP hD hS hl hret
  have hown : s.vm.findClass RX6 = some m.cls := hown
  have hl : lv_has ls 3 [(0, .ref aR0), (1, .int xw)] := hl
  have hinX6 : ∀ w ∈ u_ws RX6 TX6 34, w ∈ wsX6_judge := (fun _ h => List.mem_cons_of_mem _ (List.mem_append_right _ (h)))
  have hR := F_X6_judge.eq_1 lv pd ac dd hd le bd xw
  refine lv_iload_n hx hb dX6_judge_0 rfl (lv_at hl 1 rfl) ?_
  refine lv_i2l (v := (xw.toInt64)) hx hb dX6_judge_1 rfl ?_
  refine lv_lconst (v := (0 : Int64)) hx hb dX6_judge_2 (by decide) ?_
  refine lv_ldc2 (v := (2 : Int64)) hx hb hown (hts (.constantLong RX6 211 (2)) (List.mem_of_getElem? (i := 1) rfl)) dX6_judge_3 ?_
  have hr := mrS (p := p) (e := e) (R := rm_X6_judge) (below := below) (meth := meth) (H := H) (locs := locs) (ls := ls) (As := [.long (xw.toInt64), .long (0 : Int64), .long (2 : Int64)]) (rest := []) (c_X6_in l δ cI cJ cZ (xw.toInt64) (0 : Int64) (2 : Int64)) hx hb hml hts hown hK hNW hP hD [] rfl rfl (va_cwS 3 hts gX6_judge_X6_in rfl rfl rfl (by decide +kernel) ⟨(Nat.le_of_ble_eq_true rfl), (Nat.le_of_ble_eq_true rfl)⟩) rfl hl.1 rfl (Nat.le_of_ble_eq_true rfl) dX6_judge_6
  refine mc_i (wr := (wR cI cJ cZ aR0 aR1 aR2 aR3 aR4 aR5 aR6 aR7 aR8 aR9 aR10 aR11 aR12 aR13 aR14 aR15 aR16 aR17 aR18 aR19 aR20 aR21 lv sg pd ac dd hd le bd my lf pa kp)) hr hP hD hS hA [] [0, 1, 2, 3, 4, 5, 6, 7, 8, 9, 10, 11, 12, 13, 14, 15, 16, 17, 18, 19, 20, 21] [0, 1, 2, 3, 4, 5, 6, 7, 8, 9, 10, 11, 12, 13, 14, 15, 16, 17, 18, 19, 20, 21] rfl rfl rfl rfl rfl (wn := fun _ => (wR cI cJ cZ aR0 aR1 aR2 aR3 aR4 aR5 aR6 aR7 aR8 aR9 aR10 aR11 aR12 aR13 aR14 aR15 aR16 aR17 aR18 aR19 aR20 aR21 lv sg pd ac dd hd le bd my lf pa kp)) (fun _ => rfl) (fun r_6 _ H locs hw_6 hP hD hS => ?_)
  obtain ⟨hw_6, z_6⟩ := hw_6
  have hP : va_P δ vwCl (wR cI cJ cZ aR0 aR1 aR2 aR3 aR4 aR5 aR6 aR7 aR8 aR9 aR10 aR11 aR12 aR13 aR14 aR15 aR16 aR17 aR18 aR19 aR20 aR21 lv sg pd ac dd hd le bd my lf pa kp) H := hP
  have hD : va_D A (wR cI cJ cZ aR0 aR1 aR2 aR3 aR4 aR5 aR6 aR7 aR8 aR9 aR10 aR11 aR12 aR13 aR14 aR15 aR16 aR17 aR18 aR19 aR20 aR21 lv sg pd ac dd hd le bd my lf pa kp) := hD
  have hR := bnd_eq hR hw_6.symm
  refine lv_if_ne (tgt := 15) hx hb dX6_judge_9 (by decide) (fun c_9 => ?_) (fun c_9 => ?_)
  · have c_9 : ¬ (r_6 = 0) := c_9
    have hR := hR.trans (if_neg c_9)
    refine lv_aload_n hx hb dX6_judge_15 rfl (lv_at hl 0 rfl) ?_
    have hr := mrV (p := p) (e := e) (R := rm_X6_judge) (below := below) (meth := meth) (H := H) (locs := locs) (ls := ls) (As := []) (rest := []) (c_X6_refusal l δ cI cJ cZ aR0 aR1 aR2 aR3 aR4 aR5 aR6 aR7 aR8 aR9 aR10 aR11 aR12 aR13 aR14 aR15 aR16 aR17 aR18 aR19 aR20 aR21 lv sg pd ac dd hd le bd my lf pa kp hq hrk) hx hb hml hts hown hK hNW hP hD [0, 1, 2, 3, 4, 5, 6, 7, 8, 9, 10, 11, 12, 13, 14, 15, 16, 17, 18, 19, 20, 21] rfl rfl 6 0 rfl rfl (cwV 0 hts gX6_judge_X6_refusal rfl rfl rfl (by decide +kernel) ⟨(Nat.le_of_ble_eq_true rfl), (Nat.le_of_ble_eq_true rfl)⟩) rfl hl.1 rfl (Nat.le_of_ble_eq_true rfl) dX6_judge_16
    refine mc_i (wr := ([] : va_W)) hr hP hD hS hA [0, 1, 2, 3, 4, 5, 6, 7, 8, 9, 10, 11, 12, 13, 14, 15, 16, 17, 18, 19, 20, 21] [] [0, 1, 2, 3, 4, 5, 6, 7, 8, 9, 10, 11, 12, 13, 14, 15, 16, 17, 18, 19, 20, 21] rfl rfl rfl rfl rfl (wn := fun u_16 => (wR cI cJ cZ aR0 aR1 aR2 aR3 aR4 aR5 aR6 aR7 aR8 aR9 aR10 aR11 aR12 aR13 aR14 aR15 aR16 aR17 aR18 aR19 aR20 aR21 u_16.1 sg pd u_16.2.1 u_16.2.2.1 u_16.2.2.2.1 u_16.2.2.2.2.1 u_16.2.2.2.2.2 my lf pa kp)) (fun _ => rfl) (fun r_16 u_16 H locs hw_16 hP hD hS => ?_)
    have hP : va_P δ vwCl (wR cI cJ cZ aR0 aR1 aR2 aR3 aR4 aR5 aR6 aR7 aR8 aR9 aR10 aR11 aR12 aR13 aR14 aR15 aR16 aR17 aR18 aR19 aR20 aR21 u_16.1 sg pd u_16.2.1 u_16.2.2.1 u_16.2.2.2.1 u_16.2.2.2.2.1 u_16.2.2.2.2.2 my lf pa kp) H := hP
    have hD : va_D A (wR cI cJ cZ aR0 aR1 aR2 aR3 aR4 aR5 aR6 aR7 aR8 aR9 aR10 aR11 aR12 aR13 aR14 aR15 aR16 aR17 aR18 aR19 aR20 aR21 u_16.1 sg pd u_16.2.1 u_16.2.2.1 u_16.2.2.2.1 u_16.2.2.2.2.1 u_16.2.2.2.2.2 my lf pa kp) := hD
    have hR := bnd_eq hR hw_16.symm
    refine lv_istore_n (lv' := [(2, .int r_16), (0, .ref aR0), (1, .int xw)]) hx hb dX6_judge_19 rfl hl (by decide) rfl (fun ls hl => ?_)
    refine lv_iload_n hx hb dX6_judge_20 rfl (lv_at hl 0 rfl) ?_
    refine lv_bipush (v := (-5 : Int32)) hx hb dX6_judge_21 (by decide) ?_
    refine lv_icmp_eq (tgt := 37) hx hb dX6_judge_23 (by decide) (fun c_23 => ?_) (fun c_23 => ?_)
    · have c_23 : (r_16 = (-5 : Int32)) := c_23
      have hR := hR.trans (if_pos c_23)
      refine lv_iload_n hx hb dX6_judge_37 rfl (lv_at hl 0 rfl) ?_
      exact hret _ _ r_16 (u_16.1, u_16.2.1, u_16.2.2.1, u_16.2.2.2.1, u_16.2.2.2.2.1, u_16.2.2.2.2.2) _ _ hR hP hD hS dX6_judge_38
    · have c_23 : ¬ (r_16 = (-5 : Int32)) := c_23
      have hR := hR.trans (if_neg c_23)
      refine lv_iload_n hx hb dX6_judge_26 rfl (lv_at hl 2 rfl) ?_
      refine lv_iconst (v := (1 : Int32)) hx hb dX6_judge_27 (by decide) ?_
      refine lv_icmp_le (tgt := 39) hx hb dX6_judge_28 (by decide) (fun c_28 => ?_) (fun c_28 => ?_)
      · have c_28 : (xw ≤ (1 : Int32)) := c_28
        have hR := hR.trans (if_pos c_28)
        refine lv_iload_n hx hb dX6_judge_39 rfl (lv_at hl 2 rfl) ?_
        refine lv_if_ne (tgt := 50) hx hb dX6_judge_40 (by decide) (fun c_40 => ?_) (fun c_40 => ?_)
        · have c_40 : ¬ (xw = 0) := c_40
          have hR := hR.trans (if_neg c_40)
          refine lv_iload_n hx hb dX6_judge_50 rfl (lv_at hl 2 rfl) ?_
          refine lv_iconst (v := (1 : Int32)) hx hb dX6_judge_51 (by decide) ?_
          refine lv_icmp_ne (tgt := 62) hx hb dX6_judge_52 (by decide) (fun c_52 => ?_) (fun c_52 => ?_)
          · have c_52 : ¬ (xw = (1 : Int32)) := c_52
            have hR := hR.trans (if_neg c_52)
            refine lv_aload_n hx hb dX6_judge_62 rfl (lv_at hl 1 rfl) ?_
            refine va_get (D := δ) (ci := 6) (v := .int (eDeeds u_16.2.2.1)) (C := RX6) (T := TX6) (N := 34) hx hb hts hinX6 hown hK hP 0 rfl rfl 20 (by decide) (hts (.fieldLink RX6 154 "GloveHoursModel" "deeds" "I") (List.mem_of_getElem? (i := 4) rfl)) (fun _ h9 => h9) rfl dX6_judge_63 ?_
            exact hret _ _ (eDeeds u_16.2.2.1) (u_16.1, u_16.2.1, u_16.2.2.1, u_16.2.2.2.1, u_16.2.2.2.2.1, u_16.2.2.2.2.2) _ _ hR hP hD hS dX6_judge_66
          · have c_52 : (xw = (1 : Int32)) := c_52
            have hR := hR.trans (if_pos c_52)
            refine lv_aload_n hx hb dX6_judge_55 rfl (lv_at hl 1 rfl) ?_
            refine va_get (D := δ) (ci := 6) (v := .int (bBadWhy u_16.2.2.2.2.2)) (C := RX6) (T := TX6) (N := 34) hx hb hts hinX6 hown hK hP 0 rfl rfl 26 (by decide) (hts (.fieldLink RX6 187 "GloveHoursModel" "badWhy" "I") (List.mem_of_getElem? (i := 3) rfl)) (fun _ h9 => h9) rfl dX6_judge_56 ?_
            refine lv_goto (tgt := 66) hx hb dX6_judge_59 (by decide) ?_
            exact hret _ _ (bBadWhy u_16.2.2.2.2.2) (u_16.1, u_16.2.1, u_16.2.2.1, u_16.2.2.2.1, u_16.2.2.2.2.1, u_16.2.2.2.2.2) _ _ hR hP hD hS dX6_judge_66
        · have c_40 : (xw = 0) := c_40
          have hR := hR.trans (if_pos c_40)
          refine lv_aload_n hx hb dX6_judge_43 rfl (lv_at hl 1 rfl) ?_
          refine va_get (D := δ) (ci := 6) (v := .int (bBadAct u_16.2.2.2.2.2)) (C := RX6) (T := TX6) (N := 34) hx hb hts hinX6 hown hK hP 0 rfl rfl 25 (by decide) (hts (.fieldLink RX6 184 "GloveHoursModel" "badAct" "I") (List.mem_of_getElem? (i := 2) rfl)) (fun _ h9 => h9) rfl dX6_judge_44 ?_
          refine lv_goto (tgt := 66) hx hb dX6_judge_47 (by decide) ?_
          exact hret _ _ (bBadAct u_16.2.2.2.2.2) (u_16.1, u_16.2.1, u_16.2.2.1, u_16.2.2.2.1, u_16.2.2.2.2.1, u_16.2.2.2.2.2) _ _ hR hP hD hS dX6_judge_66
      · have c_28 : ¬ (xw ≤ (1 : Int32)) := c_28
        have hR := hR.trans (if_neg c_28)
        refine lv_iload_n hx hb dX6_judge_31 rfl (lv_at hl 0 rfl) ?_
        refine lv_bipush (v := (-3 : Int32)) hx hb dX6_judge_32 (by decide) ?_
        refine lv_icmp_ne (tgt := 39) hx hb dX6_judge_34 (by decide) (fun c_34 => ?_) (fun c_34 => ?_)
        · have c_34 : ¬ (r_16 = (-3 : Int32)) := c_34
          have hR := hR.trans (if_neg c_34)
          refine lv_iload_n hx hb dX6_judge_39 rfl (lv_at hl 2 rfl) ?_
          refine lv_if_ne (tgt := 50) hx hb dX6_judge_40 (by decide) (fun c_40 => ?_) (fun c_40 => ?_)
          · have c_40 : ¬ (xw = 0) := c_40
            have hR := hR.trans (if_neg c_40)
            refine lv_iload_n hx hb dX6_judge_50 rfl (lv_at hl 2 rfl) ?_
            refine lv_iconst (v := (1 : Int32)) hx hb dX6_judge_51 (by decide) ?_
            refine lv_icmp_ne (tgt := 62) hx hb dX6_judge_52 (by decide) (fun c_52 => ?_) (fun c_52 => ?_)
            · have c_52 : ¬ (xw = (1 : Int32)) := c_52
              have hR := hR.trans (if_neg c_52)
              refine lv_aload_n hx hb dX6_judge_62 rfl (lv_at hl 1 rfl) ?_
              refine va_get (D := δ) (ci := 6) (v := .int (eDeeds u_16.2.2.1)) (C := RX6) (T := TX6) (N := 34) hx hb hts hinX6 hown hK hP 0 rfl rfl 20 (by decide) (hts (.fieldLink RX6 154 "GloveHoursModel" "deeds" "I") (List.mem_of_getElem? (i := 4) rfl)) (fun _ h9 => h9) rfl dX6_judge_63 ?_
              exact hret _ _ (eDeeds u_16.2.2.1) (u_16.1, u_16.2.1, u_16.2.2.1, u_16.2.2.2.1, u_16.2.2.2.2.1, u_16.2.2.2.2.2) _ _ hR hP hD hS dX6_judge_66
            · have c_52 : (xw = (1 : Int32)) := c_52
              have hR := hR.trans (if_pos c_52)
              refine lv_aload_n hx hb dX6_judge_55 rfl (lv_at hl 1 rfl) ?_
              refine va_get (D := δ) (ci := 6) (v := .int (bBadWhy u_16.2.2.2.2.2)) (C := RX6) (T := TX6) (N := 34) hx hb hts hinX6 hown hK hP 0 rfl rfl 26 (by decide) (hts (.fieldLink RX6 187 "GloveHoursModel" "badWhy" "I") (List.mem_of_getElem? (i := 3) rfl)) (fun _ h9 => h9) rfl dX6_judge_56 ?_
              refine lv_goto (tgt := 66) hx hb dX6_judge_59 (by decide) ?_
              exact hret _ _ (bBadWhy u_16.2.2.2.2.2) (u_16.1, u_16.2.1, u_16.2.2.1, u_16.2.2.2.1, u_16.2.2.2.2.1, u_16.2.2.2.2.2) _ _ hR hP hD hS dX6_judge_66
          · have c_40 : (xw = 0) := c_40
            have hR := hR.trans (if_pos c_40)
            refine lv_aload_n hx hb dX6_judge_43 rfl (lv_at hl 1 rfl) ?_
            refine va_get (D := δ) (ci := 6) (v := .int (bBadAct u_16.2.2.2.2.2)) (C := RX6) (T := TX6) (N := 34) hx hb hts hinX6 hown hK hP 0 rfl rfl 25 (by decide) (hts (.fieldLink RX6 184 "GloveHoursModel" "badAct" "I") (List.mem_of_getElem? (i := 2) rfl)) (fun _ h9 => h9) rfl dX6_judge_44 ?_
            refine lv_goto (tgt := 66) hx hb dX6_judge_47 (by decide) ?_
            exact hret _ _ (bBadAct u_16.2.2.2.2.2) (u_16.1, u_16.2.1, u_16.2.2.1, u_16.2.2.2.1, u_16.2.2.2.2.1, u_16.2.2.2.2.2) _ _ hR hP hD hS dX6_judge_66
        · have c_34 : (r_16 = (-3 : Int32)) := c_34
          have hR := hR.trans (if_pos c_34)
          refine lv_iload_n hx hb dX6_judge_37 rfl (lv_at hl 0 rfl) ?_
          exact hret _ _ r_16 (u_16.1, u_16.2.1, u_16.2.2.1, u_16.2.2.2.1, u_16.2.2.2.2.1, u_16.2.2.2.2.2) _ _ hR hP hD hS dX6_judge_38
  · have c_9 : (r_6 = 0) := c_9
    have hR := hR.trans (if_pos c_9)
    refine lv_bipush (v := (-2 : Int32)) hx hb dX6_judge_12 (by decide) ?_
    exact hret _ _ (-2 : Int32) (lv, ac, dd, hd, le, bd) _ _ hR hP hD hS dX6_judge_14

abbrev rm_X6_pairsLeft : Room := { frames := 1, cells := 0, slots := 0, locals := 21 }
set_option maxHeartbeats 4000000 in
set_option maxRecDepth 100000 in
theorem c_X6_pairsLeft (l : Launch) (δ : va_G) (cI cJ cZ : ClassId) (aR0 aR1 aR2 aR3 aR4 aR5 aR6 aR7 aR8 aR9 aR10 aR11 aR12 aR13 aR14 aR15 aR16 aR17 aR18 aR19 aR20 aR21 : Nat) (lv : LV) (sg : SG) (pd : PD) (ac : AC) (dd : DD) (hd : HD) (le : LE) (bd : BD) (my : MY) (lf : LF) (pa : PA) (kp : KP) (xc : Int32) (hc : vp_in xc 6) : mMi l δ (mTy cI cJ cZ) yX6_pairsLeft wsX6_pairsLeft rm_X6_pairsLeft [.ref aR0, .int xc] (wR cI cJ cZ aR0 aR1 aR2 aR3 aR4 aR5 aR6 aR7 aR8 aR9 aR10 aR11 aR12 aR13 aR14 aR15 aR16 aR17 aR18 aR19 aR20 aR21 lv sg pd ac dd hd le bd my lf pa kp) (S := Unit) (fun r _ => F_X6_pairsLeft le xc = r) (fun _ => (wR cI cJ cZ aR0 aR1 aR2 aR3 aR4 aR5 aR6 aR7 aR8 aR9 aR10 aR11 aR12 aR13 aR14 aR15 aR16 aR17 aR18 aR19 aR20 aR21 lv sg pd ac dd hd le bd my lf pa kp)) := by
  refine mk_i (cc := cX6_pairsLeft) (maxL := 4) (by decide) rfl (Nat.le_of_ble_eq_true rfl) ?_
  intro p e s m args below meth c A Q ls H locs hx hb hml hts hown hK hNW hA hP hD hS hl hret
  have hown : s.vm.findClass RX6 = some m.cls := hown
  have hl : lv_has ls 4 [(0, .ref aR0), (1, .int xc)] := hl
  have hinX6 : ∀ w ∈ u_ws RX6 TX6 34, w ∈ wsX6_pairsLeft := (fun _ h => List.mem_cons_of_mem _ (List.mem_append_right _ (h)))
  have hR := F_X6_pairsLeft.eq_1 le xc
  refine lv_iconst (v := (0 : Int32)) hx hb dX6_pairsLeft_0 (by decide) ?_
  refine lv_istore_n (lv' := [(2, .int (0 : Int32)), (0, .ref aR0), (1, .int xc)]) hx hb dX6_pairsLeft_1 rfl hl (by decide) rfl (fun ls hl => ?_)
  refine lv_iconst (v := (0 : Int32)) hx hb dX6_pairsLeft_2 (by decide) ?_
  refine lv_istore_n (lv' := [(3, .int (0 : Int32)), (2, .int (0 : Int32)), (0, .ref aR0), (1, .int xc)]) hx hb dX6_pairsLeft_3 rfl hl (by decide) rfl (fun ls hl => ?_)
  have hloop_4 : ∀ (n_4 : Nat) (i_4 : Nat) (v2_4 : Int32) (H : Heap) (locs : List Loc) (ls : Array Slot), (hi_4 : i_4 ≤ 24) → (hn_4 : 24 < i_4 + n_4) → (hP : va_P δ vwCl (wR cI cJ cZ aR0 aR1 aR2 aR3 aR4 aR5 aR6 aR7 aR8 aR9 aR10 aR11 aR12 aR13 aR14 aR15 aR16 aR17 aR18 aR19 aR20 aR21 lv sg pd ac dd hd le bd my lf pa kp) H) → (hD : va_D A (wR cI cJ cZ aR0 aR1 aR2 aR3 aR4 aR5 aR6 aR7 aR8 aR9 aR10 aR11 aR12 aR13 aR14 aR15 aR16 aR17 aR18 aR19 aR20 aR21 lv sg pd ac dd hd le bd my lf pa kp)) → (hS : va_S A s.heap H locs) → (hl : lv_has ls 4 [(3, .int (nI i_4)), (2, .int v2_4), (0, .ref aR0), (1, .int xc)]) → (kk : ∀ (w_4 : Int32) (H : Heap) (locs : List Loc) (ls : Array Slot), L_X6_pairsLeft_4 le xc n_4 i_4 v2_4 = w_4 → va_P δ vwCl (wR cI cJ cZ aR0 aR1 aR2 aR3 aR4 aR5 aR6 aR7 aR8 aR9 aR10 aR11 aR12 aR13 aR14 aR15 aR16 aR17 aR18 aR19 aR20 aR21 lv sg pd ac dd hd le bd my lf pa kp) H → va_D A (wR cI cJ cZ aR0 aR1 aR2 aR3 aR4 aR5 aR6 aR7 aR8 aR9 aR10 aR11 aR12 aR13 aR14 aR15 aR16 aR17 aR18 aR19 aR20 aR21 lv sg pd ac dd hd le bd my lf pa kp) → va_S A s.heap H locs → lv_has ls 4 [(2, .int w_4), (0, .ref aR0), (1, .int xc)] → W p l e rm_X6_pairsLeft s m args below meth c H locs 0 0 Q (F0 m 42 ls [])) → W p l e rm_X6_pairsLeft s m args below meth c H locs 0 0 Q (F0 m 4 ls []) := by
    intro n_4
    induction n_4 with
    | zero => intro i_4 v2_4 H locs ls hi_4 hn_4 hP hD hS hl kk; exact absurd hn_4 (by omega)
    | succ n_4 ih_4 =>
      intro i_4 v2_4 H locs ls hi_4 hn_4 hP hD hS hl kk
      have hR := L_X6_pairsLeft_4_s le xc n_4 i_4 v2_4
      refine lv_iload_n hx hb dX6_pairsLeft_4 rfl (lv_at hl 0 rfl) ?_
      refine lv_bipush (v := (24 : Int32)) hx hb dX6_pairsLeft_5 (by decide) ?_
      refine lv_icmp_ge (tgt := 42) hx hb dX6_pairsLeft_7 (by decide) (fun c_7 => ?_) (fun c_7 => ?_)
      · have c_7 : ((24 : Int32) ≤ (nI i_4)) := c_7
        have hR := hR.trans (if_pos c_7)
        exact kk v2_4 H locs ls hR hP hD hS (lv_sub hl [1, 2, 3] rfl)
      · have c_7 : ¬ ((24 : Int32) ≤ (nI i_4)) := c_7
        have hR := hR.trans (if_neg c_7)
        have hlt_4 : i_4 < 24 := lt_g c_7 hi_4 (by decide)
        refine lv_iload_n hx hb dX6_pairsLeft_10 rfl (lv_at hl 1 rfl) ?_
        refine lv_aload_n hx hb dX6_pairsLeft_11 rfl (lv_at hl 2 rfl) ?_
        refine va_get (D := δ) (ci := 6) (v := .ref aR16) (C := RX6) (T := TX6) (N := 34) hx hb hts hinX6 hown hK hP 0 rfl rfl 24 (by decide) (hts (.fieldLink RX6 55 "GloveHoursModel" "leaves" "[I") (List.mem_of_getElem? (i := 1) rfl)) (fun _ h9 => h9) rfl dX6_pairsLeft_12 ?_
        refine lv_bipush (v := (18 : Int32)) hx hb dX6_pairsLeft_15 (by decide) ?_
        refine lv_iload_n hx hb dX6_pairsLeft_17 rfl (lv_at hl 3 rfl) ?_
        refine lv_iload_n hx hb dX6_pairsLeft_18 rfl (lv_at hl 0 rfl) ?_
        have hr := mrS (p := p) (e := e) (R := rm_X6_pairsLeft) (below := below) (meth := meth) (H := H) (locs := locs) (ls := ls) (As := [.int xc, .int (nI i_4)]) (rest := [.int (18 : Int32), .ref aR16, .int v2_4]) (c_X6_at l δ cI cJ cZ xc (nI i_4)) hx hb hml hts hown hK hNW hP hD [] rfl rfl (va_cwS 2 hts gX6_pairsLeft_X6_at rfl rfl rfl (by decide +kernel) ⟨(Nat.le_of_ble_eq_true rfl), (Nat.le_of_ble_eq_true rfl)⟩) rfl hl.1 rfl (Nat.le_of_ble_eq_true rfl) dX6_pairsLeft_19
        refine mc_i (wr := (wR cI cJ cZ aR0 aR1 aR2 aR3 aR4 aR5 aR6 aR7 aR8 aR9 aR10 aR11 aR12 aR13 aR14 aR15 aR16 aR17 aR18 aR19 aR20 aR21 lv sg pd ac dd hd le bd my lf pa kp)) hr hP hD hS hA [] [0, 1, 2, 3, 4, 5, 6, 7, 8, 9, 10, 11, 12, 13, 14, 15, 16, 17, 18, 19, 20, 21] [0, 1, 2, 3, 4, 5, 6, 7, 8, 9, 10, 11, 12, 13, 14, 15, 16, 17, 18, 19, 20, 21] rfl rfl rfl rfl rfl (wn := fun _ => (wR cI cJ cZ aR0 aR1 aR2 aR3 aR4 aR5 aR6 aR7 aR8 aR9 aR10 aR11 aR12 aR13 aR14 aR15 aR16 aR17 aR18 aR19 aR20 aR21 lv sg pd ac dd hd le bd my lf pa kp)) (fun _ => rfl) (fun r_19 _ H locs hw_19 hP hD hS => ?_)
        have hP : va_P δ vwCl (wR cI cJ cZ aR0 aR1 aR2 aR3 aR4 aR5 aR6 aR7 aR8 aR9 aR10 aR11 aR12 aR13 aR14 aR15 aR16 aR17 aR18 aR19 aR20 aR21 lv sg pd ac dd hd le bd my lf pa kp) H := hP
        have hD : va_D A (wR cI cJ cZ aR0 aR1 aR2 aR3 aR4 aR5 aR6 aR7 aR8 aR9 aR10 aR11 aR12 aR13 aR14 aR15 aR16 aR17 aR18 aR19 aR20 aR21 lv sg pd ac dd hd le bd my lf pa kp) := hD
        have hR := bnd_eq hR hw_19.symm
        refine lv_iadd hx hb dX6_pairsLeft_22 ?_
        refine va_iald hx hb hK hP 16 0 rfl rfl (at18_in hw_19 hc (vp_in_nI hlt_4 (by decide))) dX6_pairsLeft_23 ?_
        refine lv_if_lt (tgt := 33) hx hb dX6_pairsLeft_24 (by decide) (fun c_24 => ?_) (fun c_24 => ?_)
        · have c_24 : (((lLeaves le) ((18 : Int32) + r_19).toNatClampNeg) < 0) := c_24
          have hR := hR.trans (if_pos c_24)
          refine lv_iconst (v := (0 : Int32)) hx hb dX6_pairsLeft_33 (by decide) ?_
          refine lv_ior hx hb dX6_pairsLeft_34 ?_
          refine lv_istore_n (lv' := [(2, .int (v2_4 ||| (0 : Int32))), (3, .int (nI i_4)), (0, .ref aR0), (1, .int xc)]) hx hb dX6_pairsLeft_35 rfl hl (by decide) rfl (fun ls hl => ?_)
          refine lv_iinc (v := (nI (i_4 + 1))) (lv' := [(3, .int (nI (i_4 + 1))), (2, .int (v2_4 ||| (0 : Int32))), (0, .ref aR0), (1, .int xc)]) hx hb dX6_pairsLeft_36 hl (k := 1) rfl (nI_1 i_4) (by decide) rfl (fun ls hl => ?_)
          refine lv_goto (tgt := 4) hx hb dX6_pairsLeft_39 (by decide) ?_
          exact ih_4 (i_4 + 1) (v2_4 ||| (0 : Int32)) _ _ _ (by omega) (by omega) hP hD hS (lv_sub hl [0, 1, 2, 3] rfl) (fun w_4 H locs ls he hP hD hS hl => kk w_4 H locs ls (hR.trans he) hP hD hS hl)
        · have c_24 : ¬ (((lLeaves le) ((18 : Int32) + r_19).toNatClampNeg) < 0) := c_24
          have hR := hR.trans (if_neg c_24)
          refine lv_iconst (v := (1 : Int32)) hx hb dX6_pairsLeft_27 (by decide) ?_
          refine lv_iload_n hx hb dX6_pairsLeft_28 rfl (lv_at hl 0 rfl) ?_
          refine lv_ishl hx hb dX6_pairsLeft_29 ?_
          refine lv_goto (tgt := 34) hx hb dX6_pairsLeft_30 (by decide) ?_
          refine lv_ior hx hb dX6_pairsLeft_34 ?_
          refine lv_istore_n (lv' := [(2, .int (v2_4 ||| ((1 : Int32) <<< ((nI i_4) &&& 31)))), (3, .int (nI i_4)), (0, .ref aR0), (1, .int xc)]) hx hb dX6_pairsLeft_35 rfl hl (by decide) rfl (fun ls hl => ?_)
          refine lv_iinc (v := (nI (i_4 + 1))) (lv' := [(3, .int (nI (i_4 + 1))), (2, .int (v2_4 ||| ((1 : Int32) <<< ((nI i_4) &&& 31)))), (0, .ref aR0), (1, .int xc)]) hx hb dX6_pairsLeft_36 hl (k := 1) rfl (nI_1 i_4) (by decide) rfl (fun ls hl => ?_)
          refine lv_goto (tgt := 4) hx hb dX6_pairsLeft_39 (by decide) ?_
          exact ih_4 (i_4 + 1) (v2_4 ||| ((1 : Int32) <<< ((nI i_4) &&& 31))) _ _ _ (by omega) (by omega) hP hD hS (lv_sub hl [0, 1, 2, 3] rfl) (fun w_4 H locs ls he hP hD hS hl => kk w_4 H locs ls (hR.trans he) hP hD hS hl)
  refine hloop_4 (24 + 1) 0 (0 : Int32) _ _ _ (by omega) (by omega) hP hD hS (lv_sub hl [0, 1, 2, 3] rfl) (fun w_4 H locs ls hw_4 hP hD hS hl => ?_)
  have hP : va_P δ vwCl (wR cI cJ cZ aR0 aR1 aR2 aR3 aR4 aR5 aR6 aR7 aR8 aR9 aR10 aR11 aR12 aR13 aR14 aR15 aR16 aR17 aR18 aR19 aR20 aR21 lv sg pd ac dd hd le bd my lf pa kp) H := hP
  have hD : va_D A (wR cI cJ cZ aR0 aR1 aR2 aR3 aR4 aR5 aR6 aR7 aR8 aR9 aR10 aR11 aR12 aR13 aR14 aR15 aR16 aR17 aR18 aR19 aR20 aR21 lv sg pd ac dd hd le bd my lf pa kp) := hD
  have hR := bnd_eq hR hw_4.symm
  refine lv_iload_n hx hb dX6_pairsLeft_42 rfl (lv_at hl 0 rfl) ?_
  exact hret _ _ w_4 () _ _ hR hP hD hS dX6_pairsLeft_43

abbrev rm_X6_behind : Room := { frames := 7, cells := 0, slots := 0, locals := 158 }
set_option maxHeartbeats 4000000 in
set_option maxRecDepth 100000 in
theorem c_X6_behind (l : Launch) (δ : va_G) (cI cJ cZ : ClassId) (aR0 aR1 aR2 aR3 aR4 aR5 aR6 aR7 aR8 aR9 aR10 aR11 aR12 aR13 aR14 aR15 aR16 aR17 aR18 aR19 aR20 aR21 : Nat) (lv : LV) (sg : SG) (pd : PD) (ac : AC) (dd : DD) (hd : HD) (le : LE) (bd : BD) (my : MY) (lf : LF) (pa : PA) (kp : KP) (xc : Int32) (xw : Int32) (hq : vp_in (qPadMany pd) 61) (hrk : rOK lv) : mMi l δ (mTy cI cJ cZ) yX6_behind wsX6_behind rm_X6_behind [.ref aR0, .int xc, .int xw] (wR cI cJ cZ aR0 aR1 aR2 aR3 aR4 aR5 aR6 aR7 aR8 aR9 aR10 aR11 aR12 aR13 aR14 aR15 aR16 aR17 aR18 aR19 aR20 aR21 lv sg pd ac dd hd le bd my lf pa kp) (S := LV × AC × DD × HD × LE × BD) (fun r u => F_X6_behind lv pd ac dd hd le bd xc xw = (r, u)) (fun u => (wR cI cJ cZ aR0 aR1 aR2 aR3 aR4 aR5 aR6 aR7 aR8 aR9 aR10 aR11 aR12 aR13 aR14 aR15 aR16 aR17 aR18 aR19 aR20 aR21 u.1 sg pd u.2.1 u.2.2.1 u.2.2.2.1 u.2.2.2.2.1 u.2.2.2.2.2 my lf pa kp)) := by
  refine mk_i (cc := cX6_behind) (maxL := 4) (by decide) rfl (Nat.le_of_ble_eq_true rfl) ?_
  intro p e s m args below meth c A Q ls H locs hx hb hml hts hown hK hNW hA hP hD hS hl hret
  have hown : s.vm.findClass RX6 = some m.cls := hown
  have hl : lv_has ls 4 [(0, .ref aR0), (1, .int xc), (2, .int xw)] := hl
  have hinX6 : ∀ w ∈ u_ws RX6 TX6 34, w ∈ wsX6_behind := (fun _ h => List.mem_cons_of_mem _ (List.mem_append_right _ (h)))
  have hR := F_X6_behind.eq_1 lv pd ac dd hd le bd xc xw
  refine lv_aload_n hx hb dX6_behind_0 rfl (lv_at hl 0 rfl) ?_
  refine lv_iload_n hx hb dX6_behind_1 rfl (lv_at hl 1 rfl) ?_
  have hr := mrV (p := p) (e := e) (R := rm_X6_behind) (below := below) (meth := meth) (H := H) (locs := locs) (ls := ls) (As := [.int xc]) (rest := []) (c_X6_isCourtier l δ cI cJ cZ aR0 aR1 aR2 aR3 aR4 aR5 aR6 aR7 aR8 aR9 aR10 aR11 aR12 aR13 aR14 aR15 aR16 aR17 aR18 aR19 aR20 aR21 lv sg pd ac dd hd le bd my lf pa kp xc) hx hb hml hts hown hK hNW hP hD [0, 1, 2, 3, 4, 5, 6, 7, 8, 9, 10, 11, 12, 13, 14, 15, 16, 17, 18, 19, 20, 21] rfl rfl 6 0 rfl rfl (cwV 1 hts gX6_behind_X6_isCourtier rfl rfl rfl (by decide +kernel) ⟨(Nat.le_of_ble_eq_true rfl), (Nat.le_of_ble_eq_true rfl)⟩) rfl hl.1 rfl (Nat.le_of_ble_eq_true rfl) dX6_behind_2
  refine mc_i (wr := ([] : va_W)) hr hP hD hS hA [0, 1, 2, 3, 4, 5, 6, 7, 8, 9, 10, 11, 12, 13, 14, 15, 16, 17, 18, 19, 20, 21] [] [0, 1, 2, 3, 4, 5, 6, 7, 8, 9, 10, 11, 12, 13, 14, 15, 16, 17, 18, 19, 20, 21] rfl rfl rfl rfl rfl (wn := fun _ => (wR cI cJ cZ aR0 aR1 aR2 aR3 aR4 aR5 aR6 aR7 aR8 aR9 aR10 aR11 aR12 aR13 aR14 aR15 aR16 aR17 aR18 aR19 aR20 aR21 lv sg pd ac dd hd le bd my lf pa kp)) (fun _ => rfl) (fun r_2 _ H locs hw_2 hP hD hS => ?_)
  obtain ⟨hw_2, z_2⟩ := hw_2
  have hP : va_P δ vwCl (wR cI cJ cZ aR0 aR1 aR2 aR3 aR4 aR5 aR6 aR7 aR8 aR9 aR10 aR11 aR12 aR13 aR14 aR15 aR16 aR17 aR18 aR19 aR20 aR21 lv sg pd ac dd hd le bd my lf pa kp) H := hP
  have hD : va_D A (wR cI cJ cZ aR0 aR1 aR2 aR3 aR4 aR5 aR6 aR7 aR8 aR9 aR10 aR11 aR12 aR13 aR14 aR15 aR16 aR17 aR18 aR19 aR20 aR21 lv sg pd ac dd hd le bd my lf pa kp) := hD
  have hR := bnd_eq hR hw_2.symm
  refine lv_if_ne (tgt := 10) hx hb dX6_behind_5 (by decide) (fun c_5 => ?_) (fun c_5 => ?_)
  · have c_5 : ¬ (r_2 = 0) := c_5
    have hR := hR.trans (if_neg c_5)
    refine lv_iload_n hx hb dX6_behind_10 rfl (lv_at hl 2 rfl) ?_
    refine lv_i2l (v := (xw.toInt64)) hx hb dX6_behind_11 rfl ?_
    refine lv_lconst (v := (0 : Int64)) hx hb dX6_behind_12 (by decide) ?_
    refine lv_ldc2 (v := (3 : Int64)) hx hb hown (hts (.constantLong RX6 216 (3)) (List.mem_of_getElem? (i := 1) rfl)) dX6_behind_13 ?_
    have hr := mrS (p := p) (e := e) (R := rm_X6_behind) (below := below) (meth := meth) (H := H) (locs := locs) (ls := ls) (As := [.long (xw.toInt64), .long (0 : Int64), .long (3 : Int64)]) (rest := []) (c_X6_in l δ cI cJ cZ (xw.toInt64) (0 : Int64) (3 : Int64)) hx hb hml hts hown hK hNW hP hD [] rfl rfl (va_cwS 3 hts gX6_behind_X6_in rfl rfl rfl (by decide +kernel) ⟨(Nat.le_of_ble_eq_true rfl), (Nat.le_of_ble_eq_true rfl)⟩) rfl hl.1 rfl (Nat.le_of_ble_eq_true rfl) dX6_behind_16
    refine mc_i (wr := (wR cI cJ cZ aR0 aR1 aR2 aR3 aR4 aR5 aR6 aR7 aR8 aR9 aR10 aR11 aR12 aR13 aR14 aR15 aR16 aR17 aR18 aR19 aR20 aR21 lv sg pd ac dd hd le bd my lf pa kp)) hr hP hD hS hA [] [0, 1, 2, 3, 4, 5, 6, 7, 8, 9, 10, 11, 12, 13, 14, 15, 16, 17, 18, 19, 20, 21] [0, 1, 2, 3, 4, 5, 6, 7, 8, 9, 10, 11, 12, 13, 14, 15, 16, 17, 18, 19, 20, 21] rfl rfl rfl rfl rfl (wn := fun _ => (wR cI cJ cZ aR0 aR1 aR2 aR3 aR4 aR5 aR6 aR7 aR8 aR9 aR10 aR11 aR12 aR13 aR14 aR15 aR16 aR17 aR18 aR19 aR20 aR21 lv sg pd ac dd hd le bd my lf pa kp)) (fun _ => rfl) (fun r_16 _ H locs hw_16 hP hD hS => ?_)
    obtain ⟨hw_16, z_16⟩ := hw_16
    have hP : va_P δ vwCl (wR cI cJ cZ aR0 aR1 aR2 aR3 aR4 aR5 aR6 aR7 aR8 aR9 aR10 aR11 aR12 aR13 aR14 aR15 aR16 aR17 aR18 aR19 aR20 aR21 lv sg pd ac dd hd le bd my lf pa kp) H := hP
    have hD : va_D A (wR cI cJ cZ aR0 aR1 aR2 aR3 aR4 aR5 aR6 aR7 aR8 aR9 aR10 aR11 aR12 aR13 aR14 aR15 aR16 aR17 aR18 aR19 aR20 aR21 lv sg pd ac dd hd le bd my lf pa kp) := hD
    have hR := bnd_eq hR hw_16.symm
    refine lv_if_ne (tgt := 25) hx hb dX6_behind_19 (by decide) (fun c_19 => ?_) (fun c_19 => ?_)
    · have c_19 : ¬ (r_16 = 0) := c_19
      have hR := hR.trans (if_neg c_19)
      refine lv_aload_n hx hb dX6_behind_25 rfl (lv_at hl 0 rfl) ?_
      have hr := mrV (p := p) (e := e) (R := rm_X6_behind) (below := below) (meth := meth) (H := H) (locs := locs) (ls := ls) (As := []) (rest := []) (c_X6_refusal l δ cI cJ cZ aR0 aR1 aR2 aR3 aR4 aR5 aR6 aR7 aR8 aR9 aR10 aR11 aR12 aR13 aR14 aR15 aR16 aR17 aR18 aR19 aR20 aR21 lv sg pd ac dd hd le bd my lf pa kp hq hrk) hx hb hml hts hown hK hNW hP hD [0, 1, 2, 3, 4, 5, 6, 7, 8, 9, 10, 11, 12, 13, 14, 15, 16, 17, 18, 19, 20, 21] rfl rfl 6 0 rfl rfl (cwV 0 hts gX6_behind_X6_refusal rfl rfl rfl (by decide +kernel) ⟨(Nat.le_of_ble_eq_true rfl), (Nat.le_of_ble_eq_true rfl)⟩) rfl hl.1 rfl (Nat.le_of_ble_eq_true rfl) dX6_behind_26
      refine mc_i (wr := ([] : va_W)) hr hP hD hS hA [0, 1, 2, 3, 4, 5, 6, 7, 8, 9, 10, 11, 12, 13, 14, 15, 16, 17, 18, 19, 20, 21] [] [0, 1, 2, 3, 4, 5, 6, 7, 8, 9, 10, 11, 12, 13, 14, 15, 16, 17, 18, 19, 20, 21] rfl rfl rfl rfl rfl (wn := fun u_26 => (wR cI cJ cZ aR0 aR1 aR2 aR3 aR4 aR5 aR6 aR7 aR8 aR9 aR10 aR11 aR12 aR13 aR14 aR15 aR16 aR17 aR18 aR19 aR20 aR21 u_26.1 sg pd u_26.2.1 u_26.2.2.1 u_26.2.2.2.1 u_26.2.2.2.2.1 u_26.2.2.2.2.2 my lf pa kp)) (fun _ => rfl) (fun r_26 u_26 H locs hw_26 hP hD hS => ?_)
      have hP : va_P δ vwCl (wR cI cJ cZ aR0 aR1 aR2 aR3 aR4 aR5 aR6 aR7 aR8 aR9 aR10 aR11 aR12 aR13 aR14 aR15 aR16 aR17 aR18 aR19 aR20 aR21 u_26.1 sg pd u_26.2.1 u_26.2.2.1 u_26.2.2.2.1 u_26.2.2.2.2.1 u_26.2.2.2.2.2 my lf pa kp) H := hP
      have hD : va_D A (wR cI cJ cZ aR0 aR1 aR2 aR3 aR4 aR5 aR6 aR7 aR8 aR9 aR10 aR11 aR12 aR13 aR14 aR15 aR16 aR17 aR18 aR19 aR20 aR21 u_26.1 sg pd u_26.2.1 u_26.2.2.1 u_26.2.2.2.1 u_26.2.2.2.2.1 u_26.2.2.2.2.2 my lf pa kp) := hD
      have hR := bnd_eq hR hw_26.symm
      refine lv_istore_n (lv' := [(3, .int r_26), (0, .ref aR0), (1, .int xc), (2, .int xw)]) hx hb dX6_behind_29 rfl hl (by decide) rfl (fun ls hl => ?_)
      refine lv_iload_n hx hb dX6_behind_30 rfl (lv_at hl 0 rfl) ?_
      refine lv_bipush (v := (-6 : Int32)) hx hb dX6_behind_31 (by decide) ?_
      refine lv_icmp_eq (tgt := 40) hx hb dX6_behind_33 (by decide) (fun c_33 => ?_) (fun c_33 => ?_)
      · have c_33 : (r_26 = (-6 : Int32)) := c_33
        have hR := hR.trans (if_pos c_33)
        refine lv_iload_n hx hb dX6_behind_40 rfl (lv_at hl 3 rfl) ?_
        refine lv_iconst (v := (3 : Int32)) hx hb dX6_behind_41 (by decide) ?_
        refine lv_icmp_ne (tgt := 53) hx hb dX6_behind_42 (by decide) (fun c_42 => ?_) (fun c_42 => ?_)
        · have c_42 : ¬ (xw = (3 : Int32)) := c_42
          have hR := hR.trans (if_neg c_42)
          refine lv_aload_n hx hb dX6_behind_53 rfl (lv_at hl 1 rfl) ?_
          refine va_get (D := δ) (ci := 6) (v := .ref aR16) (C := RX6) (T := TX6) (N := 34) hx hb hts hinX6 hown hK hP 0 rfl rfl 24 (by decide) (hts (.fieldLink RX6 55 "GloveHoursModel" "leaves" "[I") (List.mem_of_getElem? (i := 2) rfl)) (fun _ h9 => h9) rfl dX6_behind_54 ?_
          refine lv_bipush (v := (6 : Int32)) hx hb dX6_behind_57 (by decide) ?_
          refine lv_iload_n hx hb dX6_behind_59 rfl (lv_at hl 3 rfl) ?_
          refine lv_imul hx hb dX6_behind_60 ?_
          refine lv_iload_n hx hb dX6_behind_61 rfl (lv_at hl 2 rfl) ?_
          refine lv_iadd hx hb dX6_behind_62 ?_
          refine va_iald hx hb hK hP 16 0 rfl rfl (beh_in hw_16 c_19 c_42 (court_in hw_2 c_5)) dX6_behind_63 ?_
          exact hret _ _ ((lLeaves u_26.2.2.2.2.1) (((6 : Int32) * xw) + xc).toNatClampNeg) (u_26.1, u_26.2.1, u_26.2.2.1, u_26.2.2.2.1, u_26.2.2.2.2.1, u_26.2.2.2.2.2) _ _ hR hP hD hS dX6_behind_64
        · have c_42 : (xw = (3 : Int32)) := c_42
          have hR := hR.trans (if_pos c_42)
          refine lv_aload_n hx hb dX6_behind_45 rfl (lv_at hl 1 rfl) ?_
          refine lv_iload_n hx hb dX6_behind_46 rfl (lv_at hl 2 rfl) ?_
          have hr := mrV (p := p) (e := e) (R := rm_X6_behind) (below := below) (meth := meth) (H := H) (locs := locs) (ls := ls) (As := [.int xc]) (rest := []) (c_X6_pairsLeft l δ cI cJ cZ aR0 aR1 aR2 aR3 aR4 aR5 aR6 aR7 aR8 aR9 aR10 aR11 aR12 aR13 aR14 aR15 aR16 aR17 aR18 aR19 aR20 aR21 u_26.1 sg pd u_26.2.1 u_26.2.2.1 u_26.2.2.2.1 u_26.2.2.2.2.1 u_26.2.2.2.2.2 my lf pa kp xc (court_in hw_2 c_5)) hx hb hml hts hown hK hNW hP hD [0, 1, 2, 3, 4, 5, 6, 7, 8, 9, 10, 11, 12, 13, 14, 15, 16, 17, 18, 19, 20, 21] rfl rfl 6 0 rfl rfl (cwV 1 hts gX6_behind_X6_pairsLeft rfl rfl rfl (by decide +kernel) ⟨(Nat.le_of_ble_eq_true rfl), (Nat.le_of_ble_eq_true rfl)⟩) rfl hl.1 rfl (Nat.le_of_ble_eq_true rfl) dX6_behind_47
          refine mc_i (wr := ([] : va_W)) hr hP hD hS hA [0, 1, 2, 3, 4, 5, 6, 7, 8, 9, 10, 11, 12, 13, 14, 15, 16, 17, 18, 19, 20, 21] [] [0, 1, 2, 3, 4, 5, 6, 7, 8, 9, 10, 11, 12, 13, 14, 15, 16, 17, 18, 19, 20, 21] rfl rfl rfl rfl rfl (wn := fun _ => (wR cI cJ cZ aR0 aR1 aR2 aR3 aR4 aR5 aR6 aR7 aR8 aR9 aR10 aR11 aR12 aR13 aR14 aR15 aR16 aR17 aR18 aR19 aR20 aR21 u_26.1 sg pd u_26.2.1 u_26.2.2.1 u_26.2.2.2.1 u_26.2.2.2.2.1 u_26.2.2.2.2.2 my lf pa kp)) (fun _ => rfl) (fun r_47 _ H locs hw_47 hP hD hS => ?_)
          have hP : va_P δ vwCl (wR cI cJ cZ aR0 aR1 aR2 aR3 aR4 aR5 aR6 aR7 aR8 aR9 aR10 aR11 aR12 aR13 aR14 aR15 aR16 aR17 aR18 aR19 aR20 aR21 u_26.1 sg pd u_26.2.1 u_26.2.2.1 u_26.2.2.2.1 u_26.2.2.2.2.1 u_26.2.2.2.2.2 my lf pa kp) H := hP
          have hD : va_D A (wR cI cJ cZ aR0 aR1 aR2 aR3 aR4 aR5 aR6 aR7 aR8 aR9 aR10 aR11 aR12 aR13 aR14 aR15 aR16 aR17 aR18 aR19 aR20 aR21 u_26.1 sg pd u_26.2.1 u_26.2.2.1 u_26.2.2.2.1 u_26.2.2.2.2.1 u_26.2.2.2.2.2 my lf pa kp) := hD
          have hR := bnd_eq hR hw_47.symm
          refine lv_goto (tgt := 64) hx hb dX6_behind_50 (by decide) ?_
          exact hret _ _ r_47 (u_26.1, u_26.2.1, u_26.2.2.1, u_26.2.2.2.1, u_26.2.2.2.2.1, u_26.2.2.2.2.2) _ _ hR hP hD hS dX6_behind_64
      · have c_33 : ¬ (r_26 = (-6 : Int32)) := c_33
        have hR := hR.trans (if_neg c_33)
        refine lv_iload_n hx hb dX6_behind_36 rfl (lv_at hl 0 rfl) ?_
        refine lv_goto (tgt := 64) hx hb dX6_behind_37 (by decide) ?_
        exact hret _ _ r_26 (u_26.1, u_26.2.1, u_26.2.2.1, u_26.2.2.2.1, u_26.2.2.2.2.1, u_26.2.2.2.2.2) _ _ hR hP hD hS dX6_behind_64
    · have c_19 : (r_16 = 0) := c_19
      have hR := hR.trans (if_pos c_19)
      refine lv_bipush (v := (-2 : Int32)) hx hb dX6_behind_22 (by decide) ?_
      exact hret _ _ (-2 : Int32) (lv, ac, dd, hd, le, bd) _ _ hR hP hD hS dX6_behind_24
  · have c_5 : (r_2 = 0) := c_5
    have hR := hR.trans (if_pos c_5)
    refine lv_iconst (v := (-1 : Int32)) hx hb dX6_behind_8 (by decide) ?_
    exact hret _ _ (-1 : Int32) (lv, ac, dd, hd, le, bd) _ _ hR hP hD hS dX6_behind_9
